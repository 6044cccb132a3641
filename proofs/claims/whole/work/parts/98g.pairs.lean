/-! each call, of the class and then of the reference -/
theorem bt_peer {t : Nat} {s : ST} {m : MM} {a : Int32} {b : Int32} (ht : t + 1001 < 2 ^ 30) (h : BO s m) (hI : INV t s) : CALL 38 109 [some (vr 7 (some 0)), some (vi a), some (vi b)] [some (vr 8 (some 0)), some (vi a), some (vi b)] (vi (o_peer s a b).1) m ((o_peer s a b).2) ∧ INV (t + 1000) ((o_peer s a b).2) := by
  obtain ⟨hl, h160, hno, hsr, hcl, hgk, hwk⟩ := inv_all hI
  exact ⟨both2 h (fun m h => go_peer h) (fun m h => rr_peer h), in_t (in_peer hI) (by omega)⟩
theorem bt_drawn {t : Nat} {s : ST} {m : MM} {a : Int32} (ht : t + 1001 < 2 ^ 30) (h : BO s m) (hI : INV t s) : CALL 39 110 [some (vr 7 (some 0)), some (vi a), none, none] [some (vr 8 (some 0)), some (vi a)] (vi (o_drawn s a).1) m ((o_drawn s a).2) ∧ INV (t + 1000) ((o_drawn s a).2) := by
  obtain ⟨hl, h160, hno, hsr, hcl, hgk, hwk⟩ := inv_all hI
  exact ⟨both2 h (fun m h => go_drawn h) (fun m h => rr_drawn h), in_t (in_drawn hI) (by omega)⟩
theorem bt_seed {t : Nat} {s : ST} {m : MM} {a : Int32} (ht : t + 1001 < 2 ^ 30) (h : BO s m) (hI : INV t s) : CALL 40 111 [some (vr 7 (some 0)), some (vi a)] [some (vr 8 (some 0)), some (vi a)] (vi (o_seed s a).1) m ((o_seed s a).2) ∧ INV (t + 1000) ((o_seed s a).2) := by
  obtain ⟨hl, h160, hno, hsr, hcl, hgk, hwk⟩ := inv_all hI
  exact ⟨both2 h (fun m h => go_seed h) (fun m h => rr_seed h), in_t (in_seed hI) (by omega)⟩
theorem bt_join {t : Nat} {s : ST} {m : MM} {a : Int32} {b : Int32} (ht : t + 1001 < 2 ^ 30) (h : BO s m) (hI : INV t s) : CALL 45 134 [some (vr 7 (some 0)), some (vi a), some (vi b), none, none, none] [some (vr 8 (some 0)), some (vi a), some (vi b), none] (vi (o_join s a b).1) m ((o_join s a b).2) ∧ INV (t + 1000) ((o_join s a b).2) := by
  obtain ⟨hl, h160, hno, hsr, hcl, hgk, hwk⟩ := inv_all hI
  exact ⟨both2 h (fun m h => go_join h hl) (fun m h => rr_join h hl hno), in_t (in_join hI) (by omega)⟩
theorem bt_leave {t : Nat} {s : ST} {m : MM} {a : Int32} (ht : t + 1001 < 2 ^ 30) (h : BO s m) (hI : INV t s) : CALL 46 135 [some (vr 7 (some 0)), some (vi a), none] [some (vr 8 (some 0)), some (vi a), none, none] (vi (o_leave s a).1) m ((o_leave s a).2) ∧ INV (t + 1000) ((o_leave s a).2) := by
  obtain ⟨hl, h160, hno, hsr, hcl, hgk, hwk⟩ := inv_all hI
  exact ⟨both2 h (fun m h => go_leave h h160 hsr) (fun m h => rr_leave h hcl h160 hno), in_t (in_leave hI) (by omega)⟩
theorem bt_again {t : Nat} {s : ST} {m : MM} {a : Int32} {b : Int32} (ht : t + 1001 < 2 ^ 30) (h : BO s m) (hI : INV t s) : CALL 47 136 [some (vr 7 (some 0)), some (vi a), some (vi b), none] [some (vr 8 (some 0)), some (vi a), some (vi b)] (vi (o_again s a b).1) m ((o_again s a b).2) ∧ INV (t + 1000) ((o_again s a b).2) := by
  obtain ⟨hl, h160, hno, hsr, hcl, hgk, hwk⟩ := inv_all hI
  exact ⟨both2 h (fun m h => go_again h h160) (fun m h => rr_again h hcl h160 hno), in_t (in_again hI) (by omega)⟩
theorem bt_find {t : Nat} {s : ST} {m : MM} {a : Int32} {b : Int32} (ht : t + 1001 < 2 ^ 30) (h : BO s m) (hI : INV t s) : CALL 52 138 [some (vr 7 (some 0)), some (vi a), some (vi b)] [some (vr 8 (some 0)), some (vi a), some (vi b)] (vi (o_ask2 s 0 a b b 0).1) m ((o_ask2 s 0 a b b 0).2) ∧ INV (t + 1000) ((o_ask2 s 0 a b b 0).2) := by
  obtain ⟨hl, h160, hno, hsr, hcl, hgk, hwk⟩ := inv_all hI
  exact ⟨both2 h (fun m h => go_find h hl) (fun m h => rr_find h hl), in_t (in_ask2 hI (by decide)) (by omega)⟩
theorem bt_span {t : Nat} {s : ST} {m : MM} {a : Int32} {b : Int32} {c : Int32} (ht : t + 1001 < 2 ^ 30) (h : BO s m) (hI : INV t s) : CALL 53 139 [some (vr 7 (some 0)), some (vi a), some (vi b), some (vi c)] [some (vr 8 (some 0)), some (vi a), some (vi b), some (vi c)] (vi (o_ask2 s 1 a b c 0).1) m ((o_ask2 s 1 a b c 0).2) ∧ INV (t + 1000) ((o_ask2 s 1 a b c 0).2) := by
  obtain ⟨hl, h160, hno, hsr, hcl, hgk, hwk⟩ := inv_all hI
  exact ⟨both2 h (fun m h => go_span h hl) (fun m h => rr_span h hl), in_t (in_ask2 hI (by decide)) (by omega)⟩
theorem bt_tally {t : Nat} {s : ST} {m : MM} {a : Int32} {b : Int32} {c : Int32} (ht : t + 1001 < 2 ^ 30) (h : BO s m) (hI : INV t s) : CALL 54 140 [some (vr 7 (some 0)), some (vi a), some (vi b), some (vi c)] [some (vr 8 (some 0)), some (vi a), some (vi b), some (vi c)] (vi (o_ask2 s 2 a b c 0).1) m ((o_ask2 s 2 a b c 0).2) ∧ INV (t + 1000) ((o_ask2 s 2 a b c 0).2) := by
  obtain ⟨hl, h160, hno, hsr, hcl, hgk, hwk⟩ := inv_all hI
  exact ⟨both2 h (fun m h => go_tally h hl) (fun m h => rr_tally h hl), in_t (in_ask2 hI (by decide)) (by omega)⟩
theorem bt_put {t : Nat} {s : ST} {m : MM} {a : Int32} {b : Int32} {v : Int64} (ht : t + 1001 < 2 ^ 30) (h : BO s m) (hI : INV t s) : CALL 55 141 [some (vr 7 (some 0)), some (vi a), some (vi b), some (vl v), none] [some (vr 8 (some 0)), some (vi a), some (vi b), some (vl v), none] (vi (o_ask2 s 3 a b b v).1) m ((o_ask2 s 3 a b b v).2) ∧ INV (t + 1000) ((o_ask2 s 3 a b b v).2) := by
  obtain ⟨hl, h160, hno, hsr, hcl, hgk, hwk⟩ := inv_all hI
  exact ⟨both2 h (fun m h => go_put h hl) (fun m h => rr_put h hl), in_t (in_ask2 hI (by decide)) (by omega)⟩
theorem bt_get {t : Nat} {s : ST} {m : MM} {a : Int32} {b : Int32} (ht : t + 1001 < 2 ^ 30) (h : BO s m) (hI : INV t s) : CALL 56 142 [some (vr 7 (some 0)), some (vi a), some (vi b)] [some (vr 8 (some 0)), some (vi a), some (vi b)] (vi (o_ask2 s 4 a b b 0).1) m ((o_ask2 s 4 a b b 0).2) ∧ INV (t + 1000) ((o_ask2 s 4 a b b 0).2) := by
  obtain ⟨hl, h160, hno, hsr, hcl, hgk, hwk⟩ := inv_all hI
  exact ⟨both2 h (fun m h => go_get h hl) (fun m h => rr_get h hl), in_t (in_ask2 hI (by decide)) (by omega)⟩
theorem bt_ask {t : Nat} {s : ST} {m : MM} {a : Int32} {b : Int32} (ht : t + 1001 < 2 ^ 30) (h : BO s m) (hI : INV t s) : CALL 60 144 [some (vr 7 (some 0)), some (vi a), some (vi b), none] [some (vr 8 (some 0)), some (vi a), some (vi b)] (vi (o_ask s a b)) m s ∧ INV (t + 1000) s := by
  obtain ⟨hl, h160, hno, hsr, hcl, hgk, hwk⟩ := inv_all hI
  exact ⟨both2 h (fun m h => ⟨m, go_ask h.2.2.2.1, h, fg_rf _ _⟩) (fun m h => ⟨m, rr_ask h.1 h.2.2.2.1, h, fs_rf _ _⟩), in_t hI (by omega)⟩
theorem bt_passed {t : Nat} {s : ST} {m : MM} {a : Int32} {b : Int32} (ht : t + 1001 < 2 ^ 30) (h : BO s m) (hI : INV t s) : CALL 61 145 [some (vr 7 (some 0)), some (vi a), some (vi b), none] [some (vr 8 (some 0)), some (vi a), some (vi b)] (vi (o_passed s a b)) m s ∧ INV (t + 1000) s := by
  obtain ⟨hl, h160, hno, hsr, hcl, hgk, hwk⟩ := inv_all hI
  exact ⟨both2 h (fun m h => ⟨m, go_passed h.2.2.2.1, h, fg_rf _ _⟩) (fun m h => ⟨m, rr_passed h.1 h.2.2.2.1, h, fs_rf _ _⟩), in_t hI (by omega)⟩
theorem bt_noted {t : Nat} {s : ST} {m : MM} {a : Int32} {b : Int32} (ht : t + 1001 < 2 ^ 30) (h : BO s m) (hI : INV t s) : CALL 62 146 [some (vr 7 (some 0)), some (vi a), some (vi b), none] [some (vr 8 (some 0)), some (vi a), some (vi b)] (vi (o_noted s a b)) m s ∧ INV (t + 1000) s := by
  obtain ⟨hl, h160, hno, hsr, hcl, hgk, hwk⟩ := inv_all hI
  exact ⟨both2 h (fun m h => ⟨m, go_noted h.2.2.2.1, h, fg_rf _ _⟩) (fun m h => ⟨m, rr_noted h.1 h.2.2.2.1, h, fs_rf _ _⟩), in_t hI (by omega)⟩
theorem bt_value {t : Nat} {s : ST} {m : MM} {a : Int32} (ht : t + 1001 < 2 ^ 30) (h : BO s m) (hI : INV t s) : CALL 63 147 [some (vr 7 (some 0)), some (vi a), none] [some (vr 8 (some 0)), some (vi a)] (vl (o_value s a)) m s ∧ INV (t + 1000) s := by
  obtain ⟨hl, h160, hno, hsr, hcl, hgk, hwk⟩ := inv_all hI
  exact ⟨both2 h (fun m h => ⟨m, go_value h.2.2.2.1, h, fg_rf _ _⟩) (fun m h => ⟨m, rr_value h.1 h.2.2.2.1, h, fs_rf _ _⟩), in_t hI (by omega)⟩
theorem bt_deliver {t : Nat} {s : ST} {m : MM} {a : Int32} (ht : t + 1001 < 2 ^ 30) (h : BO s m) (hI : INV t s) : CALL 64 150 [some (vr 7 (some 0)), some (vi a), none] [some (vr 8 (some 0)), some (vi a), none] (vi (o_deliver s a).1) m ((o_deliver s a).2) ∧ INV (t + 1000) ((o_deliver s a).2) := by
  obtain ⟨hl, h160, hno, hsr, hcl, hgk, hwk⟩ := inv_all hI
  exact ⟨both2 h (fun m h => go_deliver h hgk (fun j g e _ => (in_come (by omega) hI e).1.1)) (fun m h => rr_deliver h (fun g hg => (hgk g hg).1) (fun j g e _ => (in_come (by omega) hI e).1)), in_t (in_deliver (t := t) (by omega) hI) (by omega)⟩
theorem bt_all {t : Nat} {s : ST} {m : MM} {a : Int32} (ht : t + 1001 < 2 ^ 30) (h : BO s m) (hI : INV t s) : CALL 65 152 [some (vr 7 (some 0)), some (vi a), none, none] [some (vr 8 (some 0)), some (vi a), none] (vi (o_all s a).1) m ((o_all s a).2) ∧ INV (t + 1000) ((o_all s a).2) := by
  obtain ⟨hl, h160, hno, hsr, hcl, hgk, hwk⟩ := inv_all hI
  exact ⟨both2 h (fun m h => go_all2 (B := t + 1000) (t := t) (fun t s => INV t s) (fun t s tb hI => ⟨i0_gok hI.1, fun i g e _ => ⟨(in_come (by omega) hI e).1.1, (in_come (by omega) hI e).2⟩⟩) (by omega) hI h) (fun m h => rr_all2 (B := t + 1000) (t := t) (fun t s => INV t s) (fun t s tb hI => ⟨fun g hg => (i0_gok hI.1 g hg).1, fun i g e _ => in_come (by omega) hI e⟩) (by omega) hI h), in_t (in_all ht hI) (by omega)⟩
theorem bt_message {t : Nat} {s : ST} {m : MM} {a : Int32} {b : Int32} (ht : t + 1001 < 2 ^ 30) (h : BO s m) (hI : INV t s) : CALL 66 153 [some (vr 7 (some 0)), some (vi a), some (vi b), none] [some (vr 8 (some 0)), some (vi a), some (vi b)] (vi (o_message s a b)) m s ∧ INV (t + 1000) s := by
  obtain ⟨hl, h160, hno, hsr, hcl, hgk, hwk⟩ := inv_all hI
  exact ⟨both2 h (fun m h => ⟨m, go_message h.2.2.2.2.1 h.1 h.2.2.2.1 hgk, h, fg_rf _ _⟩) (fun m h => ⟨m, rr_message h.1 h.2.2.2.2.1, h, fs_rf _ _⟩), in_t hI (by omega)⟩
theorem bt_told {t : Nat} {s : ST} {m : MM} {a : Int32} {b : Int32} (ht : t + 1001 < 2 ^ 30) (h : BO s m) (hI : INV t s) : CALL 82 154 [some (vr 7 (some 0)), some (vi a), some (vi b), none] [some (vr 8 (some 0)), some (vi a), some (vi b), none, none] (vi (o_told s a b)) m s ∧ INV (t + 1000) s := by
  obtain ⟨hl, h160, hno, hsr, hcl, hgk, hwk⟩ := inv_all hI
  exact ⟨both2 h (fun m h => ⟨m, go_told h.1 h.2.2.2.2.2.1, h, fg_rf _ _⟩) (fun m h => ⟨m, rr_told h.1 h.2.1, h, fs_rf _ _⟩), in_t hI (by omega)⟩
theorem bt_name {t : Nat} {s : ST} {m : MM} {a : Int32} (ht : t + 1001 < 2 ^ 30) (h : BO s m) (hI : INV t s) : CALL 83 155 [some (vr 7 (some 0)), some (vi a), none] [some (vr 8 (some 0)), some (vi a)] (vi (o_name s a)) m s ∧ INV (t + 1000) s := by
  obtain ⟨hl, h160, hno, hsr, hcl, hgk, hwk⟩ := inv_all hI
  exact ⟨both2 h (fun m h => ⟨m, go_name h.1, h, fg_rf _ _⟩) (fun m h => ⟨m, rr_name h.1, h, fs_rf _ _⟩), in_t hI (by omega)⟩
theorem bt_beside {t : Nat} {s : ST} {m : MM} {a : Int32} {b : Int32} {c : Int32} (ht : t + 1001 < 2 ^ 30) (h : BO s m) (hI : INV t s) : CALL 84 156 [some (vr 7 (some 0)), some (vi a), some (vi b), some (vi c), none] [some (vr 8 (some 0)), some (vi a), some (vi b), some (vi c)] (vi (o_beside s a b c)) m s ∧ INV (t + 1000) s := by
  obtain ⟨hl, h160, hno, hsr, hcl, hgk, hwk⟩ := inv_all hI
  exact ⟨both2 h (fun m h => ⟨m, go_beside h.1 hcl, h, fg_rf _ _⟩) (fun m h => ⟨m, rr_beside h.1, h, fs_rf _ _⟩), in_t hI (by omega)⟩
theorem bt_key {t : Nat} {s : ST} {m : MM} {a : Int32} {b : Int32} (ht : t + 1001 < 2 ^ 30) (h : BO s m) (hI : INV t s) : CALL 85 157 [some (vr 7 (some 0)), some (vi a), some (vi b), none] [some (vr 8 (some 0)), some (vi a), some (vi b)] (vi (o_key s a b)) m s ∧ INV (t + 1000) s := by
  obtain ⟨hl, h160, hno, hsr, hcl, hgk, hwk⟩ := inv_all hI
  exact ⟨both2 h (fun m h => ⟨m, go_key h.1 h.2.2.2.2.2.1, h, fg_rf _ _⟩) (fun m h => ⟨m, rr_key h.1 h.2.1, h, fs_rf _ _⟩), in_t hI (by omega)⟩
theorem bt_kept {t : Nat} {s : ST} {m : MM} {a : Int32} {b : Int32} (ht : t + 1001 < 2 ^ 30) (h : BO s m) (hI : INV t s) : CALL 86 158 [some (vr 7 (some 0)), some (vi a), some (vi b), none] [some (vr 8 (some 0)), some (vi a), some (vi b)] (vl (o_kept s a b)) m s ∧ INV (t + 1000) s := by
  obtain ⟨hl, h160, hno, hsr, hcl, hgk, hwk⟩ := inv_all hI
  exact ⟨both2 h (fun m h => ⟨m, go_kept h.1 h.2.2.2.2.2.1, h, fg_rf _ _⟩) (fun m h => ⟨m, rr_kept h.1 h.2.1, h, fs_rf _ _⟩), in_t hI (by omega)⟩
theorem bt_keeper {t : Nat} {s : ST} {m : MM} {a : Int32} (ht : t + 1001 < 2 ^ 30) (h : BO s m) (hI : INV t s) : CALL 87 159 [some (vr 7 (some 0)), some (vi a), none, none, none, none] [some (vr 8 (some 0)), some (vi a), none, none, none] (vi (o_keeper s a)) m s ∧ INV (t + 1000) s := by
  obtain ⟨hl, h160, hno, hsr, hcl, hgk, hwk⟩ := inv_all hI
  exact ⟨both2 h (fun m h => ⟨m, go_keeper h.1, h, fg_rf _ _⟩) (fun m h => ⟨m, rr_keeper h.1, h, fs_rf _ _⟩), in_t hI (by omega)⟩
theorem bt_row {t : Nat} {s : ST} {m : MM} {a : Int32} {b : Int32} {c : Int32} (ht : t + 1001 < 2 ^ 30) (h : BO s m) (hI : INV t s) : CALL 88 161 [some (vr 7 (some 0)), some (vi a), some (vi b), some (vi c), none, none] [some (vr 8 (some 0)), some (vi a), some (vi b), some (vi c), none, none, none] (vi (o_row s a b c)) m s ∧ INV (t + 1000) s := by
  obtain ⟨hl, h160, hno, hsr, hcl, hgk, hwk⟩ := inv_all hI
  exact ⟨both2 h (fun m h => ⟨m, go_row h.1, h, fg_rf _ _⟩) (fun m h => ⟨m, rr_row h.1, h, fs_rf _ _⟩), in_t hI (by omega)⟩
theorem bt_sound {t : Nat} {s : ST} {m : MM} (ht : t + 1001 < 2 ^ 30) (h : BO s m) (hI : INV t s) : CALL 89 163 [some (vr 7 (some 0))] [some (vr 8 (some 0))] (vi (o_sound s)) m s ∧ INV (t + 1000) s := by
  obtain ⟨hl, h160, hno, hsr, hcl, hgk, hwk⟩ := inv_all hI
  exact ⟨both2 h (fun m h => ⟨m, go_sound h.1, h, fg_rf _ _⟩) (fun m h => RR_J h (rr_sound h.1 hcl)), in_t hI (by omega)⟩
theorem bt_why {t : Nat} {s : ST} {m : MM} {a : Int32} (ht : t + 1001 < 2 ^ 30) (h : BO s m) (hI : INV t s) : CALL 90 164 [some (vr 7 (some 0)), some (vi a), none, none, none] [some (vr 8 (some 0)), some (vi a)] (vi (o_why s a)) m s ∧ INV (t + 1000) s := by
  obtain ⟨hl, h160, hno, hsr, hcl, hgk, hwk⟩ := inv_all hI
  exact ⟨both2 h (fun m h => ⟨m, go_why h.1, h, fg_rf _ _⟩) (fun m h => RR_J h (rr_why h.1 hcl)), in_t hI (by omega)⟩
theorem bt_worst {t : Nat} {s : ST} {m : MM} (ht : t + 1001 < 2 ^ 30) (h : BO s m) (hI : INV t s) : CALL 91 165 [some (vr 7 (some 0)), none, none, none] [some (vr 8 (some 0)), none, none, none, none, none, none] (vi (o_worst s)) m s ∧ INV (t + 1000) s := by
  obtain ⟨hl, h160, hno, hsr, hcl, hgk, hwk⟩ := inv_all hI
  exact ⟨both2 h (fun m h => ⟨m, go_worst h.1 h.2.1 hcl (fun e p hp bp q hq bq => (hwk e p hp bp q).1), h, fg_rf _ _⟩) (fun m h => ⟨m, rr_worst h.1 h.2.2.2.2.2.1 hcl (fun e p hp bp q hq bq => hwk e p hp bp q), h, fs_rf _ _⟩), in_t hI (by omega)⟩
theorem bt_count {t : Nat} {s : ST} {m : MM} {a : Int32} (ht : t + 1001 < 2 ^ 30) (h : BO s m) (hI : INV t s) : CALL 92 166 [some (vr 7 (some 0)), some (vi a)] [some (vr 8 (some 0)), some (vi a)] (vi (o_count s a)) m s ∧ INV (t + 1000) s := by
  obtain ⟨hl, h160, hno, hsr, hcl, hgk, hwk⟩ := inv_all hI
  exact ⟨both2 h (fun m h => ⟨m, go_count h.1 h.2.2.2.1 h.2.1 h.2.2.1 h.2.2.2.2.1, h, fg_rf _ _⟩) (fun m h => ⟨m, rr_count h.1 h.2.2.2.1 h.2.2.2.2.2.1 h.2.2.1 h.2.2.2.2.1 (i0_asN hI.1), h, fs_rf _ _⟩), in_t hI (by omega)⟩
