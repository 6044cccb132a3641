/-! JOIN comes -/
theorem st_J1 {t : Nat} {s : ST} {a b : Option Nat} (B1 : I_b s) (B : I_p s) (B2 : I_q t s) (a1 : c_ck s = 1) (a2 : c_cu s = false) (a3 : c_be s (c_cp s) = 1) (B3 : netC s 0 true) (B4 : tkL s = []) (na : NU (vw s) (c_cp s) 0 0 a) (nb : NU (vw s) (c_cp s) 0 1 b) :
    I_b (snd1 s (6, c_cp s, none, none, 0, a, b)) ∧ I_p (snd1 s (6, c_cp s, none, none, 0, a, b)) ∧ I_q t (snd1 s (6, c_cp s, none, none, 0, a, b)) ∧ I_c (snd1 s (6, c_cp s, none, none, 0, a, b)) :=
  ⟨ib_cg rfl rfl rfl rfl B1, ip_cg rfl rfl rfl rfl B, iq_snd B2 B3.1 rfl, Or.inl ⟨a1, a2, a3, nc_snd B3 rfl, Or.inr ⟨a, b, tk_snd B4 rfl, na, nb⟩⟩⟩
theorem st_J0 {t : Nat} {s : ST} {p : Nat} (hb : I_b s) (hp : I_p s) (hq : I_q t s) (a1 : c_ck s = 1) (a2 : c_cu s = false) (a3 : c_be s (c_cp s) = 1) (hN : netC s 0 true) (a4 : c_bg s = []) (hT : tkL s = []) (p1 : p < c_n s) (p2 : c_be s p = 2) :
    I_b (snd1 s (5, p, none, none, 0, none, none)) ∧ I_p (snd1 s (5, p, none, none, 0, none, none)) ∧ I_q t (snd1 s (5, p, none, none, 0, none, none)) ∧ I_c (snd1 s (5, p, none, none, 0, none, none)) :=
  ⟨ib_cg rfl rfl rfl rfl hb, ip_cg rfl rfl rfl rfl hp, iq_snd hq p1 rfl, Or.inl ⟨a1, a2, a3, nc_snd hN rfl, Or.inl ⟨a4, p, tk_snd hT rfl, p1, p2⟩⟩⟩
theorem st_J2 {t : Nat} {s : ST} {w : Nat} {a b : Option Nat} (p1 p2 : Int32 × Int64 → Bool) (hb : I_b s) (hp : I_p s) (hq : I_q t s) (a1 : c_ck s = 1) (a2 : c_cu s = false) (a3 : c_be s (c_cp s) = 1) (hN : netC s 0 true) (hT : tkL s = []) (w1 : w < c_n s) (na : NU (vw s) (c_cp s) 0 0 a) (nb : NU (vw s) (c_cp s) 0 1 b) :
    I_b (snd1 (bgS s (up1 (c_pr s) w ((c_pr s w).filter p1)) ((c_pr s w).filter p2)) (6, c_cp s, none, none, 0, a, b)) ∧ I_p (snd1 (bgS s (up1 (c_pr s) w ((c_pr s w).filter p1)) ((c_pr s w).filter p2)) (6, c_cp s, none, none, 0, a, b)) ∧ I_q t (snd1 (bgS s (up1 (c_pr s) w ((c_pr s w).filter p1)) ((c_pr s w).filter p2)) (6, c_cp s, none, none, 0, a, b)) ∧ I_c (snd1 (bgS s (up1 (c_pr s) w ((c_pr s w).filter p1)) ((c_pr s w).filter p2)) (6, c_cp s, none, none, 0, a, b)) := by
  have pw := hp.1 w w1
  have B := bgS_p (P := up1 (c_pr s) w ((c_pr s w).filter p1)) (B := (c_pr s w).filter p2) hp (up1_pr hp (pr_fil p1 pw)) (pr_fil p2 pw)
  have B1 := bgS_b (P := up1 (c_pr s) w ((c_pr s w).filter p1)) (B := (c_pr s w).filter p2) hb
  have B2 := bgS_q (P := up1 (c_pr s) w ((c_pr s w).filter p1)) (B := (c_pr s w).filter p2) hq
  have B3 := bgS_n (P := up1 (c_pr s) w ((c_pr s w).filter p1)) (B := (c_pr s w).filter p2) hN
  have B4 := bgS_t (P := up1 (c_pr s) w ((c_pr s w).filter p1)) (B := (c_pr s w).filter p2) hT
  obtain ⟨t1, t2, t3, t4, t5, t6, t7, t8, t9, t10, t11, t12, t13, t14, t15⟩ := bgS_f s (up1 (c_pr s) w ((c_pr s w).filter p1)) ((c_pr s w).filter p2)
  have r := st_J1 (a := a) (b := b) B1 B B2 (t1.trans a1) (t2.trans a2) (by rw [t15, t3]; exact a3) B3 B4 (by rw [t5, t3]; exact na) (by rw [t5, t3]; exact nb)
  rw [t3] at r
  exact r
theorem cj_eq (s : ST) (w : Nat) : comesJoin s w = match onw s w (c_nm s (c_cp s)) with
    | some p => snd1 s (5, p, none, none, 0, none, none)
    | none => if c_nm s w < c_nm s (c_cp s) then
      snd1 (bgS s (up1 (c_pr s) w ((c_pr s w).filter fun q => decide (q.1 < c_nm s (c_cp s)))) ((c_pr s w).filter fun q => decide (c_nm s (c_cp s) ≤ q.1))) (6, c_cp s, none, none, 0, some w, lnk s w 0 1)
      else
      snd1 (bgS s (up1 (c_pr s) w ((c_pr s w).filter fun q => decide (c_nm s w ≤ q.1))) ((c_pr s w).filter fun q => decide (q.1 < c_nm s w))) (6, c_cp s, none, none, 0, none, some w) := by
  unfold comesJoin
  rfl
theorem st_J {t : Nat} {s : ST} {w : Nat} (hb : I_b s) (hp : I_p s) (hq : I_q t s) (a1 : c_ck s = 1) (a2 : c_cu s = false) (a3 : c_be s (c_cp s) = 1) (hN : netC s 0 true) (a4 : c_bg s = []) (hT : tkL s = []) (w1 : w < c_n s) (w2 : c_be s w = 2) :
    I_b (comesJoin s w) ∧ I_p (comesJoin s w) ∧ I_q t (comesJoin s w) ∧ I_c (comesJoin s w) := by
  have w3 : w ≠ c_cp s := fun e => by rw [e, a3] at w2; cases w2
  obtain ⟨j1, j2, j3⟩ := st_join hb hN w1 w2 w3
  rw [cj_eq]
  cases e : onw s w (c_nm s (c_cp s)) with
  | some p =>
    obtain ⟨p1, p2⟩ := j1 p e
    exact st_J0 hb hp hq a1 a2 a3 hN a4 hT p1 p2
  | none =>
    by_cases c : c_nm s w < c_nm s (c_cp s)
    · simp only [if_pos c]
      exact st_J2 _ _ hb hp hq a1 a2 a3 hN hT w1 (j2 e c).1 (j2 e c).2
    · simp only [if_neg c]
      exact st_J2 _ _ hb hp hq a1 a2 a3 hN hT w1 (j3 e c).1 (j3 e c).2
