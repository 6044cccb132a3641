/-! the class: frames where cells are made; the slots of the line; Line.add -/
def tC (m : MM) : Nat := mC m 1 + mC m 4 + mC m 5 + mC m 6 + mC m 9 + mC m 10 + mC m 12 + mC m 13 + mC m 14 + mC m 15
def fg (Q : Nat → Nat → Prop) (m m' : MM) : Prop := (∀ r n k, ¬ Q r n → mI m' r n k = mI m r n k ∧ mL m' r n k = mL m r n k ∧ mR m' r n k = mR m r n k) ∧ (∀ r n, ¬ Q r n → mN m' r n = mN m r n) ∧ (∀ r, (∀ n, ¬ Q r n) → mC m' r = mC m r) ∧ mT m' + tC m ≤ mT m + tC m' ∧ mS m' + 100 * tC m ≤ mS m + 100 * tC m'
theorem fg_rf (Q : Nat → Nat → Prop) (m : MM) : fg Q m m := ⟨fun _ _ _ _ => ⟨rfl, rfl, rfl⟩, fun _ _ _ => rfl, fun _ _ => rfl, Nat.le_refl _, Nat.le_refl _⟩
theorem fg_tr {Q : Nat → Nat → Prop} {a b c : MM} (h : fg Q a b) (g : fg Q b c) : fg Q a c :=
  ⟨fun r n k q => ⟨(g.1 r n k q).1.trans (h.1 r n k q).1, (g.1 r n k q).2.1.trans (h.1 r n k q).2.1, (g.1 r n k q).2.2.trans (h.1 r n k q).2.2⟩, fun r n q => (g.2.1 r n q).trans (h.2.1 r n q), fun r q => (g.2.2.1 r q).trans (h.2.2.1 r q), by
    have := h.2.2.2.1
    have := g.2.2.2.1
    omega, by
    have := h.2.2.2.2
    have := g.2.2.2.2
    omega⟩
theorem fg_le {Q Q' : Nat → Nat → Prop} {a b : MM} (h : fg Q a b) (hq : ∀ r n, Q r n → Q' r n) : fg Q' a b := ⟨fun r n k q => h.1 r n k (fun z => q (hq r n z)), fun r n q => h.2.1 r n (fun z => q (hq r n z)), fun r q => h.2.2.1 r (fun n z => q n (hq r n z)), h.2.2.2⟩
theorem fg_fr {Q : Nat → Nat → Prop} {m m' : MM} (h : fr Q m m') : fg Q m m' := by
  refine ⟨h.1, fun r n _ => h.2.2.1 r n, fun r _ => h.2.1 r, ?_, ?_⟩
  · rw [h.2.2.2.1]; unfold tC; simp only [h.2.1]; exact Nat.le_refl _
  · rw [h.2.2.2.2]; unfold tC; simp only [h.2.1]; exact Nat.le_refl _
theorem RCp_fg {s : ST} {m m' : MM} {Q : Nat → Nat → Prop} (h : RCp s m) (hf : fg Q m m') (hq : ∀ r n, Q r n → r ≠ 6 ∧ r ≠ 7 ∧ r ≠ 14 ∧ r ≠ 15 ∧ r ≠ 16) : RCp s m' := by
  obtain ⟨k1, k2, k3, k4, k5, k6, k7⟩ := h
  have n6 : ∀ n, ¬ Q 6 n := fun n z => (hq 6 n z).1 rfl
  have n7 : ∀ n, ¬ Q 7 n := fun n z => (hq 7 n z).2.1 rfl
  have n14 : ∀ n, ¬ Q 14 n := fun n z => (hq 14 n z).2.2.1 rfl
  have n15 : ∀ n, ¬ Q 15 n := fun n z => (hq 15 n z).2.2.2.1 rfl
  have n16 : ∀ n, ¬ Q 16 n := fun n z => (hq 16 n z).2.2.2.2 rfl
  refine ⟨k1, by rw [(hf.1 7 0 1 (n7 0)).1]; exact k2, by rw [(hf.1 7 0 0 (n7 0)).2.2]; exact k3, by rw [hf.2.1 _ _ (n16 0)]; exact k4, fun i hi => by rw [(hf.1 16 0 i (n16 0)).2.2]; exact k5 i hi, k6, fun i hi => ?_⟩
  obtain ⟨g0, g1, g2, g3, g4, g5, g6, g7, g8, g9, g10, g11, g12⟩ := k7 i hi
  exact ⟨by rw [(hf.1 6 i 0 (n6 i)).1]; exact g0, by rw [(hf.1 6 i 1 (n6 i)).1]; exact g1, by rw [(hf.1 6 i 2 (n6 i)).1]; exact g2, by rw [(hf.1 6 i 3 (n6 i)).1]; exact g3, by rw [(hf.1 6 i 4 (n6 i)).1]; exact g4,
    by rw [(hf.1 6 i 5 (n6 i)).2.2]; exact g5, by rw [(hf.1 6 i 6 (n6 i)).2.2]; exact g6, by rw [(hf.1 6 i 7 (n6 i)).2.2]; exact g7, by rw [(hf.1 6 i 8 (n6 i)).2.2]; exact g8, by rw [(hf.1 6 i 9 (n6 i)).2.2]; exact g9, by rw [hf.2.1 _ _ (n14 i)]; exact g10, by rw [hf.2.1 _ _ (n15 i)]; exact g11,
    fun l hl => ⟨by rw [(hf.1 14 i l (n14 i)).1]; exact (g12 l hl).1, by rw [(hf.1 15 i _ (n15 i)).2.2]; exact (g12 l hl).2.1, by rw [(hf.1 15 i _ (n15 i)).2.2]; exact (g12 l hl).2.2⟩⟩
theorem RCc_fg {s : ST} {m m' : MM} {Q : Nat → Nat → Prop} (h : RCc s m) (hf : fg Q m m') (hq : ∀ r n, Q r n → r ≠ 2 ∧ r ≠ 7) : RCc s m' := by
  obtain ⟨k1, k2, k3, k4, k5, k6, k7⟩ := h
  have n2 : ∀ n, ¬ Q 2 n := fun n z => (hq 2 n z).1 rfl
  have n7 : ∀ n, ¬ Q 7 n := fun n z => (hq 7 n z).2 rfl
  exact ⟨by rw [(hf.1 7 0 7 (n7 0)).2.2]; exact k1, by rw [(hf.1 2 0 0 (n2 0)).1]; exact k2, k3, by rw [(hf.1 2 0 1 (n2 0)).2.2]; exact k4, by rw [(hf.1 2 0 2 (n2 0)).1]; exact k5, fun z => by rw [(hf.1 2 0 3 (n2 0)).1]; exact k6 z, by rw [(hf.1 2 0 4 (n2 0)).2.2]; exact k7⟩
theorem RCk_fg {s : ST} {m m' : MM} {Q : Nat → Nat → Prop} (h : RCk s m) (hf : fg Q m m') (hq : ∀ r n, Q r n → r ≠ 18 ∧ r ≠ 7) : RCk s m' := by
  obtain ⟨k1, k2, k3, k4, k5, k6⟩ := h
  have n18 : ∀ n, ¬ Q 18 n := fun n z => (hq 18 n z).1 rfl
  have n7 : ∀ n, ¬ Q 7 n := fun n z => (hq 7 n z).2 rfl
  exact ⟨by rw [(hf.1 7 0 5 (n7 0)).1]; exact k1, k2, by rw [(hf.1 7 0 4 (n7 0)).2.2]; exact k3, by rw [hf.2.1 _ _ (n18 0)]; exact k4, fun i x hx => by rw [(hf.1 18 0 i (n18 0)).1]; exact k5 i x hx, by rw [(hf.1 7 0 8 (n7 0)).1]; exact k6⟩
theorem RCa_fg {s : ST} {m m' : MM} {Q : Nat → Nat → Prop} (h : RCa s m) (hf : fg Q m m') (hq : ∀ r n, Q r n → r ≠ 1 ∧ r ≠ 7 ∧ r ≠ 9 ∧ r ≠ 10 ∧ r ≠ 17) : RCa s m' := by
  obtain ⟨k1, k2, k3, k4, k5, k6, k7⟩ := h
  have n1 : ∀ n, ¬ Q 1 n := fun n z => (hq 1 n z).1 rfl
  have n7 : ∀ n, ¬ Q 7 n := fun n z => (hq 7 n z).2.1 rfl
  have n9 : ∀ n, ¬ Q 9 n := fun n z => (hq 9 n z).2.2.1 rfl
  have n10 : ∀ n, ¬ Q 10 n := fun n z => (hq 10 n z).2.2.2.1 rfl
  have n17 : ∀ n, ¬ Q 17 n := fun n z => (hq 17 n z).2.2.2.2 rfl
  refine ⟨k1, by rw [(hf.1 7 0 3 (n7 0)).1]; exact k2, by rw [(hf.1 7 0 2 (n7 0)).2.2]; exact k3, by rw [hf.2.1 _ _ (n17 0)]; exact k4, fun i hi => by rw [(hf.1 17 0 i (n17 0)).2.2]; exact k5 i hi, fun k hk => ?_, k7⟩
  obtain ⟨g0, g1, g2, g3, g4, g5, g6, g7, g8, g9, g10, g11, g12, g13, g14, g15, g16⟩ := k6 k hk
  have I := fun j => (hf.1 1 k j (n1 k)).1
  have R := fun j => (hf.1 1 k j (n1 k)).2.2
  exact ⟨by rw [I]; exact g0, by rw [I]; exact g1, by rw [I]; exact g2, by rw [I]; exact g3, by rw [(hf.1 1 k 4 (n1 k)).2.1]; exact g4, fun z => by rw [I]; exact g5 z, by rw [I]; exact g6, by rw [I]; exact g7, by rw [I]; exact g8, by rw [I]; exact g9, by rw [I]; exact g10, by rw [R]; exact g11, by rw [R]; exact g12, by rw [hf.2.1 _ _ (n9 k)]; exact g13, by rw [hf.2.1 _ _ (n10 k)]; exact g14,
    fun i x hx => by rw [(hf.1 9 k i (n9 k)).1]; exact g15 i x hx, fun z i x hx => by rw [(hf.1 10 k i (n10 k)).1]; exact g16 z i x hx⟩
theorem RCq_fg {s : ST} {m m' : MM} {Q : Nat → Nat → Prop} (h : RCq s m) (hf : fg Q m m') (hq : ∀ r n, Q r n → r ≠ 5 ∧ r ≠ 12 ∧ r ≠ 13) : RCq s m' := by
  have key : ∀ p L, RCl m p L → RCl m' p L := by
    intro p L hL
    obtain ⟨⟨h1, h2, h3, h4, h5, h6⟩, h7⟩ := hL
    have n5 : ¬ Q 5 p := fun z => (hq 5 p z).1 rfl
    have n12 : ¬ Q 12 p := fun z => (hq 12 p z).2.1 rfl
    have n13 : ¬ Q 13 p := fun z => (hq 13 p z).2.2 rfl
    refine ⟨⟨by rw [(hf.1 5 p 0 n5).2.2]; exact h1, by rw [(hf.1 5 p 1 n5).2.2]; exact h2, by rw [(hf.1 5 p 2 n5).1]; exact h3, h4, by rw [hf.2.1 _ _ n12]; exact h5, by rw [hf.2.1 _ _ n13]; exact h6⟩, fun j x hx => ?_⟩
    rw [(hf.1 12 p j n12).1, (hf.1 13 p j n13).2.1]
    exact h7 j x hx
  exact ⟨key 0 _ h.1, fun j hj => key (j + 1) _ (h.2 j hj)⟩
theorem RC3_fg {g : MSG} {m m' : MM} {n : Nat} {Q : Nat → Nat → Prop} (h : RC3 g m n) (hf : fg Q m m') (hq : ¬ Q 4 n) : RC3 g m' n := by
  obtain ⟨b0, b1, b2', b3, b4, b5, b6⟩ := h
  have I := fun j => (hf.1 4 n j hq).1
  have R := fun j => (hf.1 4 n j hq).2.2
  exact ⟨by rw [I]; exact b0, by rw [R]; exact b1, by rw [R]; exact b2', by rw [I]; exact b3, by rw [I]; exact b4, by rw [R]; exact b5, by rw [R]; exact b6⟩
/-- the slots: h of them hold messages, each its own; what was taken last stands apart -/
def RCs (s : ST) (m : MM) : Prop := ∃ h, (c_ms s).length ≤ h ∧ h ≤ 192 ∧ (∀ i, i < h → ∃ n, mR m 11 0 i = some n ∧ n < mC m 4 ∧ mR m 3 0 3 ≠ some n) ∧ (∀ i, h ≤ i → i < 192 → mR m 11 0 i = none) ∧ (∀ i j n, i < h → j < h → mR m 11 0 i = some n → mR m 11 0 j = some n → i = j) ∧ (mR m 3 0 3 = none → h = (c_ms s).length) ∧ mC m 4 = h + (if mR m 3 0 3 = none then 0 else 1) ∧ ∀ n, mR m 3 0 3 = some n → n < mC m 4
theorem RCm_fg {s : ST} {m m' : MM} {Q : Nat → Nat → Prop} (h : RCm s m) (hf : fg Q m m') (hq : ∀ r n, Q r n → r ≠ 3 ∧ r ≠ 7 ∧ r ≠ 4 ∧ r ≠ 11) : RCm s m' := by
  obtain ⟨k1, k2, k3, k4, k5, k6, k7⟩ := h
  have n3 : ∀ n, ¬ Q 3 n := fun n z => (hq 3 n z).1 rfl
  have n7 : ∀ n, ¬ Q 7 n := fun n z => (hq 7 n z).2.1 rfl
  have n4 : ∀ n, ¬ Q 4 n := fun n z => (hq 4 n z).2.2.1 rfl
  have n11 : ∀ n, ¬ Q 11 n := fun n z => (hq 11 n z).2.2.2 rfl
  refine ⟨by rw [(hf.1 7 0 6 (n7 0)).2.2]; exact k1, by rw [(hf.1 3 0 0 (n3 0)).2.2]; exact k2, by rw [hf.2.1 _ _ (n11 0)]; exact k3, by rw [(hf.1 3 0 1 (n3 0)).1]; exact k4, k5, by rw [(hf.1 3 0 2 (n3 0)).1]; exact k6, fun i g hg => ?_⟩
  obtain ⟨n, a1, a2⟩ := k7 i g hg
  exact ⟨n, by rw [(hf.1 11 0 i (n11 0)).2.2]; exact a1, RC3_fg a2 hf (n4 n)⟩
theorem RCs_fg {s : ST} {m m' : MM} {Q : Nat → Nat → Prop} (h : RCs s m) (hf : fg Q m m') (hq : ∀ r n, Q r n → r ≠ 3 ∧ r ≠ 4 ∧ r ≠ 11) : RCs s m' := by
  have n3 : ∀ n, ¬ Q 3 n := fun n z => (hq 3 n z).1 rfl
  have n4 : ∀ n, ¬ Q 4 n := fun n z => (hq 4 n z).2.1 rfl
  have n11 : ∀ n, ¬ Q 11 n := fun n z => (hq 11 n z).2.2 rfl
  have e1 : mR m' 3 0 3 = mR m 3 0 3 := (hf.1 3 0 3 (n3 0)).2.2
  have e2 : mC m' 4 = mC m 4 := hf.2.2.1 4 n4
  have e3 : ∀ i, mR m' 11 0 i = mR m 11 0 i := fun i => (hf.1 11 0 i (n11 0)).2.2
  unfold RCs
  simp only [e1, e2, e3]
  exact h
/-- what a send may write: the line, its slots, messages but the one taken last -/
def QA (m : MM) : Nat → Nat → Prop := fun r n => ((r = 3 ∨ r = 11) ∧ n = 0) ∨ (r = 4 ∧ mR m 3 0 3 ≠ some n)
theorem chM_snd (s : ST) (g : MSG) : chM (snd1 s g) = chM s + (if g_as g = none then 1 else 0) := by
  unfold chM snd1
  show List.length (List.filter _ (c_ms s ++ [g])) = _
  rw [List.filter_append, List.length_append]
  cases hg : g_as g <;> simp [hg]
theorem fg_sI {Q : Nat → Nat → Prop} (m : MM) {r n k : Nat} (v : Int32) (hq : Q r n) : fg Q m (sI m r n k v) := fg_fr (fr_sI m v hq)
theorem fg_sL {Q : Nat → Nat → Prop} (m : MM) {r n k : Nat} (v : Int64) (hq : Q r n) : fg Q m (sL m r n k v) := fg_fr (fr_sL m v hq)
theorem fg_sR {Q : Nat → Nat → Prop} (m : MM) {r n k : Nat} (v : Option Nat) (hq : Q r n) : fg Q m (sR m r n k v) := fg_fr (fr_sR m v hq)
