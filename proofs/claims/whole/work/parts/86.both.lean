/-! class and reference side by side -/
theorem fr_fs {m m' : MM} (h : fs QW m m') : fr (fun r _ => r = 8 ∨ 19 ≤ r) m m' := by
  obtain ⟨h1, h2, h3, h4, h5, h6⟩ := h
  refine ⟨fun r n k z => ⟨(h1 r n k z).1, (h1 r n k z).2, by rw [h2]⟩, fun r => by rw [h3], fun r n => by rw [h4], h5, h6⟩
theorem RC_fs {s : ST} {m m' : MM} (h : RC s m) (hf : fs QW m m') : RC s m' := by
  have F := fr_fs hf
  exact ⟨RCp_fr h.1 F (fun r n z => by omega), RCc_fr h.2.1 F (fun r n z => by omega), RCk_fr h.2.2.1 F (fun r n z => by omega), RCa_fr h.2.2.2.1 F (fun r n z => by omega), RCm_fr h.2.2.2.2.1 F (fun r n z => by omega), RCq_fr h.2.2.2.2.2.1 F (fun r n z => by omega), RCs_fg h.2.2.2.2.2.2.1 (fg_fr F) (fun r n z => by omega), RCn_fr h.2.2.2.2.2.2.2 F⟩
theorem RR_fg {s : ST} {m m' : MM} (h : RR s m) (hf : fg QZ m m') : RR s m' := by
  have q : ∀ r n, (r = 8 ∨ 19 ≤ r) → ¬ QZ r n := fun r n a z => by
    unfold QZ at z
    omega
  have i8 : ∀ n k, mI m' 8 n k = mI m 8 n k := fun n k => (hf.1 8 n k (q 8 n (by decide))).1
  have i19 : ∀ n k, mI m' 19 n k = mI m 19 n k := fun n k => (hf.1 19 n k (q 19 n (by decide))).1
  have i20 : ∀ n k, mI m' 20 n k = mI m 20 n k := fun n k => (hf.1 20 n k (q 20 n (by decide))).1
  have i21 : ∀ n k, mI m' 21 n k = mI m 21 n k := fun n k => (hf.1 21 n k (q 21 n (by decide))).1
  have i22 : ∀ n k, mI m' 22 n k = mI m 22 n k := fun n k => (hf.1 22 n k (q 22 n (by decide))).1
  have i23 : ∀ n k, mI m' 23 n k = mI m 23 n k := fun n k => (hf.1 23 n k (q 23 n (by decide))).1
  have i24 : ∀ n k, mI m' 24 n k = mI m 24 n k := fun n k => (hf.1 24 n k (q 24 n (by decide))).1
  have i25 : ∀ n k, mI m' 25 n k = mI m 25 n k := fun n k => (hf.1 25 n k (q 25 n (by decide))).1
  have i26 : ∀ n k, mI m' 26 n k = mI m 26 n k := fun n k => (hf.1 26 n k (q 26 n (by decide))).1
  have i27 : ∀ n k, mI m' 27 n k = mI m 27 n k := fun n k => (hf.1 27 n k (q 27 n (by decide))).1
  have i28 : ∀ n k, mI m' 28 n k = mI m 28 n k := fun n k => (hf.1 28 n k (q 28 n (by decide))).1
  have i29 : ∀ n k, mI m' 29 n k = mI m 29 n k := fun n k => (hf.1 29 n k (q 29 n (by decide))).1
  have i30 : ∀ n k, mI m' 30 n k = mI m 30 n k := fun n k => (hf.1 30 n k (q 30 n (by decide))).1
  have i31 : ∀ n k, mI m' 31 n k = mI m 31 n k := fun n k => (hf.1 31 n k (q 31 n (by decide))).1
  have i32 : ∀ n k, mI m' 32 n k = mI m 32 n k := fun n k => (hf.1 32 n k (q 32 n (by decide))).1
  have i33 : ∀ n k, mI m' 33 n k = mI m 33 n k := fun n k => (hf.1 33 n k (q 33 n (by decide))).1
  have i34 : ∀ n k, mI m' 34 n k = mI m 34 n k := fun n k => (hf.1 34 n k (q 34 n (by decide))).1
  have i35 : ∀ n k, mI m' 35 n k = mI m 35 n k := fun n k => (hf.1 35 n k (q 35 n (by decide))).1
  have i36 : ∀ n k, mI m' 36 n k = mI m 36 n k := fun n k => (hf.1 36 n k (q 36 n (by decide))).1
  have i37 : ∀ n k, mI m' 37 n k = mI m 37 n k := fun n k => (hf.1 37 n k (q 37 n (by decide))).1
  have i38 : ∀ n k, mI m' 38 n k = mI m 38 n k := fun n k => (hf.1 38 n k (q 38 n (by decide))).1
  have i39 : ∀ n k, mI m' 39 n k = mI m 39 n k := fun n k => (hf.1 39 n k (q 39 n (by decide))).1
  have i40 : ∀ n k, mI m' 40 n k = mI m 40 n k := fun n k => (hf.1 40 n k (q 40 n (by decide))).1
  have i41 : ∀ n k, mI m' 41 n k = mI m 41 n k := fun n k => (hf.1 41 n k (q 41 n (by decide))).1
  have i42 : ∀ n k, mI m' 42 n k = mI m 42 n k := fun n k => (hf.1 42 n k (q 42 n (by decide))).1
  have i43 : ∀ n k, mI m' 43 n k = mI m 43 n k := fun n k => (hf.1 43 n k (q 43 n (by decide))).1
  have i44 : ∀ n k, mI m' 44 n k = mI m 44 n k := fun n k => (hf.1 44 n k (q 44 n (by decide))).1
  have i45 : ∀ n k, mI m' 45 n k = mI m 45 n k := fun n k => (hf.1 45 n k (q 45 n (by decide))).1
  have i46 : ∀ n k, mI m' 46 n k = mI m 46 n k := fun n k => (hf.1 46 n k (q 46 n (by decide))).1
  have i47 : ∀ n k, mI m' 47 n k = mI m 47 n k := fun n k => (hf.1 47 n k (q 47 n (by decide))).1
  have i48 : ∀ n k, mI m' 48 n k = mI m 48 n k := fun n k => (hf.1 48 n k (q 48 n (by decide))).1
  have i49 : ∀ n k, mI m' 49 n k = mI m 49 n k := fun n k => (hf.1 49 n k (q 49 n (by decide))).1
  have i50 : ∀ n k, mI m' 50 n k = mI m 50 n k := fun n k => (hf.1 50 n k (q 50 n (by decide))).1
  have i51 : ∀ n k, mI m' 51 n k = mI m 51 n k := fun n k => (hf.1 51 n k (q 51 n (by decide))).1
  have l30 : ∀ n k, mL m' 30 n k = mL m 30 n k := fun n k => (hf.1 30 n k (q 30 n (by decide))).2.1
  have l42 : ∀ n k, mL m' 42 n k = mL m 42 n k := fun n k => (hf.1 42 n k (q 42 n (by decide))).2.1
  have l51 : ∀ n k, mL m' 51 n k = mL m 51 n k := fun n k => (hf.1 51 n k (q 51 n (by decide))).2.1
  have r8 : ∀ n k, mR m' 8 n k = mR m 8 n k := fun n k => (hf.1 8 n k (q 8 n (by decide))).2.2
  have n19 : ∀ n, mN m' 19 n = mN m 19 n := fun n => hf.2.1 19 n (q 19 n (by decide))
  have n20 : ∀ n, mN m' 20 n = mN m 20 n := fun n => hf.2.1 20 n (q 20 n (by decide))
  have n21 : ∀ n, mN m' 21 n = mN m 21 n := fun n => hf.2.1 21 n (q 21 n (by decide))
  have n22 : ∀ n, mN m' 22 n = mN m 22 n := fun n => hf.2.1 22 n (q 22 n (by decide))
  have n23 : ∀ n, mN m' 23 n = mN m 23 n := fun n => hf.2.1 23 n (q 23 n (by decide))
  have n24 : ∀ n, mN m' 24 n = mN m 24 n := fun n => hf.2.1 24 n (q 24 n (by decide))
  have n25 : ∀ n, mN m' 25 n = mN m 25 n := fun n => hf.2.1 25 n (q 25 n (by decide))
  have n26 : ∀ n, mN m' 26 n = mN m 26 n := fun n => hf.2.1 26 n (q 26 n (by decide))
  have n27 : ∀ n, mN m' 27 n = mN m 27 n := fun n => hf.2.1 27 n (q 27 n (by decide))
  have n28 : ∀ n, mN m' 28 n = mN m 28 n := fun n => hf.2.1 28 n (q 28 n (by decide))
  have n29 : ∀ n, mN m' 29 n = mN m 29 n := fun n => hf.2.1 29 n (q 29 n (by decide))
  have n30 : ∀ n, mN m' 30 n = mN m 30 n := fun n => hf.2.1 30 n (q 30 n (by decide))
  have n31 : ∀ n, mN m' 31 n = mN m 31 n := fun n => hf.2.1 31 n (q 31 n (by decide))
  have n32 : ∀ n, mN m' 32 n = mN m 32 n := fun n => hf.2.1 32 n (q 32 n (by decide))
  have n33 : ∀ n, mN m' 33 n = mN m 33 n := fun n => hf.2.1 33 n (q 33 n (by decide))
  have n34 : ∀ n, mN m' 34 n = mN m 34 n := fun n => hf.2.1 34 n (q 34 n (by decide))
  have n35 : ∀ n, mN m' 35 n = mN m 35 n := fun n => hf.2.1 35 n (q 35 n (by decide))
  have n36 : ∀ n, mN m' 36 n = mN m 36 n := fun n => hf.2.1 36 n (q 36 n (by decide))
  have n37 : ∀ n, mN m' 37 n = mN m 37 n := fun n => hf.2.1 37 n (q 37 n (by decide))
  have n38 : ∀ n, mN m' 38 n = mN m 38 n := fun n => hf.2.1 38 n (q 38 n (by decide))
  have n39 : ∀ n, mN m' 39 n = mN m 39 n := fun n => hf.2.1 39 n (q 39 n (by decide))
  have n40 : ∀ n, mN m' 40 n = mN m 40 n := fun n => hf.2.1 40 n (q 40 n (by decide))
  have n41 : ∀ n, mN m' 41 n = mN m 41 n := fun n => hf.2.1 41 n (q 41 n (by decide))
  have n42 : ∀ n, mN m' 42 n = mN m 42 n := fun n => hf.2.1 42 n (q 42 n (by decide))
  have n43 : ∀ n, mN m' 43 n = mN m 43 n := fun n => hf.2.1 43 n (q 43 n (by decide))
  have n44 : ∀ n, mN m' 44 n = mN m 44 n := fun n => hf.2.1 44 n (q 44 n (by decide))
  have n45 : ∀ n, mN m' 45 n = mN m 45 n := fun n => hf.2.1 45 n (q 45 n (by decide))
  have n46 : ∀ n, mN m' 46 n = mN m 46 n := fun n => hf.2.1 46 n (q 46 n (by decide))
  have n47 : ∀ n, mN m' 47 n = mN m 47 n := fun n => hf.2.1 47 n (q 47 n (by decide))
  have n48 : ∀ n, mN m' 48 n = mN m 48 n := fun n => hf.2.1 48 n (q 48 n (by decide))
  have n49 : ∀ n, mN m' 49 n = mN m 49 n := fun n => hf.2.1 49 n (q 49 n (by decide))
  have n50 : ∀ n, mN m' 50 n = mN m 50 n := fun n => hf.2.1 50 n (q 50 n (by decide))
  have n51 : ∀ n, mN m' 51 n = mN m 51 n := fun n => hf.2.1 51 n (q 51 n (by decide))
  unfold RR RRp RRq RRl RRk RRa RRm RRc RRb BGo RR1 RR2 RR3 FX FN at h ⊢
  simp only [i8, i19, i20, i21, i22, i23, i24, i25, i26, i27, i28, i29, i30, i31, i32, i33, i34, i35, i36, i37, i38, i39, i40, i41, i42, i43, i44, i45, i46, i47, i48, i49, i50, i51, l30, l42, l51, r8, n19, n20, n21, n22, n23, n24, n25, n26, n27, n28, n29, n30, n31, n32, n33, n34, n35, n36, n37, n38, n39, n40, n41, n42, n43, n44, n45, n46, n47, n48, n49, n50, n51]
  exact h
/-- both hold the state -/
def BO (s : ST) (m : MM) : Prop := RC s m ∧ RR s m
/-- what a call of both leaves of the rest: the script, and how much was made -/
def fb (m m' : MM) : Prop := (∀ n k, mI m' 0 n k = mI m 0 n k) ∧ (∀ n, mN m' 0 n = mN m 0 n) ∧ mT m' + tC m ≤ mT m + tC m' ∧ mS m' + 100 * tC m ≤ mS m + 100 * tC m'
theorem fb_rf (m : MM) : fb m m := ⟨fun _ _ => rfl, fun _ => rfl, Nat.le_refl _, Nat.le_refl _⟩
theorem fb_tr {a b c : MM} (h : fb a b) (g : fb b c) : fb a c := ⟨fun n k => (g.1 n k).trans (h.1 n k), fun n => (g.2.1 n).trans (h.2.1 n), by
    have := h.2.2.1
    have := g.2.2.1
    omega, by
    have := h.2.2.2
    have := g.2.2.2
    omega⟩
theorem fb_fg {m m' : MM} (h : fg QZ m m') : fb m m' := ⟨fun n k => (h.1 0 n k (fun z => by unfold QZ at z; omega)).1, fun n => h.2.1 0 n (fun z => by unfold QZ at z; omega), h.2.2.2.1, h.2.2.2.2⟩
theorem fb_fs {m m' : MM} (h : fs QW m m') : fb m m' := by
  obtain ⟨h1, h2, h3, h4, h5, h6⟩ := h
  have e : tC m' = tC m := by unfold tC; rw [h3]
  exact ⟨fun n k => (h1 0 n k (fun z => by unfold QW at z; omega)).1, fun n => by rw [h4], by rw [h5, e]; exact Nat.le_refl _, by rw [h6, e]; exact Nat.le_refl _⟩
/-- how much both have made -/
theorem BO_tC {s : ST} {m : MM} (h : BO s m) : tC m ≤ 3 * 160 + 193 + 6 * 32 + 3 := by
  obtain ⟨n1, n2, n3, n4, n5, n6, n7, n8, n9⟩ := h.1.2.2.2.2.2.2.2
  obtain ⟨hh, a1, a2, a3, a4, a5, a6, a7, a8⟩ := h.1.2.2.2.2.2.2.1
  have h1 : c_n s ≤ 32 := h.1.1.1
  have h2 : c_na s ≤ 160 := h.1.2.2.2.1.1
  have h4 : mC m 4 ≤ 193 := by
    rw [a7]
    by_cases e : mR m 3 0 3 = none
    · rw [if_pos e]; omega
    · rw [if_neg e]; omega
  unfold tC
  omega
/-- a call of the class, then the reference's: the two answers are one -/
theorem both {s s' : ST} {m : MM} {y1 y2 : Nat} {l1 l2 : LV} {x : Option AV} (h : BO s m) (h1 : ∀ m, RC s m → ∃ m', go y1 0 l1 [] m = some (x, m') ∧ RC s' m' ∧ fg QZ m m') (h2 : ∀ m, RR s m → ∃ m', go y2 0 l2 [] m = some (x, m') ∧ RR s' m' ∧ fs QW m m') :
    ∃ m1 m2, go y1 0 l1 [] m = some (x, m1) ∧ go y2 0 l2 [] m1 = some (x, m2) ∧ BO s' m2 ∧ fb m m2 := by
  obtain ⟨m1, a1, a2, a3⟩ := h1 m h.1
  obtain ⟨m2, b1, b2, b3⟩ := h2 m1 (RR_fg h.2 a3)
  exact ⟨m1, m2, a1, b1, ⟨RC_fs a2 b3, b2⟩, fb_tr (fb_fg a3) (fb_fs b3)⟩
