/-! the first state; the constructors -/
def s00 : ST := (0, fun _ => 0, fun _ => 0, fun _ => 0, fun _ => 0, fun _ _ => false, fun _ _ _ => none, fun _ _ => none, fun _ => [], 1, [], 0, fun _ => ak0 0 0 0 0, [], 0, 0, false, 0, [])
def lnM (m : MM) (n : Nat) : MM := sR (al m 11 192 192) 3 n 0 (some (mC m 11))
theorem go_initLine {m : MM} {n : Nat} : go 8 0 [some (vr 3 (some n))] [] m = some (none, lnM m n) := by
  simp only [s8_0, s8_1, s8_4, s8_5, s8_8k192, s8_11r, s8_11n, s8_14, eq_self, ixk_some, bd_some, nl_n, nl_i, nl_r, Option.toList_some, Option.toList_none, List.cons_append, List.nil_append]
  rfl
def cnM (m : MM) (n : Nat) : MM := sR (iniP (al (sI m 2 n 0 0) 5 0 3) (mC m 5)) 2 n 4 (some (mC m 5))
theorem go_initChange {m : MM} {n : Nat} : go 5 0 [some (vr 2 (some n))] [] m = some (none, cnM m n) := by
  have a1 := go_initPairs (m := al (sI m 2 n 0 0) 5 0 3) (q := mC m 5)
  have e2 : mC (sI m 2 n 0 0) 5 = mC m 5 := rfl
  simp only [s5_0, s5_1, s5_4, s5_5, s5_6, s5_9, s5_10, s5_13, s5_14, s5_17r, s5_17n, s5_20, eq_self, ixk_some, bd_some, nl_n, nl_i, nl_r, Option.toList_some, Option.toList_none, List.cons_append, List.nil_append, e2, a1]
  rfl
def iC1 (m : MM) : MM := sR (al m 16 32 32) 7 0 0 (some (mC m 16))
def iC2 (m : MM) : MM := sR (al m 17 160 160) 7 0 2 (some (mC m 17))
def iC3 (m : MM) : MM := sR (al m 18 16 16) 7 0 4 (some (mC m 18))
def iC4 (m : MM) : MM := sR (lnM (al m 3 0 4) (mC m 3)) 7 0 6 (some (mC m 3))
def iC5 (m : MM) : MM := sR (cnM (al m 2 0 5) (mC m 2)) 7 0 7 (some (mC m 2))
def iCl (m : MM) : MM := sI (iC5 (iC4 (iC3 (iC2 (iC1 (al m 7 0 9)))))) 7 0 8 1
theorem go_initClass {m : MM} : go 37 0 [some (vr 7 (some 0))] [] (al m 7 0 9) = some (none, iCl m) := by
  have st1 : go 37 0 [some (vr 7 (some 0))] [] (al m 7 0 9) = go 37 31 [some (vr 7 (some 0))] [] (iC3 (iC2 (iC1 (al m 7 0 9)))) := by
    simp only [s37_0, s37_1, s37_4, s37_5, s37_7k1, s37_7k16, s37_7k32, s37_7k160, s37_10r, s37_10n, s37_13, s37_14, s37_17k1, s37_17k16, s37_17k32, s37_17k160, s37_20r, s37_20n, s37_23, s37_24, s37_26k1, s37_26k16, s37_26k32, s37_26k160, s37_28r, s37_28n, eq_self, ixk_some, bd_some, nl_n, nl_i, nl_r, Option.toList_some, Option.toList_none, List.cons_append, List.nil_append]
    rfl
  rw [st1]
  generalize hA : iC3 (iC2 (iC1 (al m 7 0 9))) = A
  have a1 := go_initLine (m := al A 3 0 4) (n := mC A 3)
  have st2 : go 37 31 [some (vr 7 (some 0))] [] A = go 37 42 [some (vr 7 (some 0))] [] (iC4 A) := by
    simp only [s37_31, s37_32, s37_35, s37_36, s37_39r, s37_39n, eq_self, ixk_some, bd_some, nl_n, nl_i, nl_r, Option.toList_some, Option.toList_none, List.cons_append, List.nil_append, a1]
    rfl
  rw [st2]
  generalize hB : iC4 A = B
  have b1 := go_initChange (m := al B 2 0 5) (n := mC B 2)
  simp only [s37_42, s37_43, s37_46, s37_47, s37_50r, s37_50n, s37_53, s37_54, s37_55, s37_58, eq_self, ixk_some, bd_some, nl_n, nl_i, nl_r, Option.toList_some, Option.toList_none, List.cons_append, List.nil_append, b1]
  unfold iCl
  rw [hA, hB]
  rfl
theorem RC_init {m : MM} (hz : ∀ r, 1 ≤ r → r ≤ 18 → mC m r = 0) : RC s00 (iCl m) := by
  have z1 := hz 1 (by decide) (by decide)
  have z2 := hz 2 (by decide) (by decide)
  have z3 := hz 3 (by decide) (by decide)
  have z4 := hz 4 (by decide) (by decide)
  have z5 := hz 5 (by decide) (by decide)
  have z6 := hz 6 (by decide) (by decide)
  have z7 := hz 7 (by decide) (by decide)
  have z9 := hz 9 (by decide) (by decide)
  have z10 := hz 10 (by decide) (by decide)
  have z11 := hz 11 (by decide) (by decide)
  have z12 := hz 12 (by decide) (by decide)
  have z13 := hz 13 (by decide) (by decide)
  have z14 := hz 14 (by decide) (by decide)
  have z15 := hz 15 (by decide) (by decide)
  have z16 := hz 16 (by decide) (by decide)
  have z17 := hz 17 (by decide) (by decide)
  have z18 := hz 18 (by decide) (by decide)
  have e71 : mI (iCl m) 7 0 1 = 0 := by simp [iCl, iC1, iC2, iC3, iC4, iC5, lnM, cnM, iniP, mI_sI, mI_sR, mI_al, mC_sI, mC_sR, mC_al, z7]
  have e73 : mI (iCl m) 7 0 3 = 0 := by simp [iCl, iC1, iC2, iC3, iC4, iC5, lnM, cnM, iniP, mI_sI, mI_sR, mI_al, mC_sI, mC_sR, mC_al, z7]
  have e75 : mI (iCl m) 7 0 5 = 0 := by simp [iCl, iC1, iC2, iC3, iC4, iC5, lnM, cnM, iniP, mI_sI, mI_sR, mI_al, mC_sI, mC_sR, mC_al, z7]
  have e78 : mI (iCl m) 7 0 8 = 1 := by simp [iCl, mI_sI]
  have r70 : mR (iCl m) 7 0 0 = some 0 := by simp [iCl, iC1, iC2, iC3, iC4, iC5, lnM, cnM, iniP, mR_sI, mR_sR, mR_al, mC_sI, mC_sR, mC_al, z7, z16, z2, z3, z5, z11, z12, z13, z17, z18]
  have r72 : mR (iCl m) 7 0 2 = some 0 := by simp [iCl, iC1, iC2, iC3, iC4, iC5, lnM, cnM, iniP, mR_sI, mR_sR, mR_al, mC_sI, mC_sR, mC_al, z7, z16, z2, z3, z5, z11, z12, z13, z17, z18]
  have r74 : mR (iCl m) 7 0 4 = some 0 := by simp [iCl, iC1, iC2, iC3, iC4, iC5, lnM, cnM, iniP, mR_sI, mR_sR, mR_al, mC_sI, mC_sR, mC_al, z7, z16, z2, z3, z5, z11, z12, z13, z17, z18]
  have r76 : mR (iCl m) 7 0 6 = some 0 := by simp [iCl, iC1, iC2, iC3, iC4, iC5, lnM, cnM, iniP, mR_sI, mR_sR, mR_al, mC_sI, mC_sR, mC_al, z7, z16, z2, z3, z5, z11, z12, z13, z17, z18]
  have r77 : mR (iCl m) 7 0 7 = some 0 := by simp [iCl, iC1, iC2, iC3, iC4, iC5, lnM, cnM, iniP, mR_sI, mR_sR, mR_al, mC_sI, mC_sR, mC_al, z7, z16, z2, z3, z5, z11, z12, z13, z17, z18]
  have n16 : mN (iCl m) 16 0 = 32 := by simp [iCl, iC1, iC2, iC3, iC4, iC5, lnM, cnM, iniP, mN_sI, mN_sR, mN_al, mC_sI, mC_sR, mC_al, z16]
  have n17 : mN (iCl m) 17 0 = 160 := by simp [iCl, iC1, iC2, iC3, iC4, iC5, lnM, cnM, iniP, mN_sI, mN_sR, mN_al, mC_sI, mC_sR, mC_al, z17]
  have n18 : mN (iCl m) 18 0 = 16 := by simp [iCl, iC1, iC2, iC3, iC4, iC5, lnM, cnM, iniP, mN_sI, mN_sR, mN_al, mC_sI, mC_sR, mC_al, z18]
  have n11 : mN (iCl m) 11 0 = 192 := by simp [iCl, iC1, iC2, iC3, iC4, iC5, lnM, cnM, iniP, mN_sI, mN_sR, mN_al, mC_sI, mC_sR, mC_al, z11]
  have n12 : mN (iCl m) 12 0 = 16 := by simp [iCl, iC1, iC2, iC3, iC4, iC5, lnM, cnM, iniP, mN_sI, mN_sR, mN_al, mC_sI, mC_sR, mC_al, z12]
  have n13 : mN (iCl m) 13 0 = 16 := by simp [iCl, iC1, iC2, iC3, iC4, iC5, lnM, cnM, iniP, mN_sI, mN_sR, mN_al, mC_sI, mC_sR, mC_al, z13]
  have e20 : mI (iCl m) 2 0 0 = 0 := by simp [iCl, iC1, iC2, iC3, iC4, iC5, lnM, cnM, iniP, mI_sI, mI_sR, mI_al, mC_sI, mC_sR, mC_al, z2]
  have e22 : mI (iCl m) 2 0 2 = 0 := by simp [iCl, iC1, iC2, iC3, iC4, iC5, lnM, cnM, iniP, mI_sI, mI_sR, mI_al, mC_sI, mC_sR, mC_al, z2]
  have r21 : mR (iCl m) 2 0 1 = none := by simp [iCl, iC1, iC2, iC3, iC4, iC5, lnM, cnM, iniP, mR_sI, mR_sR, mR_al, mC_sI, mC_sR, mC_al, z2]
  have r24 : mR (iCl m) 2 0 4 = some 0 := by simp [iCl, iC1, iC2, iC3, iC4, iC5, lnM, cnM, iniP, mR_sI, mR_sR, mR_al, mC_sI, mC_sR, mC_al, z2, z5]
  have e31 : mI (iCl m) 3 0 1 = 0 := by simp [iCl, iC1, iC2, iC3, iC4, iC5, lnM, cnM, iniP, mI_sI, mI_sR, mI_al, mC_sI, mC_sR, mC_al, z3]
  have e32 : mI (iCl m) 3 0 2 = 0 := by simp [iCl, iC1, iC2, iC3, iC4, iC5, lnM, cnM, iniP, mI_sI, mI_sR, mI_al, mC_sI, mC_sR, mC_al, z3]
  have r30 : mR (iCl m) 3 0 0 = some 0 := by simp [iCl, iC1, iC2, iC3, iC4, iC5, lnM, cnM, iniP, mR_sI, mR_sR, mR_al, mC_sI, mC_sR, mC_al, z3, z11]
  have r33 : mR (iCl m) 3 0 3 = none := by simp [iCl, iC1, iC2, iC3, iC4, iC5, lnM, cnM, iniP, mR_sI, mR_sR, mR_al, mC_sI, mC_sR, mC_al, z3]
  have r11 : ∀ i, mR (iCl m) 11 0 i = none := by intro i; simp [iCl, iC1, iC2, iC3, iC4, iC5, lnM, cnM, iniP, mR_sI, mR_sR, mR_al, mC_sI, mC_sR, mC_al, z11]
  have r50 : mR (iCl m) 5 0 0 = some 0 := by simp [iCl, iC1, iC2, iC3, iC4, iC5, lnM, cnM, iniP, mR_sI, mR_sR, mR_al, mC_sI, mC_sR, mC_al, z5, z12]
  have r51 : mR (iCl m) 5 0 1 = some 0 := by simp [iCl, iC1, iC2, iC3, iC4, iC5, lnM, cnM, iniP, mR_sI, mR_sR, mR_al, mC_sI, mC_sR, mC_al, z5, z13]
  have e52 : mI (iCl m) 5 0 2 = 0 := by simp [iCl, iC1, iC2, iC3, iC4, iC5, lnM, cnM, iniP, mI_sI, mI_sR, mI_al, mC_sI, mC_sR, mC_al, z5]
  have C : ∀ r, mC (iCl m) r = if r = 13 then mC m 13 + 1 else if r = 12 then mC m 12 + 1 else if r = 5 then mC m 5 + 1 else if r = 2 then mC m 2 + 1 else if r = 11 then mC m 11 + 1 else if r = 3 then mC m 3 + 1 else if r = 18 then mC m 18 + 1 else if r = 17 then mC m 17 + 1 else if r = 16 then mC m 16 + 1 else if r = 7 then mC m 7 + 1 else mC m r := fun r => rfl
  generalize iCl m = M at *
  refine ⟨⟨Nat.zero_le _, e71, r70, n16, fun i hi => absurd hi (Nat.not_lt_zero i), fun i hi => absurd hi (Nat.not_lt_zero i), fun i hi => absurd hi (Nat.not_lt_zero i)⟩, ⟨r77, e20, Nat.zero_le _, r21, e22, fun z => absurd (show 0 = 3 from z) (by decide), r24⟩, ⟨e75, Nat.zero_le _, r74, n18, fun i x hx => by have hx : ([] : List Int32)[i]? = some x := hx; simp at hx, e78⟩, ⟨Nat.zero_le _, e73, r72, n17, fun i hi => absurd hi (Nat.not_lt_zero i), fun i hi => absurd hi (Nat.not_lt_zero i), fun i hi => absurd hi (Nat.not_lt_zero i)⟩, ⟨r76, r30, n11, e31, Nat.zero_le _, e32, fun i g hg => by have hg : ([] : List MSG)[i]? = some g := hg; simp at hg⟩, ⟨⟨⟨r50, r51, e52, Nat.zero_le _, n12, n13⟩, fun i x hx => by have hx : ([] : PRS)[i]? = some x := hx; simp at hx⟩, fun i hi => absurd hi (Nat.not_lt_zero i)⟩, ⟨0, Nat.zero_le _, by decide, fun i hi => absurd hi (Nat.not_lt_zero i), fun i _ _ => r11 i, fun i j n hi => absurd hi (Nat.not_lt_zero i), fun _ => rfl, ?_, fun n hn => by rw [r33] at hn; cases hn⟩, ?_⟩
  · rw [r33, C]
    simp [z4]
  · refine ⟨?_, ?_, ?_, ?_, ?_, ?_, ?_, ?_, ?_⟩ <;> rw [C] <;> simp [z1, z4, z5, z6, z9, z10, z12, z13, z14, z15] <;> rfl
