/-! the reference's constructor -/
def stp (m : MM) (r f len : Nat) : MM := sR (al m r len len) 8 0 f (some (mC m r))
theorem st_R (m : MM) (r f len g : Nat) (h : (r == 8) = false) : mR (stp m r f len) 8 0 g = if g = f then some (mC m r) else mR m 8 0 g := by
  have h : ¬ 8 = r := fun z => by rw [← z] at h; cases h
  unfold stp
  rw [mR_sR, mR_al, if_neg (fun z => h z.1)]
  by_cases e : g = f
  · rw [if_pos ⟨rfl, rfl, e⟩, if_pos e]
  · rw [if_neg (fun z => e z.2.2), if_neg e]
theorem st_I (m : MM) (r f len g : Nat) (h : (r == 8) = false) : mI (stp m r f len) 8 0 g = mI m 8 0 g := by
  have h : ¬ 8 = r := fun z => by rw [← z] at h; cases h
  unfold stp
  rw [mI_sR, mI_al, if_neg (fun z => h z.1)]
theorem st_C (m : MM) (r f len a : Nat) : mC (stp m r f len) a = if a = r then mC m r + 1 else mC m a := rfl
theorem st_N (m : MM) (r f len a : Nat) : mN (stp m r f len) a 0 = if a = r ∧ 0 = mC m r then len else mN m a 0 := rfl
def iR1 (m : MM) : MM := stp (stp (stp (stp (stp (stp (stp (stp (stp (stp (stp (m) 19 2 32) 20 3 32) 21 4 32) 22 5 32) 23 6 288) 24 7 288) 25 8 288) 26 9 32) 27 10 32) 28 11 32) 29 12 512
def iR2 (m : MM) : MM := stp (stp (stp (stp (stp (stp (stp (stp (stp (stp (stp (m) 30 13 512) 31 15 16) 32 19 160) 33 20 160) 34 21 160) 35 22 160) 36 23 6400) 37 24 6400) 38 25 160) 39 26 160) 40 27 160
def iR3 (m : MM) : MM := stp (stp (stp (stp (stp (stp (stp (stp (stp (stp (stp (m) 41 28 160) 42 29 160) 43 31 600) 44 32 600) 45 33 600) 46 34 600) 47 35 600) 48 36 600) 49 37 600) 50 39 16) 51 40 16
def iRf (m : MM) : MM := iR3 (iR2 (iR1 (sI (al m 8 0 48) 8 0 1 1)))
theorem go_initRef1 {m : MM} : go 102 0 [some (vr 8 (some 0))] [] (al m 8 0 48) = go 102 101 [some (vr 8 (some 0))] [] (iR1 (sI (al m 8 0 48) 8 0 1 1)) := by
  simp only [s102_0, s102_1, s102_4, s102_5, s102_6, s102_9, s102_10, s102_12k1, s102_12k16, s102_12k32, s102_12k160, s102_12k288, s102_12k512, s102_12k600, s102_12k6400, s102_14r, s102_14n, s102_17, s102_18, s102_20k1, s102_20k16, s102_20k32, s102_20k160, s102_20k288, s102_20k512, s102_20k600, s102_20k6400, s102_22r, s102_22n, s102_25, s102_26, s102_28k1, s102_28k16, s102_28k32, s102_28k160, s102_28k288, s102_28k512, s102_28k600, s102_28k6400, s102_30r, s102_30n, s102_33, s102_34, s102_36k1, s102_36k16, s102_36k32, s102_36k160, s102_36k288, s102_36k512, s102_36k600, s102_36k6400, s102_38r, s102_38n, s102_41, s102_42, s102_45k1, s102_45k16, s102_45k32, s102_45k160, s102_45k288, s102_45k512, s102_45k600, s102_45k6400, s102_47r, s102_47n, s102_50, s102_51, s102_54k1, s102_54k16, s102_54k32, s102_54k160, s102_54k288, s102_54k512, s102_54k600, s102_54k6400, s102_56r, s102_56n, s102_59, s102_60, s102_63k1, s102_63k16, s102_63k32, s102_63k160, s102_63k288, s102_63k512, s102_63k600, s102_63k6400, s102_65r, s102_65n, s102_68, s102_69, s102_71k1, s102_71k16, s102_71k32, s102_71k160, s102_71k288, s102_71k512, s102_71k600, s102_71k6400, s102_73r, s102_73n, s102_76, s102_77, s102_79k1, s102_79k16, s102_79k32, s102_79k160, s102_79k288, s102_79k512, s102_79k600, s102_79k6400, s102_81r, s102_81n, s102_84, s102_85, s102_87k1, s102_87k16, s102_87k32, s102_87k160, s102_87k288, s102_87k512, s102_87k600, s102_87k6400, s102_89r, s102_89n, s102_92, s102_93, s102_96k1, s102_96k16, s102_96k32, s102_96k160, s102_96k288, s102_96k512, s102_96k600, s102_96k6400, s102_98r, s102_98n, eq_self, ixk_some, bd_some, nl_n, nl_i, nl_r, Option.toList_some, Option.toList_none, List.cons_append, List.nil_append]
  rfl
theorem go_initRef2 {A : MM} : go 102 101 [some (vr 8 (some 0))] [] A = go 102 199 [some (vr 8 (some 0))] [] (iR2 A) := by
  simp only [s102_101, s102_102, s102_105k1, s102_105k16, s102_105k32, s102_105k160, s102_105k288, s102_105k512, s102_105k600, s102_105k6400, s102_107r, s102_107n, s102_110, s102_111, s102_113k1, s102_113k16, s102_113k32, s102_113k160, s102_113k288, s102_113k512, s102_113k600, s102_113k6400, s102_115r, s102_115n, s102_118, s102_119, s102_122k1, s102_122k16, s102_122k32, s102_122k160, s102_122k288, s102_122k512, s102_122k600, s102_122k6400, s102_124r, s102_124n, s102_127, s102_128, s102_131k1, s102_131k16, s102_131k32, s102_131k160, s102_131k288, s102_131k512, s102_131k600, s102_131k6400, s102_133r, s102_133n, s102_136, s102_137, s102_140k1, s102_140k16, s102_140k32, s102_140k160, s102_140k288, s102_140k512, s102_140k600, s102_140k6400, s102_142r, s102_142n, s102_145, s102_146, s102_149k1, s102_149k16, s102_149k32, s102_149k160, s102_149k288, s102_149k512, s102_149k600, s102_149k6400, s102_151r, s102_151n, s102_154, s102_155, s102_158k1, s102_158k16, s102_158k32, s102_158k160, s102_158k288, s102_158k512, s102_158k600, s102_158k6400, s102_160r, s102_160n, s102_163, s102_164, s102_167k1, s102_167k16, s102_167k32, s102_167k160, s102_167k288, s102_167k512, s102_167k600, s102_167k6400, s102_169r, s102_169n, s102_172, s102_173, s102_176k1, s102_176k16, s102_176k32, s102_176k160, s102_176k288, s102_176k512, s102_176k600, s102_176k6400, s102_178r, s102_178n, s102_181, s102_182, s102_185k1, s102_185k16, s102_185k32, s102_185k160, s102_185k288, s102_185k512, s102_185k600, s102_185k6400, s102_187r, s102_187n, s102_190, s102_191, s102_194k1, s102_194k16, s102_194k32, s102_194k160, s102_194k288, s102_194k512, s102_194k600, s102_194k6400, s102_196r, s102_196n, eq_self, ixk_some, bd_some, nl_n, nl_i, nl_r, Option.toList_some, Option.toList_none, List.cons_append, List.nil_append]
  rfl
theorem go_initRef3 {A : MM} : go 102 199 [some (vr 8 (some 0))] [] A = some (none, iR3 A) := by
  simp only [s102_199, s102_200, s102_203k1, s102_203k16, s102_203k32, s102_203k160, s102_203k288, s102_203k512, s102_203k600, s102_203k6400, s102_205r, s102_205n, s102_208, s102_209, s102_212k1, s102_212k16, s102_212k32, s102_212k160, s102_212k288, s102_212k512, s102_212k600, s102_212k6400, s102_214r, s102_214n, s102_217, s102_218, s102_221k1, s102_221k16, s102_221k32, s102_221k160, s102_221k288, s102_221k512, s102_221k600, s102_221k6400, s102_223r, s102_223n, s102_226, s102_227, s102_230k1, s102_230k16, s102_230k32, s102_230k160, s102_230k288, s102_230k512, s102_230k600, s102_230k6400, s102_232r, s102_232n, s102_235, s102_236, s102_239k1, s102_239k16, s102_239k32, s102_239k160, s102_239k288, s102_239k512, s102_239k600, s102_239k6400, s102_241r, s102_241n, s102_244, s102_245, s102_248k1, s102_248k16, s102_248k32, s102_248k160, s102_248k288, s102_248k512, s102_248k600, s102_248k6400, s102_250r, s102_250n, s102_253, s102_254, s102_257k1, s102_257k16, s102_257k32, s102_257k160, s102_257k288, s102_257k512, s102_257k600, s102_257k6400, s102_259r, s102_259n, s102_262, s102_263, s102_266k1, s102_266k16, s102_266k32, s102_266k160, s102_266k288, s102_266k512, s102_266k600, s102_266k6400, s102_268r, s102_268n, s102_271, s102_272, s102_275k1, s102_275k16, s102_275k32, s102_275k160, s102_275k288, s102_275k512, s102_275k600, s102_275k6400, s102_277r, s102_277n, s102_280, s102_281, s102_283k1, s102_283k16, s102_283k32, s102_283k160, s102_283k288, s102_283k512, s102_283k600, s102_283k6400, s102_285r, s102_285n, s102_288, s102_289, s102_291k1, s102_291k16, s102_291k32, s102_291k160, s102_291k288, s102_291k512, s102_291k600, s102_291k6400, s102_293r, s102_293n, s102_296, eq_self, ixk_some, bd_some, nl_n, nl_i, nl_r, Option.toList_some, Option.toList_none, List.cons_append, List.nil_append]
  rfl
theorem go_initRef {m : MM} : go 102 0 [some (vr 8 (some 0))] [] (al m 8 0 48) = some (none, iRf m) := by
  rw [go_initRef1, go_initRef2, go_initRef3]
  rfl
theorem RR_init {m : MM} (hz : ∀ r, r = 8 ∨ 19 ≤ r → mC m r = 0) : RR s00 (iRf m) := by
  have z8 := hz 8 (by decide)
  have z19 := hz 19 (by decide)
  have z20 := hz 20 (by decide)
  have z21 := hz 21 (by decide)
  have z22 := hz 22 (by decide)
  have z23 := hz 23 (by decide)
  have z24 := hz 24 (by decide)
  have z25 := hz 25 (by decide)
  have z26 := hz 26 (by decide)
  have z27 := hz 27 (by decide)
  have z28 := hz 28 (by decide)
  have z29 := hz 29 (by decide)
  have z30 := hz 30 (by decide)
  have z31 := hz 31 (by decide)
  have z32 := hz 32 (by decide)
  have z33 := hz 33 (by decide)
  have z34 := hz 34 (by decide)
  have z35 := hz 35 (by decide)
  have z36 := hz 36 (by decide)
  have z37 := hz 37 (by decide)
  have z38 := hz 38 (by decide)
  have z39 := hz 39 (by decide)
  have z40 := hz 40 (by decide)
  have z41 := hz 41 (by decide)
  have z42 := hz 42 (by decide)
  have z43 := hz 43 (by decide)
  have z44 := hz 44 (by decide)
  have z45 := hz 45 (by decide)
  have z46 := hz 46 (by decide)
  have z47 := hz 47 (by decide)
  have z48 := hz 48 (by decide)
  have z49 := hz 49 (by decide)
  have z50 := hz 50 (by decide)
  have z51 := hz 51 (by decide)
  have I : ∀ k, mI (iRf m) 8 0 k = mI (sI (al m 8 0 48) 8 0 1 1) 8 0 k := by
    intro k
    unfold iRf iR3 iR2 iR1
    simp only [st_I _ _ _ _ _ rfl]
  have r2 : mR (iRf m) 8 0 2 = some 0 := by
    unfold iRf iR3 iR2 iR1
    simp only [st_R _ _ _ _ _ rfl, st_C, Nat.reduceEqDiff, if_false, if_true, mC_sI, mC_al, z19]
  have r3 : mR (iRf m) 8 0 3 = some 0 := by
    unfold iRf iR3 iR2 iR1
    simp only [st_R _ _ _ _ _ rfl, st_C, Nat.reduceEqDiff, if_false, if_true, mC_sI, mC_al, z20]
  have r4 : mR (iRf m) 8 0 4 = some 0 := by
    unfold iRf iR3 iR2 iR1
    simp only [st_R _ _ _ _ _ rfl, st_C, Nat.reduceEqDiff, if_false, if_true, mC_sI, mC_al, z21]
  have r5 : mR (iRf m) 8 0 5 = some 0 := by
    unfold iRf iR3 iR2 iR1
    simp only [st_R _ _ _ _ _ rfl, st_C, Nat.reduceEqDiff, if_false, if_true, mC_sI, mC_al, z22]
  have r6 : mR (iRf m) 8 0 6 = some 0 := by
    unfold iRf iR3 iR2 iR1
    simp only [st_R _ _ _ _ _ rfl, st_C, Nat.reduceEqDiff, if_false, if_true, mC_sI, mC_al, z23]
  have r7 : mR (iRf m) 8 0 7 = some 0 := by
    unfold iRf iR3 iR2 iR1
    simp only [st_R _ _ _ _ _ rfl, st_C, Nat.reduceEqDiff, if_false, if_true, mC_sI, mC_al, z24]
  have r8 : mR (iRf m) 8 0 8 = some 0 := by
    unfold iRf iR3 iR2 iR1
    simp only [st_R _ _ _ _ _ rfl, st_C, Nat.reduceEqDiff, if_false, if_true, mC_sI, mC_al, z25]
  have r9 : mR (iRf m) 8 0 9 = some 0 := by
    unfold iRf iR3 iR2 iR1
    simp only [st_R _ _ _ _ _ rfl, st_C, Nat.reduceEqDiff, if_false, if_true, mC_sI, mC_al, z26]
  have r10 : mR (iRf m) 8 0 10 = some 0 := by
    unfold iRf iR3 iR2 iR1
    simp only [st_R _ _ _ _ _ rfl, st_C, Nat.reduceEqDiff, if_false, if_true, mC_sI, mC_al, z27]
  have r11 : mR (iRf m) 8 0 11 = some 0 := by
    unfold iRf iR3 iR2 iR1
    simp only [st_R _ _ _ _ _ rfl, st_C, Nat.reduceEqDiff, if_false, if_true, mC_sI, mC_al, z28]
  have r12 : mR (iRf m) 8 0 12 = some 0 := by
    unfold iRf iR3 iR2 iR1
    simp only [st_R _ _ _ _ _ rfl, st_C, Nat.reduceEqDiff, if_false, if_true, mC_sI, mC_al, z29]
  have r13 : mR (iRf m) 8 0 13 = some 0 := by
    unfold iRf iR3 iR2 iR1
    simp only [st_R _ _ _ _ _ rfl, st_C, Nat.reduceEqDiff, if_false, if_true, mC_sI, mC_al, z30]
  have r15 : mR (iRf m) 8 0 15 = some 0 := by
    unfold iRf iR3 iR2 iR1
    simp only [st_R _ _ _ _ _ rfl, st_C, Nat.reduceEqDiff, if_false, if_true, mC_sI, mC_al, z31]
  have r19 : mR (iRf m) 8 0 19 = some 0 := by
    unfold iRf iR3 iR2 iR1
    simp only [st_R _ _ _ _ _ rfl, st_C, Nat.reduceEqDiff, if_false, if_true, mC_sI, mC_al, z32]
  have r20 : mR (iRf m) 8 0 20 = some 0 := by
    unfold iRf iR3 iR2 iR1
    simp only [st_R _ _ _ _ _ rfl, st_C, Nat.reduceEqDiff, if_false, if_true, mC_sI, mC_al, z33]
  have r21 : mR (iRf m) 8 0 21 = some 0 := by
    unfold iRf iR3 iR2 iR1
    simp only [st_R _ _ _ _ _ rfl, st_C, Nat.reduceEqDiff, if_false, if_true, mC_sI, mC_al, z34]
  have r22 : mR (iRf m) 8 0 22 = some 0 := by
    unfold iRf iR3 iR2 iR1
    simp only [st_R _ _ _ _ _ rfl, st_C, Nat.reduceEqDiff, if_false, if_true, mC_sI, mC_al, z35]
  have r23 : mR (iRf m) 8 0 23 = some 0 := by
    unfold iRf iR3 iR2 iR1
    simp only [st_R _ _ _ _ _ rfl, st_C, Nat.reduceEqDiff, if_false, if_true, mC_sI, mC_al, z36]
  have r24 : mR (iRf m) 8 0 24 = some 0 := by
    unfold iRf iR3 iR2 iR1
    simp only [st_R _ _ _ _ _ rfl, st_C, Nat.reduceEqDiff, if_false, if_true, mC_sI, mC_al, z37]
  have r25 : mR (iRf m) 8 0 25 = some 0 := by
    unfold iRf iR3 iR2 iR1
    simp only [st_R _ _ _ _ _ rfl, st_C, Nat.reduceEqDiff, if_false, if_true, mC_sI, mC_al, z38]
  have r26 : mR (iRf m) 8 0 26 = some 0 := by
    unfold iRf iR3 iR2 iR1
    simp only [st_R _ _ _ _ _ rfl, st_C, Nat.reduceEqDiff, if_false, if_true, mC_sI, mC_al, z39]
  have r27 : mR (iRf m) 8 0 27 = some 0 := by
    unfold iRf iR3 iR2 iR1
    simp only [st_R _ _ _ _ _ rfl, st_C, Nat.reduceEqDiff, if_false, if_true, mC_sI, mC_al, z40]
  have r28 : mR (iRf m) 8 0 28 = some 0 := by
    unfold iRf iR3 iR2 iR1
    simp only [st_R _ _ _ _ _ rfl, st_C, Nat.reduceEqDiff, if_false, if_true, mC_sI, mC_al, z41]
  have r29 : mR (iRf m) 8 0 29 = some 0 := by
    unfold iRf iR3 iR2 iR1
    simp only [st_R _ _ _ _ _ rfl, st_C, Nat.reduceEqDiff, if_false, if_true, mC_sI, mC_al, z42]
  have r31 : mR (iRf m) 8 0 31 = some 0 := by
    unfold iRf iR3 iR2 iR1
    simp only [st_R _ _ _ _ _ rfl, st_C, Nat.reduceEqDiff, if_false, if_true, mC_sI, mC_al, z43]
  have r32 : mR (iRf m) 8 0 32 = some 0 := by
    unfold iRf iR3 iR2 iR1
    simp only [st_R _ _ _ _ _ rfl, st_C, Nat.reduceEqDiff, if_false, if_true, mC_sI, mC_al, z44]
  have r33 : mR (iRf m) 8 0 33 = some 0 := by
    unfold iRf iR3 iR2 iR1
    simp only [st_R _ _ _ _ _ rfl, st_C, Nat.reduceEqDiff, if_false, if_true, mC_sI, mC_al, z45]
  have r34 : mR (iRf m) 8 0 34 = some 0 := by
    unfold iRf iR3 iR2 iR1
    simp only [st_R _ _ _ _ _ rfl, st_C, Nat.reduceEqDiff, if_false, if_true, mC_sI, mC_al, z46]
  have r35 : mR (iRf m) 8 0 35 = some 0 := by
    unfold iRf iR3 iR2 iR1
    simp only [st_R _ _ _ _ _ rfl, st_C, Nat.reduceEqDiff, if_false, if_true, mC_sI, mC_al, z47]
  have r36 : mR (iRf m) 8 0 36 = some 0 := by
    unfold iRf iR3 iR2 iR1
    simp only [st_R _ _ _ _ _ rfl, st_C, Nat.reduceEqDiff, if_false, if_true, mC_sI, mC_al, z48]
  have r37 : mR (iRf m) 8 0 37 = some 0 := by
    unfold iRf iR3 iR2 iR1
    simp only [st_R _ _ _ _ _ rfl, st_C, Nat.reduceEqDiff, if_false, if_true, mC_sI, mC_al, z49]
  have r39 : mR (iRf m) 8 0 39 = some 0 := by
    unfold iRf iR3 iR2 iR1
    simp only [st_R _ _ _ _ _ rfl, st_C, Nat.reduceEqDiff, if_false, if_true, mC_sI, mC_al, z50]
  have r40 : mR (iRf m) 8 0 40 = some 0 := by
    unfold iRf iR3 iR2 iR1
    simp only [st_R _ _ _ _ _ rfl, st_C, Nat.reduceEqDiff, if_false, if_true, mC_sI, mC_al, z51]
  have n19 : mN (iRf m) 19 0 = 32 := by
    unfold iRf iR3 iR2 iR1
    simp only [st_N, st_C, Nat.reduceEqDiff, false_and, if_false, if_true, mC_sI, mC_al, z19, and_self]
  have n20 : mN (iRf m) 20 0 = 32 := by
    unfold iRf iR3 iR2 iR1
    simp only [st_N, st_C, Nat.reduceEqDiff, false_and, if_false, if_true, mC_sI, mC_al, z20, and_self]
  have n21 : mN (iRf m) 21 0 = 32 := by
    unfold iRf iR3 iR2 iR1
    simp only [st_N, st_C, Nat.reduceEqDiff, false_and, if_false, if_true, mC_sI, mC_al, z21, and_self]
  have n22 : mN (iRf m) 22 0 = 32 := by
    unfold iRf iR3 iR2 iR1
    simp only [st_N, st_C, Nat.reduceEqDiff, false_and, if_false, if_true, mC_sI, mC_al, z22, and_self]
  have n23 : mN (iRf m) 23 0 = 288 := by
    unfold iRf iR3 iR2 iR1
    simp only [st_N, st_C, Nat.reduceEqDiff, false_and, if_false, if_true, mC_sI, mC_al, z23, and_self]
  have n24 : mN (iRf m) 24 0 = 288 := by
    unfold iRf iR3 iR2 iR1
    simp only [st_N, st_C, Nat.reduceEqDiff, false_and, if_false, if_true, mC_sI, mC_al, z24, and_self]
  have n25 : mN (iRf m) 25 0 = 288 := by
    unfold iRf iR3 iR2 iR1
    simp only [st_N, st_C, Nat.reduceEqDiff, false_and, if_false, if_true, mC_sI, mC_al, z25, and_self]
  have n26 : mN (iRf m) 26 0 = 32 := by
    unfold iRf iR3 iR2 iR1
    simp only [st_N, st_C, Nat.reduceEqDiff, false_and, if_false, if_true, mC_sI, mC_al, z26, and_self]
  have n27 : mN (iRf m) 27 0 = 32 := by
    unfold iRf iR3 iR2 iR1
    simp only [st_N, st_C, Nat.reduceEqDiff, false_and, if_false, if_true, mC_sI, mC_al, z27, and_self]
  have n28 : mN (iRf m) 28 0 = 32 := by
    unfold iRf iR3 iR2 iR1
    simp only [st_N, st_C, Nat.reduceEqDiff, false_and, if_false, if_true, mC_sI, mC_al, z28, and_self]
  have n29 : mN (iRf m) 29 0 = 512 := by
    unfold iRf iR3 iR2 iR1
    simp only [st_N, st_C, Nat.reduceEqDiff, false_and, if_false, if_true, mC_sI, mC_al, z29, and_self]
  have n30 : mN (iRf m) 30 0 = 512 := by
    unfold iRf iR3 iR2 iR1
    simp only [st_N, st_C, Nat.reduceEqDiff, false_and, if_false, if_true, mC_sI, mC_al, z30, and_self]
  have n31 : mN (iRf m) 31 0 = 16 := by
    unfold iRf iR3 iR2 iR1
    simp only [st_N, st_C, Nat.reduceEqDiff, false_and, if_false, if_true, mC_sI, mC_al, z31, and_self]
  have n32 : mN (iRf m) 32 0 = 160 := by
    unfold iRf iR3 iR2 iR1
    simp only [st_N, st_C, Nat.reduceEqDiff, false_and, if_false, if_true, mC_sI, mC_al, z32, and_self]
  have n33 : mN (iRf m) 33 0 = 160 := by
    unfold iRf iR3 iR2 iR1
    simp only [st_N, st_C, Nat.reduceEqDiff, false_and, if_false, if_true, mC_sI, mC_al, z33, and_self]
  have n34 : mN (iRf m) 34 0 = 160 := by
    unfold iRf iR3 iR2 iR1
    simp only [st_N, st_C, Nat.reduceEqDiff, false_and, if_false, if_true, mC_sI, mC_al, z34, and_self]
  have n35 : mN (iRf m) 35 0 = 160 := by
    unfold iRf iR3 iR2 iR1
    simp only [st_N, st_C, Nat.reduceEqDiff, false_and, if_false, if_true, mC_sI, mC_al, z35, and_self]
  have n36 : mN (iRf m) 36 0 = 6400 := by
    unfold iRf iR3 iR2 iR1
    simp only [st_N, st_C, Nat.reduceEqDiff, false_and, if_false, if_true, mC_sI, mC_al, z36, and_self]
  have n37 : mN (iRf m) 37 0 = 6400 := by
    unfold iRf iR3 iR2 iR1
    simp only [st_N, st_C, Nat.reduceEqDiff, false_and, if_false, if_true, mC_sI, mC_al, z37, and_self]
  have n38 : mN (iRf m) 38 0 = 160 := by
    unfold iRf iR3 iR2 iR1
    simp only [st_N, st_C, Nat.reduceEqDiff, false_and, if_false, if_true, mC_sI, mC_al, z38, and_self]
  have n39 : mN (iRf m) 39 0 = 160 := by
    unfold iRf iR3 iR2 iR1
    simp only [st_N, st_C, Nat.reduceEqDiff, false_and, if_false, if_true, mC_sI, mC_al, z39, and_self]
  have n40 : mN (iRf m) 40 0 = 160 := by
    unfold iRf iR3 iR2 iR1
    simp only [st_N, st_C, Nat.reduceEqDiff, false_and, if_false, if_true, mC_sI, mC_al, z40, and_self]
  have n41 : mN (iRf m) 41 0 = 160 := by
    unfold iRf iR3 iR2 iR1
    simp only [st_N, st_C, Nat.reduceEqDiff, false_and, if_false, if_true, mC_sI, mC_al, z41, and_self]
  have n42 : mN (iRf m) 42 0 = 160 := by
    unfold iRf iR3 iR2 iR1
    simp only [st_N, st_C, Nat.reduceEqDiff, false_and, if_false, if_true, mC_sI, mC_al, z42, and_self]
  have n43 : mN (iRf m) 43 0 = 600 := by
    unfold iRf iR3 iR2 iR1
    simp only [st_N, st_C, Nat.reduceEqDiff, false_and, if_false, if_true, mC_sI, mC_al, z43, and_self]
  have n44 : mN (iRf m) 44 0 = 600 := by
    unfold iRf iR3 iR2 iR1
    simp only [st_N, st_C, Nat.reduceEqDiff, false_and, if_false, if_true, mC_sI, mC_al, z44, and_self]
  have n45 : mN (iRf m) 45 0 = 600 := by
    unfold iRf iR3 iR2 iR1
    simp only [st_N, st_C, Nat.reduceEqDiff, false_and, if_false, if_true, mC_sI, mC_al, z45, and_self]
  have n46 : mN (iRf m) 46 0 = 600 := by
    unfold iRf iR3 iR2 iR1
    simp only [st_N, st_C, Nat.reduceEqDiff, false_and, if_false, if_true, mC_sI, mC_al, z46, and_self]
  have n47 : mN (iRf m) 47 0 = 600 := by
    unfold iRf iR3 iR2 iR1
    simp only [st_N, st_C, Nat.reduceEqDiff, false_and, if_false, if_true, mC_sI, mC_al, z47, and_self]
  have n48 : mN (iRf m) 48 0 = 600 := by
    unfold iRf iR3 iR2 iR1
    simp only [st_N, st_C, Nat.reduceEqDiff, false_and, if_false, if_true, mC_sI, mC_al, z48, and_self]
  have n49 : mN (iRf m) 49 0 = 600 := by
    unfold iRf iR3 iR2 iR1
    simp only [st_N, st_C, Nat.reduceEqDiff, false_and, if_false, if_true, mC_sI, mC_al, z49, and_self]
  have n50 : mN (iRf m) 50 0 = 16 := by
    unfold iRf iR3 iR2 iR1
    simp only [st_N, st_C, Nat.reduceEqDiff, false_and, if_false, if_true, mC_sI, mC_al, z50, and_self]
  have n51 : mN (iRf m) 51 0 = 16 := by
    unfold iRf iR3 iR2 iR1
    simp only [st_N, st_C, Nat.reduceEqDiff, false_and, if_false, if_true, mC_sI, mC_al, z51, and_self]
  have J : ∀ k, k ≠ 1 → mI (iRf m) 8 0 k = 0 := by
    intro k hk
    rw [I, mI_sI, if_neg (fun z => hk z.2.2), mI_al, if_pos ⟨rfl, z8.symm⟩]
  have J1 : mI (iRf m) 8 0 1 = 1 := by rw [I, mI_sI, if_pos ⟨rfl, rfl, rfl⟩]
  generalize iRf m = M at *
  refine ⟨⟨⟨r2, r3, r4, r5, r6, r7, r8, r9, r10, r11, r12, r13, r15, r19, r20, r21, r22, r23, r24, r25, r26, r27, r28, r29, r31, r32, r33, r34, r35, r36, r37, r39, r40⟩, ⟨n19, n20, n21, n22, n23, n24, n25, n26, n27, n28, n29, n30, n31, n32, n33, n34, n35, n36, n37, n38, n39, n40, n41, n42, n43, n44, n45, n46, n47, n48, n49, n50, n51⟩, Nat.zero_le _, J 0 (by decide), fun i hi => absurd hi (Nat.not_lt_zero i), fun i hi => absurd hi (Nat.not_lt_zero i)⟩, fun i hi => absurd hi (Nat.not_lt_zero i), ⟨J1, J 14 (by decide), Nat.zero_le _, fun i x hx => by have hx : ([] : List Int32)[i]? = some x := hx; simp at hx⟩, ⟨Nat.zero_le _, J 16 (by decide), J 17 (by decide), J 18 (by decide), fun i hi => absurd hi (Nat.not_lt_zero i), fun i hi => absurd hi (Nat.not_lt_zero i)⟩, ⟨J 30 (by decide), Nat.zero_le _, fun i g hg => by have hg : ([] : List MSG)[i]? = some g := hg; simp at hg⟩, ⟨J 41 (by decide), Nat.zero_le _, fun z => absurd z (Nat.lt_irrefl 0), fun z => absurd (show 0 = 3 from z) (by decide)⟩, fun ⟨g, a, b⟩ => by have a : g ∈ ([] : List MSG) := a; simp at a⟩
