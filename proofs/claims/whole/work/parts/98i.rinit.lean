/-! the reference's constructor -/
def stp (m : MM) (r f len : Nat) : MM := sR (al m r len len) 8 0 f (some (mC m r))
def stps (m : MM) : List (Nat × Nat × Nat) → MM
  | [] => m
  | q :: L => stps (stp m q.1 q.2.1 q.2.2) L
def rLst : List (Nat × Nat × Nat) := [(19, 2, 32), (20, 3, 32), (21, 4, 32), (22, 5, 32), (23, 6, 288), (24, 7, 288), (25, 8, 288), (26, 9, 32), (27, 10, 32), (28, 11, 32), (29, 12, 512), (30, 13, 512), (31, 15, 16), (32, 19, 160), (33, 20, 160), (34, 21, 160), (35, 22, 160), (36, 23, 6400), (37, 24, 6400), (38, 25, 160), (39, 26, 160), (40, 27, 160), (41, 28, 160), (42, 29, 160), (43, 31, 600), (44, 32, 600), (45, 33, 600), (46, 34, 600), (47, 35, 600), (48, 36, 600), (49, 37, 600), (50, 39, 16), (51, 40, 16)]
def iRf (m : MM) : MM := stps (sI (al m 8 0 48) 8 0 1 1) rLst
theorem st_I {m : MM} {r f len : Nat} (g : Nat) (h : r ≠ 8) : mI (stp m r f len) 8 0 g = mI m 8 0 g := by
  unfold stp
  rw [mI_sR, mI_al, if_neg (fun z => h z.1.symm)]
theorem st_R {m : MM} {r f len g : Nat} (h : r ≠ 8) : mR (stp m r f len) 8 0 g = if g = f then some (mC m r) else mR m 8 0 g := by
  unfold stp
  rw [mR_sR]
  by_cases e : g = f
  · rw [if_pos ⟨rfl, rfl, e⟩, if_pos e]
  · rw [if_neg (fun z => e z.2.2), mR_al, if_neg (fun z => h z.1.symm), if_neg e]
theorem st_C (m : MM) (r f len a : Nat) : mC (stp m r f len) a = if a = r then mC m r + 1 else mC m a := rfl
theorem st_N (m : MM) (r f len a b : Nat) : mN (stp m r f len) a b = if a = r ∧ b = mC m r then len else mN m a b := rfl
theorem sts_I {g : Nat} : ∀ (L : List (Nat × Nat × Nat)) (m : MM), (∀ q, q ∈ L → q.1 ≠ 8) → mI (stps m L) 8 0 g = mI m 8 0 g
  | [], m, _ => rfl
  | q :: L, m, h => (sts_I L (stp m q.1 q.2.1 q.2.2) (fun x hx => h x (List.mem_cons_of_mem _ hx))).trans (st_I g (h q List.mem_cons_self))
theorem sts_R {f : Nat} : ∀ (L : List (Nat × Nat × Nat)) (m : MM), (∀ q, q ∈ L → q.1 ≠ 8) → (∀ q, q ∈ L → q.2.1 ≠ f) → mR (stps m L) 8 0 f = mR m 8 0 f
  | [], m, _, _ => rfl
  | q :: L, m, h, h2 => by
    have a := sts_R L (stp m q.1 q.2.1 q.2.2) (fun x hx => h x (List.mem_cons_of_mem _ hx)) (fun x hx => h2 x (List.mem_cons_of_mem _ hx))
    rw [st_R (h q List.mem_cons_self), if_neg (fun z => h2 q List.mem_cons_self z.symm)] at a
    exact a
theorem sts_C {r : Nat} : ∀ (L : List (Nat × Nat × Nat)) (m : MM), (∀ q, q ∈ L → q.1 ≠ r) → mC (stps m L) r = mC m r ∧ ∀ b, mN (stps m L) r b = mN m r b
  | [], m, _ => ⟨rfl, fun _ => rfl⟩
  | q :: L, m, h => by
    have a := sts_C L (stp m q.1 q.2.1 q.2.2) (fun x hx => h x (List.mem_cons_of_mem _ hx))
    have hq := h q List.mem_cons_self
    refine ⟨a.1.trans ?_, fun b => (a.2 b).trans ?_⟩
    · rw [st_C, if_neg (fun z => hq z.symm)]
    · rw [st_N, if_neg (fun z => hq z.1.symm)]
theorem sts_1 {r f len : Nat} : ∀ (L : List (Nat × Nat × Nat)) (m : MM), (r, f, len) ∈ L → (L.map fun q => q.1).Nodup → (L.map fun q => q.2.1).Nodup → (∀ q, q ∈ L → q.1 ≠ 8) → mC m r = 0 → mR (stps m L) 8 0 f = some 0 ∧ mN (stps m L) r 0 = len
  | [], m, h, _, _, _, _ => by cases h
  | q :: L, m, h, n1, n2, h8, hz => by
    rw [List.map_cons] at n1 n2
    obtain ⟨a1, a2⟩ := List.nodup_cons.mp n1
    obtain ⟨b1, b2⟩ := List.nodup_cons.mp n2
    have t8 : ∀ x, x ∈ L → x.1 ≠ 8 := fun x hx => h8 x (List.mem_cons_of_mem _ hx)
    show mR (stps (stp m q.1 q.2.1 q.2.2) L) 8 0 f = some 0 ∧ mN (stps (stp m q.1 q.2.1 q.2.2) L) r 0 = len
    rcases List.mem_cons.mp h with e | e
    · subst e
      refine ⟨?_, ?_⟩
      · rw [sts_R L _ t8 (fun x hx z => b1 (List.mem_map.mpr ⟨x, hx, z⟩)), st_R (h8 _ List.mem_cons_self), if_pos rfl, hz]
      · rw [(sts_C L _ (fun x hx z => a1 (List.mem_map.mpr ⟨x, hx, z⟩))).2 0, st_N, if_pos ⟨rfl, hz.symm⟩]
    · have ne : r ≠ q.1 := fun z => a1 (List.mem_map.mpr ⟨_, e, z⟩)
      exact sts_1 L _ e a2 b2 t8 (by rw [st_C, if_neg ne]; exact hz)
theorem sts_fr {r : Nat} (h8 : r ≠ 8) : ∀ (L : List (Nat × Nat × Nat)) (m : MM), (∀ q, q ∈ L → q.1 ≠ r) → (∀ n k, mI (stps m L) r n k = mI m r n k) ∧ (∀ n k, mL (stps m L) r n k = mL m r n k) ∧ (∀ n k, mR (stps m L) r n k = mR m r n k)
  | [], m, _ => ⟨fun _ _ => rfl, fun _ _ => rfl, fun _ _ => rfl⟩
  | q :: L, m, h => by
    have a := sts_fr h8 L (stp m q.1 q.2.1 q.2.2) (fun x hx => h x (List.mem_cons_of_mem _ hx))
    have hq := h q List.mem_cons_self
    refine ⟨fun n k => (a.1 n k).trans ?_, fun n k => (a.2.1 n k).trans ?_, fun n k => (a.2.2 n k).trans ?_⟩
    · unfold stp
      rw [mI_sR, mI_al, if_neg (fun z => hq z.1.symm)]
    · unfold stp
      rw [mL_sR, mL_al, if_neg (fun z => hq z.1.symm)]
    · unfold stp
      rw [mR_sR, if_neg (fun z => h8 z.1), mR_al, if_neg (fun z => hq z.1.symm)]
theorem sts_T : ∀ (L : List (Nat × Nat × Nat)) (m : MM), mT (stps m L) = mT m + L.length ∧ mS (stps m L) = mS m + (L.map fun q => q.2.2).sum
  | [], m => ⟨rfl, rfl⟩
  | q :: L, m => by
    obtain ⟨a, b⟩ := sts_T L (stp m q.1 q.2.1 q.2.2)
    have c : mT (stp m q.1 q.2.1 q.2.2) = mT m + 1 := rfl
    have d : mS (stp m q.1 q.2.1 q.2.2) = mS m + q.2.2 := rfl
    rw [List.length_cons, List.map_cons, List.sum_cons]
    show mT (stps (stp m q.1 q.2.1 q.2.2) L) = _ ∧ mS (stps (stp m q.1 q.2.1 q.2.2) L) = _
    omega
theorem ri_0 {m : MM} : go 102 0 [some (vr 8 (some 0))] [] m = go 102 9 [some (vr 8 (some 0))] [] (sI m 8 0 1 1) := by
  simp only [s102_0, s102_1, s102_4, s102_5, s102_6, eq_self, ixk_some, bd_some, nl_n, nl_i, nl_r, Option.toList_some, Option.toList_none, List.cons_append, List.nil_append]
theorem ri_1 {m : MM} : go 102 9 [some (vr 8 (some 0))] [] m = go 102 17 [some (vr 8 (some 0))] [] (stp m 19 2 32) := by
  simp only [s102_9, s102_10, s102_12k1, s102_12k16, s102_12k32, s102_12k160, s102_12k288, s102_12k512, s102_12k600, s102_12k6400, s102_14r, s102_14n, eq_self, ixk_some, bd_some, nl_n, nl_i, nl_r, Option.toList_some, Option.toList_none, List.cons_append, List.nil_append]
  rfl
theorem ri_2 {m : MM} : go 102 17 [some (vr 8 (some 0))] [] m = go 102 25 [some (vr 8 (some 0))] [] (stp m 20 3 32) := by
  simp only [s102_17, s102_18, s102_20k1, s102_20k16, s102_20k32, s102_20k160, s102_20k288, s102_20k512, s102_20k600, s102_20k6400, s102_22r, s102_22n, eq_self, ixk_some, bd_some, nl_n, nl_i, nl_r, Option.toList_some, Option.toList_none, List.cons_append, List.nil_append]
  rfl
theorem ri_3 {m : MM} : go 102 25 [some (vr 8 (some 0))] [] m = go 102 33 [some (vr 8 (some 0))] [] (stp m 21 4 32) := by
  simp only [s102_25, s102_26, s102_28k1, s102_28k16, s102_28k32, s102_28k160, s102_28k288, s102_28k512, s102_28k600, s102_28k6400, s102_30r, s102_30n, eq_self, ixk_some, bd_some, nl_n, nl_i, nl_r, Option.toList_some, Option.toList_none, List.cons_append, List.nil_append]
  rfl
theorem ri_4 {m : MM} : go 102 33 [some (vr 8 (some 0))] [] m = go 102 41 [some (vr 8 (some 0))] [] (stp m 22 5 32) := by
  simp only [s102_33, s102_34, s102_36k1, s102_36k16, s102_36k32, s102_36k160, s102_36k288, s102_36k512, s102_36k600, s102_36k6400, s102_38r, s102_38n, eq_self, ixk_some, bd_some, nl_n, nl_i, nl_r, Option.toList_some, Option.toList_none, List.cons_append, List.nil_append]
  rfl
theorem ri_5 {m : MM} : go 102 41 [some (vr 8 (some 0))] [] m = go 102 50 [some (vr 8 (some 0))] [] (stp m 23 6 288) := by
  simp only [s102_41, s102_42, s102_45k1, s102_45k16, s102_45k32, s102_45k160, s102_45k288, s102_45k512, s102_45k600, s102_45k6400, s102_47r, s102_47n, eq_self, ixk_some, bd_some, nl_n, nl_i, nl_r, Option.toList_some, Option.toList_none, List.cons_append, List.nil_append]
  rfl
theorem ri_6 {m : MM} : go 102 50 [some (vr 8 (some 0))] [] m = go 102 59 [some (vr 8 (some 0))] [] (stp m 24 7 288) := by
  simp only [s102_50, s102_51, s102_54k1, s102_54k16, s102_54k32, s102_54k160, s102_54k288, s102_54k512, s102_54k600, s102_54k6400, s102_56r, s102_56n, eq_self, ixk_some, bd_some, nl_n, nl_i, nl_r, Option.toList_some, Option.toList_none, List.cons_append, List.nil_append]
  rfl
theorem ri_7 {m : MM} : go 102 59 [some (vr 8 (some 0))] [] m = go 102 68 [some (vr 8 (some 0))] [] (stp m 25 8 288) := by
  simp only [s102_59, s102_60, s102_63k1, s102_63k16, s102_63k32, s102_63k160, s102_63k288, s102_63k512, s102_63k600, s102_63k6400, s102_65r, s102_65n, eq_self, ixk_some, bd_some, nl_n, nl_i, nl_r, Option.toList_some, Option.toList_none, List.cons_append, List.nil_append]
  rfl
theorem ri_8 {m : MM} : go 102 68 [some (vr 8 (some 0))] [] m = go 102 76 [some (vr 8 (some 0))] [] (stp m 26 9 32) := by
  simp only [s102_68, s102_69, s102_71k1, s102_71k16, s102_71k32, s102_71k160, s102_71k288, s102_71k512, s102_71k600, s102_71k6400, s102_73r, s102_73n, eq_self, ixk_some, bd_some, nl_n, nl_i, nl_r, Option.toList_some, Option.toList_none, List.cons_append, List.nil_append]
  rfl
theorem ri_9 {m : MM} : go 102 76 [some (vr 8 (some 0))] [] m = go 102 84 [some (vr 8 (some 0))] [] (stp m 27 10 32) := by
  simp only [s102_76, s102_77, s102_79k1, s102_79k16, s102_79k32, s102_79k160, s102_79k288, s102_79k512, s102_79k600, s102_79k6400, s102_81r, s102_81n, eq_self, ixk_some, bd_some, nl_n, nl_i, nl_r, Option.toList_some, Option.toList_none, List.cons_append, List.nil_append]
  rfl
theorem ri_10 {m : MM} : go 102 84 [some (vr 8 (some 0))] [] m = go 102 92 [some (vr 8 (some 0))] [] (stp m 28 11 32) := by
  simp only [s102_84, s102_85, s102_87k1, s102_87k16, s102_87k32, s102_87k160, s102_87k288, s102_87k512, s102_87k600, s102_87k6400, s102_89r, s102_89n, eq_self, ixk_some, bd_some, nl_n, nl_i, nl_r, Option.toList_some, Option.toList_none, List.cons_append, List.nil_append]
  rfl
theorem ri_11 {m : MM} : go 102 92 [some (vr 8 (some 0))] [] m = go 102 101 [some (vr 8 (some 0))] [] (stp m 29 12 512) := by
  simp only [s102_92, s102_93, s102_96k1, s102_96k16, s102_96k32, s102_96k160, s102_96k288, s102_96k512, s102_96k600, s102_96k6400, s102_98r, s102_98n, eq_self, ixk_some, bd_some, nl_n, nl_i, nl_r, Option.toList_some, Option.toList_none, List.cons_append, List.nil_append]
  rfl
theorem ri_12 {m : MM} : go 102 101 [some (vr 8 (some 0))] [] m = go 102 110 [some (vr 8 (some 0))] [] (stp m 30 13 512) := by
  simp only [s102_101, s102_102, s102_105k1, s102_105k16, s102_105k32, s102_105k160, s102_105k288, s102_105k512, s102_105k600, s102_105k6400, s102_107r, s102_107n, eq_self, ixk_some, bd_some, nl_n, nl_i, nl_r, Option.toList_some, Option.toList_none, List.cons_append, List.nil_append]
  rfl
theorem ri_13 {m : MM} : go 102 110 [some (vr 8 (some 0))] [] m = go 102 118 [some (vr 8 (some 0))] [] (stp m 31 15 16) := by
  simp only [s102_110, s102_111, s102_113k1, s102_113k16, s102_113k32, s102_113k160, s102_113k288, s102_113k512, s102_113k600, s102_113k6400, s102_115r, s102_115n, eq_self, ixk_some, bd_some, nl_n, nl_i, nl_r, Option.toList_some, Option.toList_none, List.cons_append, List.nil_append]
  rfl
theorem ri_14 {m : MM} : go 102 118 [some (vr 8 (some 0))] [] m = go 102 127 [some (vr 8 (some 0))] [] (stp m 32 19 160) := by
  simp only [s102_118, s102_119, s102_122k1, s102_122k16, s102_122k32, s102_122k160, s102_122k288, s102_122k512, s102_122k600, s102_122k6400, s102_124r, s102_124n, eq_self, ixk_some, bd_some, nl_n, nl_i, nl_r, Option.toList_some, Option.toList_none, List.cons_append, List.nil_append]
  rfl
theorem ri_15 {m : MM} : go 102 127 [some (vr 8 (some 0))] [] m = go 102 136 [some (vr 8 (some 0))] [] (stp m 33 20 160) := by
  simp only [s102_127, s102_128, s102_131k1, s102_131k16, s102_131k32, s102_131k160, s102_131k288, s102_131k512, s102_131k600, s102_131k6400, s102_133r, s102_133n, eq_self, ixk_some, bd_some, nl_n, nl_i, nl_r, Option.toList_some, Option.toList_none, List.cons_append, List.nil_append]
  rfl
theorem ri_16 {m : MM} : go 102 136 [some (vr 8 (some 0))] [] m = go 102 145 [some (vr 8 (some 0))] [] (stp m 34 21 160) := by
  simp only [s102_136, s102_137, s102_140k1, s102_140k16, s102_140k32, s102_140k160, s102_140k288, s102_140k512, s102_140k600, s102_140k6400, s102_142r, s102_142n, eq_self, ixk_some, bd_some, nl_n, nl_i, nl_r, Option.toList_some, Option.toList_none, List.cons_append, List.nil_append]
  rfl
theorem ri_17 {m : MM} : go 102 145 [some (vr 8 (some 0))] [] m = go 102 154 [some (vr 8 (some 0))] [] (stp m 35 22 160) := by
  simp only [s102_145, s102_146, s102_149k1, s102_149k16, s102_149k32, s102_149k160, s102_149k288, s102_149k512, s102_149k600, s102_149k6400, s102_151r, s102_151n, eq_self, ixk_some, bd_some, nl_n, nl_i, nl_r, Option.toList_some, Option.toList_none, List.cons_append, List.nil_append]
  rfl
theorem ri_18 {m : MM} : go 102 154 [some (vr 8 (some 0))] [] m = go 102 163 [some (vr 8 (some 0))] [] (stp m 36 23 6400) := by
  simp only [s102_154, s102_155, s102_158k1, s102_158k16, s102_158k32, s102_158k160, s102_158k288, s102_158k512, s102_158k600, s102_158k6400, s102_160r, s102_160n, eq_self, ixk_some, bd_some, nl_n, nl_i, nl_r, Option.toList_some, Option.toList_none, List.cons_append, List.nil_append]
  rfl
theorem ri_19 {m : MM} : go 102 163 [some (vr 8 (some 0))] [] m = go 102 172 [some (vr 8 (some 0))] [] (stp m 37 24 6400) := by
  simp only [s102_163, s102_164, s102_167k1, s102_167k16, s102_167k32, s102_167k160, s102_167k288, s102_167k512, s102_167k600, s102_167k6400, s102_169r, s102_169n, eq_self, ixk_some, bd_some, nl_n, nl_i, nl_r, Option.toList_some, Option.toList_none, List.cons_append, List.nil_append]
  rfl
theorem ri_20 {m : MM} : go 102 172 [some (vr 8 (some 0))] [] m = go 102 181 [some (vr 8 (some 0))] [] (stp m 38 25 160) := by
  simp only [s102_172, s102_173, s102_176k1, s102_176k16, s102_176k32, s102_176k160, s102_176k288, s102_176k512, s102_176k600, s102_176k6400, s102_178r, s102_178n, eq_self, ixk_some, bd_some, nl_n, nl_i, nl_r, Option.toList_some, Option.toList_none, List.cons_append, List.nil_append]
  rfl
theorem ri_21 {m : MM} : go 102 181 [some (vr 8 (some 0))] [] m = go 102 190 [some (vr 8 (some 0))] [] (stp m 39 26 160) := by
  simp only [s102_181, s102_182, s102_185k1, s102_185k16, s102_185k32, s102_185k160, s102_185k288, s102_185k512, s102_185k600, s102_185k6400, s102_187r, s102_187n, eq_self, ixk_some, bd_some, nl_n, nl_i, nl_r, Option.toList_some, Option.toList_none, List.cons_append, List.nil_append]
  rfl
theorem ri_22 {m : MM} : go 102 190 [some (vr 8 (some 0))] [] m = go 102 199 [some (vr 8 (some 0))] [] (stp m 40 27 160) := by
  simp only [s102_190, s102_191, s102_194k1, s102_194k16, s102_194k32, s102_194k160, s102_194k288, s102_194k512, s102_194k600, s102_194k6400, s102_196r, s102_196n, eq_self, ixk_some, bd_some, nl_n, nl_i, nl_r, Option.toList_some, Option.toList_none, List.cons_append, List.nil_append]
  rfl
theorem ri_23 {m : MM} : go 102 199 [some (vr 8 (some 0))] [] m = go 102 208 [some (vr 8 (some 0))] [] (stp m 41 28 160) := by
  simp only [s102_199, s102_200, s102_203k1, s102_203k16, s102_203k32, s102_203k160, s102_203k288, s102_203k512, s102_203k600, s102_203k6400, s102_205r, s102_205n, eq_self, ixk_some, bd_some, nl_n, nl_i, nl_r, Option.toList_some, Option.toList_none, List.cons_append, List.nil_append]
  rfl
theorem ri_24 {m : MM} : go 102 208 [some (vr 8 (some 0))] [] m = go 102 217 [some (vr 8 (some 0))] [] (stp m 42 29 160) := by
  simp only [s102_208, s102_209, s102_212k1, s102_212k16, s102_212k32, s102_212k160, s102_212k288, s102_212k512, s102_212k600, s102_212k6400, s102_214r, s102_214n, eq_self, ixk_some, bd_some, nl_n, nl_i, nl_r, Option.toList_some, Option.toList_none, List.cons_append, List.nil_append]
  rfl
theorem ri_25 {m : MM} : go 102 217 [some (vr 8 (some 0))] [] m = go 102 226 [some (vr 8 (some 0))] [] (stp m 43 31 600) := by
  simp only [s102_217, s102_218, s102_221k1, s102_221k16, s102_221k32, s102_221k160, s102_221k288, s102_221k512, s102_221k600, s102_221k6400, s102_223r, s102_223n, eq_self, ixk_some, bd_some, nl_n, nl_i, nl_r, Option.toList_some, Option.toList_none, List.cons_append, List.nil_append]
  rfl
theorem ri_26 {m : MM} : go 102 226 [some (vr 8 (some 0))] [] m = go 102 235 [some (vr 8 (some 0))] [] (stp m 44 32 600) := by
  simp only [s102_226, s102_227, s102_230k1, s102_230k16, s102_230k32, s102_230k160, s102_230k288, s102_230k512, s102_230k600, s102_230k6400, s102_232r, s102_232n, eq_self, ixk_some, bd_some, nl_n, nl_i, nl_r, Option.toList_some, Option.toList_none, List.cons_append, List.nil_append]
  rfl
theorem ri_27 {m : MM} : go 102 235 [some (vr 8 (some 0))] [] m = go 102 244 [some (vr 8 (some 0))] [] (stp m 45 33 600) := by
  simp only [s102_235, s102_236, s102_239k1, s102_239k16, s102_239k32, s102_239k160, s102_239k288, s102_239k512, s102_239k600, s102_239k6400, s102_241r, s102_241n, eq_self, ixk_some, bd_some, nl_n, nl_i, nl_r, Option.toList_some, Option.toList_none, List.cons_append, List.nil_append]
  rfl
theorem ri_28 {m : MM} : go 102 244 [some (vr 8 (some 0))] [] m = go 102 253 [some (vr 8 (some 0))] [] (stp m 46 34 600) := by
  simp only [s102_244, s102_245, s102_248k1, s102_248k16, s102_248k32, s102_248k160, s102_248k288, s102_248k512, s102_248k600, s102_248k6400, s102_250r, s102_250n, eq_self, ixk_some, bd_some, nl_n, nl_i, nl_r, Option.toList_some, Option.toList_none, List.cons_append, List.nil_append]
  rfl
theorem ri_29 {m : MM} : go 102 253 [some (vr 8 (some 0))] [] m = go 102 262 [some (vr 8 (some 0))] [] (stp m 47 35 600) := by
  simp only [s102_253, s102_254, s102_257k1, s102_257k16, s102_257k32, s102_257k160, s102_257k288, s102_257k512, s102_257k600, s102_257k6400, s102_259r, s102_259n, eq_self, ixk_some, bd_some, nl_n, nl_i, nl_r, Option.toList_some, Option.toList_none, List.cons_append, List.nil_append]
  rfl
theorem ri_30 {m : MM} : go 102 262 [some (vr 8 (some 0))] [] m = go 102 271 [some (vr 8 (some 0))] [] (stp m 48 36 600) := by
  simp only [s102_262, s102_263, s102_266k1, s102_266k16, s102_266k32, s102_266k160, s102_266k288, s102_266k512, s102_266k600, s102_266k6400, s102_268r, s102_268n, eq_self, ixk_some, bd_some, nl_n, nl_i, nl_r, Option.toList_some, Option.toList_none, List.cons_append, List.nil_append]
  rfl
theorem ri_31 {m : MM} : go 102 271 [some (vr 8 (some 0))] [] m = go 102 280 [some (vr 8 (some 0))] [] (stp m 49 37 600) := by
  simp only [s102_271, s102_272, s102_275k1, s102_275k16, s102_275k32, s102_275k160, s102_275k288, s102_275k512, s102_275k600, s102_275k6400, s102_277r, s102_277n, eq_self, ixk_some, bd_some, nl_n, nl_i, nl_r, Option.toList_some, Option.toList_none, List.cons_append, List.nil_append]
  rfl
theorem ri_32 {m : MM} : go 102 280 [some (vr 8 (some 0))] [] m = go 102 288 [some (vr 8 (some 0))] [] (stp m 50 39 16) := by
  simp only [s102_280, s102_281, s102_283k1, s102_283k16, s102_283k32, s102_283k160, s102_283k288, s102_283k512, s102_283k600, s102_283k6400, s102_285r, s102_285n, eq_self, ixk_some, bd_some, nl_n, nl_i, nl_r, Option.toList_some, Option.toList_none, List.cons_append, List.nil_append]
  rfl
theorem ri_33 {m : MM} : go 102 288 [some (vr 8 (some 0))] [] m = go 102 296 [some (vr 8 (some 0))] [] (stp m 51 40 16) := by
  simp only [s102_288, s102_289, s102_291k1, s102_291k16, s102_291k32, s102_291k160, s102_291k288, s102_291k512, s102_291k600, s102_291k6400, s102_293r, s102_293n, eq_self, ixk_some, bd_some, nl_n, nl_i, nl_r, Option.toList_some, Option.toList_none, List.cons_append, List.nil_append]
  rfl
theorem ri_e {m : MM} : go 102 296 [some (vr 8 (some 0))] [] m = some (none, m) := by
  simp only [s102_296, eq_self, ixk_some, bd_some, nl_n, nl_i, nl_r, Option.toList_some, Option.toList_none, List.cons_append, List.nil_append]
theorem go_initRef {m : MM} : go 102 0 [some (vr 8 (some 0))] [] (al m 8 0 48) = some (none, iRf m) := by
  rw [ri_0, ri_1, ri_2, ri_3, ri_4, ri_5, ri_6, ri_7, ri_8, ri_9, ri_10, ri_11, ri_12, ri_13, ri_14, ri_15, ri_16, ri_17, ri_18, ri_19, ri_20, ri_21, ri_22, ri_23, ri_24, ri_25, ri_26, ri_27, ri_28, ri_29, ri_30, ri_31, ri_32, ri_33, ri_e]
  unfold iRf
  generalize sI (al m 8 0 48) 8 0 1 1 = A
  rfl
