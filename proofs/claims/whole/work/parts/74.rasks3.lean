/-! the reference: isThere, comesAsk -/
theorem rr_ends1 {s : ST} {m m1 : MM} {k : Nat} {a1 : AK} {x : Int32} (h : RR s m) (hf : fs (QN k) m m1) (e17 : mI m1 8 0 17 = mI m 8 0 17) (h18 : mI m1 8 0 18 = nI (cntF (fun j => a_lt (up1 (c_ak s) k (a_an_ (a_dn_ a1 true) x) j)) (c_na s) 0)) (h2 : RR2 a1 m1 k) (ho : AKo (a_an_ (a_dn_ a1 true) x)) (hk : k < c_na s) (hd : a_dn (c_ak s k) = false) :
    ∃ m', go 118 0 [some (vr 8 (some 0)), some (vi (nI k)), some (vi x)] [] m1 = some (none, m') ∧ RR (c_ak_ s (up1 (c_ak s) k (a_an_ (a_dn_ a1 true) x))) m' ∧ fs QW m m' := by
  have h160 := h.2.2.2.1.1
  have h17 := h.2.2.2.1.2.2.1
  have F := fs_tr hf (enM_fs m1 k (cntF (fun k => a_dn (c_ak s k)) (c_na s) 0) x)
  refine ⟨_, go_rends (FX_fs h.1.1 hf) (FN_fs h.1.2.1 hf) (by omega) (e17.trans h17), ?_, fs_le F QN_W⟩
  refine RR_ask h F (RR2_en h2) ho ?_ h18
  rw [cnt_flip (P := fun j => a_dn (c_ak s j)) (Q := fun j => a_dn (up1 (c_ak s) k (a_an_ (a_dn_ a1 true) x) j)) (k := k) (fun j hj => by show a_dn (up1 _ _ _ j) = _; rw [show up1 (c_ak s) k (a_an_ (a_dn_ a1 true) x) j = c_ak s j from if_neg hj]) hd (by show a_dn (up1 _ _ _ k) = _; rw [up1_get]; rfl) (c_na s) 0 (Nat.zero_le _) (by omega)]
  rfl
theorem RR_pr {s : ST} {m m' : MM} {u : Nat} {A : PRS} (h : RR s m) (h1 : RRl m' u A) (hf : fs (QB u) m m') : RR (c_pr_ s (up1 (c_pr s) u A)) m' := by
  have q : ∀ r k, QB u r k → r = 28 ∨ r = 29 ∨ r = 30 := fun r k z => by unfold QB at z; omega
  exact ⟨RRp_fs h.1 hf (fun r j z => by have := q r j z; omega), RRq_up h.2.1 hf h1, RRk_fs h.2.2.1 hf (fun r j z => by have := q r j z; omega), RRa_fs h.2.2.2.1 hf (fun r j z => by have := q r j z; omega), RRm_fs h.2.2.2.2.1 hf (fun r j z => by have := q r j z; omega), RRc_fs h.2.2.2.2.2.1 hf (fun r j z => by have := q r j z; omega), RRb_fs h.2.2.2.2.2.2 hf (fun r j z => by have := q r j z; omega) (fun g a _ => a) rfl⟩
theorem QB_W {u : Nat} : ∀ r k, QB u r k → QW r k := fun r k z => by unfold QB at z; unfold QW; omega
theorem rr_isThere {s : ST} {m : MM} {k u : Nat} (h : RR s m) (hc : CLs s) (hk : k < c_na s) (hu : u < c_n s) (hput : a_so (c_ak s k) = 3 → (ins (c_pr s u) (a_lo (c_ak s k)) (a_va (c_ak s k))).length ≤ 16) (hnt : a_nt (c_ak s k) + 1 < 2 ^ 30) (hd : a_dn (c_ak s k) = false) (hl : (c_ms s).length < 192) :
    ∃ m', go 123 0 [some (vr 8 (some 0)), some (vi (nI k)), some (vi (nI u)), none] [] m = some (none, m') ∧ RR (isThere s k u) m' ∧ fs QW m m' := by
  have h160 := h.2.2.2.1.1
  have h32 := h.1.2.2.1
  have hx := h.1.1
  have hn := h.1.2.1
  have A := h.2.2.2.1.2.2.2.2.1 k hk
  obtain ⟨g1, g2, g3, g4, g5, g6, g7, g8, g9, g10, g11⟩ := A
  have ho := h.2.2.2.1.2.2.2.2.2 k hk
  have ho' := ho
  obtain ⟨o1, o2, o3, o4, o5, o6, o7⟩ := ho'
  have i32 := ixN (FN_32 hn) (i := k) (by omega) (by decide)
  have i40 := ixN (FN_40 hn) (i := k) (by omega) (by decide)
  have i42 := ixN (FN_42 hn) (i := k) (by omega) (by decide)
  have base : ∀ r, go 123 6 [some (vr 8 (some 0)), some (vi (nI k)), some (vi (nI u)), none] [vi (nI (a_so (c_ak s k)))] m = r → go 123 0 [some (vr 8 (some 0)), some (vi (nI k)), some (vi (nI u)), none] [] m = r := by
    intro r hr
    rw [← hr]
    simp only [s123_0, s123_1, s123_4, s123_5, eq_self, ixk_some, bd_some, nl_n, nl_i, nl_r, Option.toList_some, Option.toList_none, List.cons_append, List.nil_append, FX_2 hx, FX_3 hx, FX_4 hx, FX_5 hx, FX_6 hx, FX_7 hx, FX_8 hx, FX_9 hx, FX_10 hx, FX_11 hx, FX_12 hx, FX_13 hx, FX_15 hx, FX_19 hx, FX_20 hx, FX_21 hx, FX_22 hx, FX_23 hx, FX_24 hx, FX_25 hx, FX_26 hx, FX_27 hx, FX_28 hx, FX_29 hx, FX_31 hx, FX_32 hx, FX_33 hx, FX_34 hx, FX_35 hx, FX_36 hx, FX_37 hx, FX_39 hx, FX_40 hx, i32, g1]
  rw [isThere_eq]
  have hso : a_so (c_ak s k) = 0 ∨ a_so (c_ak s k) = 3 ∨ a_so (c_ak s k) = 4 ∨ a_so (c_ak s k) = 1 ∨ a_so (c_ak s k) = 2 := by omega
  unfold ended
  rcases hso with e | e | e | e | e
  · simp only [e, if_true]
    obtain ⟨m1, b1, b2, b3⟩ := rr_ends (x := nI u) h hk hd
    refine ⟨m1, base _ ?_, b2, b3⟩
    rw [e, show nI 0 = 0 from rfl]
    simp only [s123_0, s123_1, s123_4, s123_5, s123_6_0, s123_6_1, s123_6_2, s123_6_3, s123_6_4, s123_6_d, s123_40, s123_41, s123_42, s123_43, s123_46, s123_49, s123_50, s123_51, s123_52, s123_55, s123_56, s123_57, s123_58, s123_61, s123_62, s123_63, s123_66, s123_67, s123_68, s123_69, s123_72, s123_75, s123_76, s123_77, s123_78, s123_81, s123_82, s123_83, s123_86i, s123_86r, s123_86n, s123_87, s123_88, s123_91, s123_92, s123_93, s123_95, s123_98, s123_99, s123_102, s123_103, s123_106, s123_107, s123_108, s123_109, s123_110, s123_111, s123_112, s123_114, s123_117, s123_119, s123_122, s123_123, s123_126, s123_129, s123_130, s123_133, s123_134, s123_135b0, s123_135b1, s123_136, s123_137, s123_140, s123_141, s123_142, s123_143, s123_146, s123_147, s123_148, s123_151, s123_152, s123_155, s123_156, s123_157, s123_158, s123_161, s123_162, s123_163, s123_166, s123_167, s123_170, s123_171, s123_172, s123_174, s123_177, s123_178, s123_181, s123_183, s123_184, s123_185, s123_186, s123_189, s123_190, s123_191, s123_192, s123_193, s123_194, s123_195, s123_198, s123_199, s123_200, s123_201, s123_202, s123_203, s123_204, s123_205, s123_206, s123_207, s123_210i, s123_210r, s123_210n, s123_211, s123_212, s123_214, s123_217, s123_218, s123_221, s123_222, s123_223, s123_224, s123_227, s123_228, s123_229, s123_232, s123_233, s123_234, s123_237, s123_238, s123_239, s123_240, s123_241, s123_243, s123_244, s123_246, s123_248, s123_251, s123_254, s123_255, s123_256, s123_257, s123_260, s123_261, s123_262, s123_265, eq_self, ixk_some, bd_some, nl_n, nl_i, nl_r, Option.toList_some, Option.toList_none, List.cons_append, List.nil_append, b1]
  · simp only [e, Nat.reduceEqDiff, if_true, if_false]
    obtain ⟨m1, b1, b2, b3⟩ := rr_store (v := a_va (c_ak s k)) hx hn (show u < 32 by omega) (h.2.1 u hu) (hput e)
    have R1 := RR_pr h b2 b3
    obtain ⟨m2, f1, f2, f3⟩ := rr_ends (k := k) (x := 1) R1 hk hd
    refine ⟨m2, base _ ?_, f2, fs_tr (fs_le b3 QB_W) f3⟩
    rw [e, show nI 3 = 3 from rfl]
    simp only [s123_0, s123_1, s123_4, s123_5, s123_6_0, s123_6_1, s123_6_2, s123_6_3, s123_6_4, s123_6_d, s123_40, s123_41, s123_42, s123_43, s123_46, s123_49, s123_50, s123_51, s123_52, s123_55, s123_56, s123_57, s123_58, s123_61, s123_62, s123_63, s123_66, s123_67, s123_68, s123_69, s123_72, s123_75, s123_76, s123_77, s123_78, s123_81, s123_82, s123_83, s123_86i, s123_86r, s123_86n, s123_87, s123_88, s123_91, s123_92, s123_93, s123_95, s123_98, s123_99, s123_102, s123_103, s123_106, s123_107, s123_108, s123_109, s123_110, s123_111, s123_112, s123_114, s123_117, s123_119, s123_122, s123_123, s123_126, s123_129, s123_130, s123_133, s123_134, s123_135b0, s123_135b1, s123_136, s123_137, s123_140, s123_141, s123_142, s123_143, s123_146, s123_147, s123_148, s123_151, s123_152, s123_155, s123_156, s123_157, s123_158, s123_161, s123_162, s123_163, s123_166, s123_167, s123_170, s123_171, s123_172, s123_174, s123_177, s123_178, s123_181, s123_183, s123_184, s123_185, s123_186, s123_189, s123_190, s123_191, s123_192, s123_193, s123_194, s123_195, s123_198, s123_199, s123_200, s123_201, s123_202, s123_203, s123_204, s123_205, s123_206, s123_207, s123_210i, s123_210r, s123_210n, s123_211, s123_212, s123_214, s123_217, s123_218, s123_221, s123_222, s123_223, s123_224, s123_227, s123_228, s123_229, s123_232, s123_233, s123_234, s123_237, s123_238, s123_239, s123_240, s123_241, s123_243, s123_244, s123_246, s123_248, s123_251, s123_254, s123_255, s123_256, s123_257, s123_260, s123_261, s123_262, s123_265, eq_self, ixk_some, bd_some, nl_n, nl_i, nl_r, Option.toList_some, Option.toList_none, List.cons_append, List.nil_append, FX_2 hx, FX_3 hx, FX_4 hx, FX_5 hx, FX_6 hx, FX_7 hx, FX_8 hx, FX_9 hx, FX_10 hx, FX_11 hx, FX_12 hx, FX_13 hx, FX_15 hx, FX_19 hx, FX_20 hx, FX_21 hx, FX_22 hx, FX_23 hx, FX_24 hx, FX_25 hx, FX_26 hx, FX_27 hx, FX_28 hx, FX_29 hx, FX_31 hx, FX_32 hx, FX_33 hx, FX_34 hx, FX_35 hx, FX_36 hx, FX_37 hx, FX_39 hx, FX_40 hx, i40, g9, i42, g11, b1, f1]
  · simp only [e, Nat.reduceEqDiff, if_true, if_false]
    have P := pl_loop (key := a_lo (c_ak s k)) hx hn (show u < 32 by omega) (h.2.1 u hu) (c_pr s u) 0 (by simp) (Nat.zero_le _)
    rcases P with ⟨p1, p2⟩ | ⟨j, v, p0, p1, p2, p3⟩
    · rw [p1]
      rw [show nI 0 = 0 from rfl] at p2
      have pp : go 116 0 [some (vr 8 (some 0)), some (vi (nI u)), some (vi (a_lo (c_ak s k))), none] [] m = some (some (vi (-4)), m) := by
        rw [← p2]
        simp only [s116_0, s116_1i, s116_1r, s116_1n, eq_self, ixk_some, bd_some, nl_n, nl_i, nl_r, Option.toList_some, Option.toList_none, List.cons_append, List.nil_append]
      have F1 : fs (QN k) m (sL m 42 0 k 0) := fsL (fs_rf _ m) (Or.inl ⟨by decide, by decide, by decide, rfl⟩)
      have A1 : RR2 (c_ak s k) (sL m 42 0 k 0) k := ⟨g1, g2, g3, g4, g5, g6, g7, g8, g9, g10, by rw [mL_sL, if_pos ⟨rfl, rfl, rfl⟩]; exact (o7 e hd).symm⟩
      obtain ⟨m2, f1, f2, f3⟩ := rr_ends1 (x := -4) h F1 rfl (by
        rw [cnt_same a_lt (show a_lt (a_an_ (a_dn_ (c_ak s k) true) (-4)) = a_lt (c_ak s k) from rfl)]
        exact h.2.2.2.1.2.2.2.1) A1 (AKo_fin ho) hk hd
      refine ⟨m2, base _ ?_, f2, f3⟩
      rw [e, show nI 4 = 4 from rfl]
      simp only [s123_0, s123_1, s123_4, s123_5, s123_6_0, s123_6_1, s123_6_2, s123_6_3, s123_6_4, s123_6_d, s123_40, s123_41, s123_42, s123_43, s123_46, s123_49, s123_50, s123_51, s123_52, s123_55, s123_56, s123_57, s123_58, s123_61, s123_62, s123_63, s123_66, s123_67, s123_68, s123_69, s123_72, s123_75, s123_76, s123_77, s123_78, s123_81, s123_82, s123_83, s123_86i, s123_86r, s123_86n, s123_87, s123_88, s123_91, s123_92, s123_93, s123_95, s123_98, s123_99, s123_102, s123_103, s123_106, s123_107, s123_108, s123_109, s123_110, s123_111, s123_112, s123_114, s123_117, s123_119, s123_122, s123_123, s123_126, s123_129, s123_130, s123_133, s123_134, s123_135b0, s123_135b1, s123_136, s123_137, s123_140, s123_141, s123_142, s123_143, s123_146, s123_147, s123_148, s123_151, s123_152, s123_155, s123_156, s123_157, s123_158, s123_161, s123_162, s123_163, s123_166, s123_167, s123_170, s123_171, s123_172, s123_174, s123_177, s123_178, s123_181, s123_183, s123_184, s123_185, s123_186, s123_189, s123_190, s123_191, s123_192, s123_193, s123_194, s123_195, s123_198, s123_199, s123_200, s123_201, s123_202, s123_203, s123_204, s123_205, s123_206, s123_207, s123_210i, s123_210r, s123_210n, s123_211, s123_212, s123_214, s123_217, s123_218, s123_221, s123_222, s123_223, s123_224, s123_227, s123_228, s123_229, s123_232, s123_233, s123_234, s123_237, s123_238, s123_239, s123_240, s123_241, s123_243, s123_244, s123_246, s123_248, s123_251, s123_254, s123_255, s123_256, s123_257, s123_260, s123_261, s123_262, s123_265, eq_self, ixk_some, bd_some, nl_n, nl_i, nl_r, Option.toList_some, Option.toList_none, List.cons_append, List.nil_append, FX_2 hx, FX_3 hx, FX_4 hx, FX_5 hx, FX_6 hx, FX_7 hx, FX_8 hx, FX_9 hx, FX_10 hx, FX_11 hx, FX_12 hx, FX_13 hx, FX_15 hx, FX_19 hx, FX_20 hx, FX_21 hx, FX_22 hx, FX_23 hx, FX_24 hx, FX_25 hx, FX_26 hx, FX_27 hx, FX_28 hx, FX_29 hx, FX_31 hx, FX_32 hx, FX_33 hx, FX_34 hx, FX_35 hx, FX_36 hx, FX_37 hx, FX_39 hx, FX_40 hx, i40, g9, pp, if_true, not_true_eq_false, if_false, i42, f1]
    · rw [p1]
      rw [show nI 0 = 0 from rfl] at p3
      have h16 := (h.2.1 u hu).1
      have pp : go 116 0 [some (vr 8 (some 0)), some (vi (nI u)), some (vi (a_lo (c_ak s k))), none] [] m = some (some (vi (nI (16 * u + j))), m) := by
        rw [← p3]
        simp only [s116_0, s116_1i, s116_1r, s116_1n, eq_self, ixk_some, bd_some, nl_n, nl_i, nl_r, Option.toList_some, Option.toList_none, List.cons_append, List.nil_append]
      have i30 := ixN (FN_30 hn) (i := 16 * u + j) (by omega) (by decide)
      have nj := nI_n4 (p := 16 * u + j) (by omega)
      have F1 : fs (QN k) m (sL m 42 0 k v) := fsL (fs_rf _ m) (Or.inl ⟨by decide, by decide, by decide, rfl⟩)
      have A1 : RR2 (a_va_ (c_ak s k) v) (sL m 42 0 k v) k := RR2_va ⟨g1, g2, g3, g4, g5, g6, g7, g8, g9, g10, g11⟩
      obtain ⟨m2, f1, f2, f3⟩ := rr_ends1 (x := 1) h F1 rfl (by
        rw [cnt_same a_lt (show a_lt (a_an_ (a_dn_ (a_va_ (c_ak s k) v) true) 1) = a_lt (c_ak s k) from rfl)]
        exact h.2.2.2.1.2.2.2.1) A1 ⟨o1, o2, o3, o4, o5, fun _ => rfl, fun _ z => absurd (show true = false from z) (by decide)⟩ hk hd
      refine ⟨m2, base _ ?_, f2, f3⟩
      rw [e, show nI 4 = 4 from rfl]
      simp only [s123_0, s123_1, s123_4, s123_5, s123_6_0, s123_6_1, s123_6_2, s123_6_3, s123_6_4, s123_6_d, s123_40, s123_41, s123_42, s123_43, s123_46, s123_49, s123_50, s123_51, s123_52, s123_55, s123_56, s123_57, s123_58, s123_61, s123_62, s123_63, s123_66, s123_67, s123_68, s123_69, s123_72, s123_75, s123_76, s123_77, s123_78, s123_81, s123_82, s123_83, s123_86i, s123_86r, s123_86n, s123_87, s123_88, s123_91, s123_92, s123_93, s123_95, s123_98, s123_99, s123_102, s123_103, s123_106, s123_107, s123_108, s123_109, s123_110, s123_111, s123_112, s123_114, s123_117, s123_119, s123_122, s123_123, s123_126, s123_129, s123_130, s123_133, s123_134, s123_135b0, s123_135b1, s123_136, s123_137, s123_140, s123_141, s123_142, s123_143, s123_146, s123_147, s123_148, s123_151, s123_152, s123_155, s123_156, s123_157, s123_158, s123_161, s123_162, s123_163, s123_166, s123_167, s123_170, s123_171, s123_172, s123_174, s123_177, s123_178, s123_181, s123_183, s123_184, s123_185, s123_186, s123_189, s123_190, s123_191, s123_192, s123_193, s123_194, s123_195, s123_198, s123_199, s123_200, s123_201, s123_202, s123_203, s123_204, s123_205, s123_206, s123_207, s123_210i, s123_210r, s123_210n, s123_211, s123_212, s123_214, s123_217, s123_218, s123_221, s123_222, s123_223, s123_224, s123_227, s123_228, s123_229, s123_232, s123_233, s123_234, s123_237, s123_238, s123_239, s123_240, s123_241, s123_243, s123_244, s123_246, s123_248, s123_251, s123_254, s123_255, s123_256, s123_257, s123_260, s123_261, s123_262, s123_265, eq_self, ixk_some, bd_some, nl_n, nl_i, nl_r, Option.toList_some, Option.toList_none, List.cons_append, List.nil_append, FX_2 hx, FX_3 hx, FX_4 hx, FX_5 hx, FX_6 hx, FX_7 hx, FX_8 hx, FX_9 hx, FX_10 hx, FX_11 hx, FX_12 hx, FX_13 hx, FX_15 hx, FX_19 hx, FX_20 hx, FX_21 hx, FX_22 hx, FX_23 hx, FX_24 hx, FX_25 hx, FX_26 hx, FX_27 hx, FX_28 hx, FX_29 hx, FX_31 hx, FX_32 hx, FX_33 hx, FX_34 hx, FX_35 hx, FX_36 hx, FX_37 hx, FX_39 hx, FX_40 hx, i40, g9, pp, nj, not_false_eq_true, if_true, i30, p2, i42, f1]
  · simp only [e, Nat.reduceEqDiff, if_false]
    obtain ⟨m1, b1, b2, b3⟩ := rr_along (a3 := none) h hc hk hu hnt hd hl
    refine ⟨m1, base _ ?_, b2, b3⟩
    rw [e, show nI 1 = 1 from rfl]
    simp only [s123_6_0, s123_6_1, s123_6_2, s123_6_3, s123_6_4, s123_6_d]
    exact b1
  · simp only [e, Nat.reduceEqDiff, if_false]
    obtain ⟨m1, b1, b2, b3⟩ := rr_along (a3 := none) h hc hk hu hnt hd hl
    refine ⟨m1, base _ ?_, b2, b3⟩
    rw [e, show nI 2 = 2 from rfl]
    simp only [s123_6_0, s123_6_1, s123_6_2, s123_6_3, s123_6_4, s123_6_d]
    exact b1
theorem rr_comesAsk {s : ST} {m : MM} {k u : Nat} (h : RR s m) (hc : CLs s) (hg : GAs s k u) :
    ∃ m', go 122 0 [some (vr 8 (some 0)), some (vi (nI k)), some (vi (nI u)), none] [] m = some (none, m') ∧ RR (comesAsk s k u) m' ∧ fs QW m m' := by
  obtain ⟨hk, hu, hs, hput, hps, hnt, hd, hlen⟩ := hg
  have h160 := h.2.2.2.1.1
  have h32 := h.1.2.2.1
  obtain ⟨p1, p2, p3, p4, p5, p6⟩ := psA_f (c_ak s k) u
  obtain ⟨m1, k1, R1, F1⟩ := rr_pass (u := u) h hk hps
  rw [comesAsk_eq]
  have eA : c_ak (c_ak_ s (up1 (c_ak s) k (psA (c_ak s k) u))) k = psA (c_ak s k) u := up1_get _ _ _
  generalize hs1 : c_ak_ s (up1 (c_ak s) k (psA (c_ak s k) u)) = s1 at *
  have en : c_n s1 = c_n s := by rw [← hs1]; rfl
  have ena : c_na s1 = c_na s := by rw [← hs1]; rfl
  have epr : c_pr s1 = c_pr s := by rw [← hs1]; rfl
  have ems : c_ms s1 = c_ms s := by rw [← hs1]; rfl
  have ebe : c_be s1 = c_be s := by rw [← hs1]; rfl
  have eaw : awy s1 u = awy s u := by rw [← hs1]; rfl
  have eon : onw s1 u (a_lo (c_ak s k)) = onw s u (a_lo (c_ak s k)) := by rw [← hs1]; exact onw_ak _ _ _ _
  have hcl1 : CLs s1 := by rw [← hs1]; exact hc
  have eak : up1 (c_ak s) k (psA (c_ak s k) u) = c_ak s1 := by rw [← hs1]; rfl
  have hput1 : a_so (c_ak s1 k) = 3 → (ins (c_pr s1 u) (a_lo (c_ak s1 k)) (a_va (c_ak s1 k))).length ≤ 16 := by rw [eA, epr, p1, p2, p3]; exact hput
  have A := R1.2.2.2.1.2.2.2.2.1 k (by rw [ena]; exact hk)
  have hO := R1.2.2.2.1.2.2.2.2.2 k (by rw [ena]; exact hk)
  have A' := A
  rw [eA] at A
  obtain ⟨g1, g2, g3, g4, g5, g6, g7, g8, g9, g10, g11⟩ := A
  rw [p4] at g8
  rw [p2] at g9
  rw [p1] at g1
  have hx := R1.1.1
  have hn := R1.1.2.1
  have i39 := ixN (FN_39 hn) (i := k) (by omega) (by decide)
  have i21 := ixN (FN_21 hn) (i := u) (by omega) (by decide)
  have i40 := ixN (FN_40 hn) (i := k) (by omega) (by decide)
  have i32 := ixN (FN_32 hn) (i := k) (by omega) (by decide)
  have gb := (R1.1.2.2.2.2.2 u (by rw [en]; exact hu)).2.2.1
  rw [ebe] at gb
  have bb := R1.1.2.2.2.2.1 u (by rw [en]; exact hu)
  rw [ebe] at bb
  have ai := rr_aims (x := a_lo (c_ak s k)) R1.1 hcl1 (by rw [en]; exact hu)
  have hw : awy s u = true ↔ c_be s u = 0 ∨ c_be s u = 1 := by
    unfold awy
    simp
  have there : ∃ m', go 122 84 [some (vr 8 (some 0)), some (vi (nI k)), some (vi (nI u)), none] [vi (-10)] m1 = some (none, m') ∧ RR (isThere s1 k u) m' ∧ fs QW m m' := by
    obtain ⟨m2, d1, d2, d3⟩ := rr_isThere R1 hcl1 (by rw [ena]; exact hk) (by rw [en]; exact hu) hput1 (by rw [eA, p6]; exact hnt) (by rw [eA, p5]; exact hd) (by rw [ems]; exact hlen)
    refine ⟨m2, ?_, d2, fs_tr F1 d3⟩
    have x1 : ¬ (-10 : Int32) = -11 := by decide
    simp [s122_84i, s122_84r, s122_84n, s122_85, s122_86, s122_88, s122_111, s122_112, s122_114, s122_139, s122_140, s122_141, s122_142, s122_145, eq_self, ixk_some, bd_some, nl_n, nl_i, nl_r, Option.toList_some, Option.toList_none, List.cons_append, List.nil_append, x1, d1]
  have aimed : a_th (c_ak s k) = false ∨ awy s u = true → ∀ r, go 122 84 [some (vr 8 (some 0)), some (vi (nI k)), some (vi (nI u)), none] [vi (aimv s1 u (a_lo (c_ak s k)))] m1 = r → go 122 38 [some (vr 8 (some 0)), some (vi (nI k)), some (vi (nI u)), none] [] m1 = r := by
    intro hh r hr
    rw [← hr]
    cases hth : a_th (c_ak s k)
    · rw [hth, b2_f] at g8
      simp [s122_38, s122_39, s122_42, s122_43, s122_44, s122_72, s122_73, s122_74, s122_75, s122_78, s122_79, s122_80, s122_81, eq_self, ixk_some, bd_some, nl_n, nl_i, nl_r, Option.toList_some, Option.toList_none, List.cons_append, List.nil_append, FX_2 hx, FX_3 hx, FX_4 hx, FX_5 hx, FX_6 hx, FX_7 hx, FX_8 hx, FX_9 hx, FX_10 hx, FX_11 hx, FX_12 hx, FX_13 hx, FX_15 hx, FX_19 hx, FX_20 hx, FX_21 hx, FX_22 hx, FX_23 hx, FX_24 hx, FX_25 hx, FX_26 hx, FX_27 hx, FX_28 hx, FX_29 hx, FX_31 hx, FX_32 hx, FX_33 hx, FX_34 hx, FX_35 hx, FX_36 hx, FX_37 hx, FX_39 hx, FX_40 hx, i39, g8, i40, g9, ai]
    · rw [hth, b2_t] at g8
      have ha : awy s u = true := by
        rcases hh with z | z
        · rw [hth] at z; cases z
        · exact z
      have n2 : ¬ nI (c_be s u) = 2 := be_ne2 bb (fun z => by rcases hw.mp ha with y | y <;> omega)
      have n3 : ¬ nI (c_be s u) = 3 := fun z => by
        have := (nI_eq (by omega) (by omega)).mp (show nI (c_be s u) = nI 3 from z)
        rcases hw.mp ha with y | y <;> omega
      simp [s122_38, s122_39, s122_42, s122_43, s122_44, s122_47, s122_48, s122_51, s122_52, s122_53, s122_54, s122_57, s122_58, s122_61, s122_62, s122_63, s122_64, s122_72, s122_73, s122_74, s122_75, s122_78, s122_79, s122_80, s122_81, eq_self, ixk_some, bd_some, nl_n, nl_i, nl_r, Option.toList_some, Option.toList_none, List.cons_append, List.nil_append, FX_2 hx, FX_3 hx, FX_4 hx, FX_5 hx, FX_6 hx, FX_7 hx, FX_8 hx, FX_9 hx, FX_10 hx, FX_11 hx, FX_12 hx, FX_13 hx, FX_15 hx, FX_19 hx, FX_20 hx, FX_21 hx, FX_22 hx, FX_23 hx, FX_24 hx, FX_25 hx, FX_26 hx, FX_27 hx, FX_28 hx, FX_29 hx, FX_31 hx, FX_32 hx, FX_33 hx, FX_34 hx, FX_35 hx, FX_36 hx, FX_37 hx, FX_39 hx, FX_40 hx, i39, g8, i21, gb, n2, n3, i40, g9, ai]
  by_cases hth : a_th (c_ak s k) = true ∧ awy s u = false
  · rw [if_pos hth]
    obtain ⟨m2, d1, d2⟩ := there
    refine ⟨m2, k1 _ ?_, d2⟩
    rw [hth.1, b2_t] at g8
    have h23 : c_be s u = 2 ∨ c_be s u = 3 := by
      have : ¬ (c_be s u = 0 ∨ c_be s u = 1) := fun z => by
        have := hw.mpr z
        rw [hth.2] at this
        cases this
      omega
    rw [← d1]
    rcases h23 with y | y
    · rw [y, show nI 2 = 2 from rfl] at gb
      simp [s122_38, s122_39, s122_42, s122_43, s122_44, s122_47, s122_48, s122_51, s122_52, s122_53, s122_54, s122_67, s122_69, eq_self, ixk_some, bd_some, nl_n, nl_i, nl_r, Option.toList_some, Option.toList_none, List.cons_append, List.nil_append, FX_2 hx, FX_3 hx, FX_4 hx, FX_5 hx, FX_6 hx, FX_7 hx, FX_8 hx, FX_9 hx, FX_10 hx, FX_11 hx, FX_12 hx, FX_13 hx, FX_15 hx, FX_19 hx, FX_20 hx, FX_21 hx, FX_22 hx, FX_23 hx, FX_24 hx, FX_25 hx, FX_26 hx, FX_27 hx, FX_28 hx, FX_29 hx, FX_31 hx, FX_32 hx, FX_33 hx, FX_34 hx, FX_35 hx, FX_36 hx, FX_37 hx, FX_39 hx, FX_40 hx, i39, g8, i21, gb]
    · rw [y, show nI 3 = 3 from rfl] at gb
      simp [s122_38, s122_39, s122_42, s122_43, s122_44, s122_47, s122_48, s122_51, s122_52, s122_53, s122_54, s122_57, s122_58, s122_61, s122_62, s122_63, s122_64, s122_67, s122_69, eq_self, ixk_some, bd_some, nl_n, nl_i, nl_r, Option.toList_some, Option.toList_none, List.cons_append, List.nil_append, FX_2 hx, FX_3 hx, FX_4 hx, FX_5 hx, FX_6 hx, FX_7 hx, FX_8 hx, FX_9 hx, FX_10 hx, FX_11 hx, FX_12 hx, FX_13 hx, FX_15 hx, FX_19 hx, FX_20 hx, FX_21 hx, FX_22 hx, FX_23 hx, FX_24 hx, FX_25 hx, FX_26 hx, FX_27 hx, FX_28 hx, FX_29 hx, FX_31 hx, FX_32 hx, FX_33 hx, FX_34 hx, FX_35 hx, FX_36 hx, FX_37 hx, FX_39 hx, FX_40 hx, i39, g8, i21, gb]
  · rw [if_neg hth]
    have hh : a_th (c_ak s k) = false ∨ awy s u = true := by
      cases ht : a_th (c_ak s k)
      · exact Or.inl rfl
      · cases ha : awy s u
        · exact absurd ⟨ht, ha⟩ hth
        · exact Or.inr rfl
    have aimed := aimed hh
    unfold aimv at aimed
    rw [eon] at aimed
    cases ho : onw s u (a_lo (c_ak s k)) with
    | some p => 
      have hp := onw_lt hc hu ho
      rw [ho] at aimed
      obtain ⟨m2, d1, d2, d3⟩ := rr_sendA (p := p) R1 (by rw [ena]; exact hk) (by rw [ems]; exact hlen)
      rw [eA, p1] at d1
      have n1 : ¬ nI p = -11 := by
        intro z
        have := congrArg Int32.toInt z
        rw [nI_toInt (by omega)] at this
        have h4 : ((-11 : Int32)).toInt = -11 := by decide
        omega
      have n2 : ¬ nI p = -10 := by
        intro z
        have := congrArg Int32.toInt z
        rw [nI_toInt (by omega)] at this
        have h4 : ((-10 : Int32)).toInt = -10 := by decide
        omega
      refine ⟨m2, k1 _ (aimed _ ?_), d2, fs_tr F1 d3⟩
      simp [s122_84i, s122_84r, s122_84n, s122_85, s122_86, s122_88, s122_111, s122_112, s122_114, s122_117, s122_118, s122_119, s122_122, s122_123, s122_124, s122_125, s122_126, s122_128, s122_129, s122_131, s122_133, s122_136, s122_145, eq_self, ixk_some, bd_some, nl_n, nl_i, nl_r, Option.toList_some, Option.toList_none, List.cons_append, List.nil_append, n1, n2, FX_2 hx, FX_3 hx, FX_4 hx, FX_5 hx, FX_6 hx, FX_7 hx, FX_8 hx, FX_9 hx, FX_10 hx, FX_11 hx, FX_12 hx, FX_13 hx, FX_15 hx, FX_19 hx, FX_20 hx, FX_21 hx, FX_22 hx, FX_23 hx, FX_24 hx, FX_25 hx, FX_26 hx, FX_27 hx, FX_28 hx, FX_29 hx, FX_31 hx, FX_32 hx, FX_33 hx, FX_34 hx, FX_35 hx, FX_36 hx, FX_37 hx, FX_39 hx, FX_40 hx, i32, g1, d1]
    | none => 
      rw [ho] at aimed
      cases ha : awy s u
      · rw [eaw, ha] at aimed
        simp only [Bool.false_eq_true, if_false] at aimed ⊢
        obtain ⟨m2, d1, d2⟩ := there
        exact ⟨m2, k1 _ (aimed _ d1), d2⟩
      · rw [eaw, ha] at aimed
        simp only [if_true] at aimed ⊢
        rw [eak]
        have h18 := R1.2.2.2.1.2.2.2.1
        have hlt : a_lt (c_ak s1 k) = false := by
          cases hq : a_lt (c_ak s1 k)
          · rfl
          · have := hO.2.2.2.2.2.1 hq
            rw [eA, p5, hd] at this
            cases this
        have sl : nI (cntF (fun k => a_lt (c_ak s1 k)) (c_na s1) 0) + 1 = nI (cntF (fun k => a_lt (c_ak s1 k)) (c_na s1) 0 + 1) := nI_1 _
        have F2 : fs (QN k) m1 (sI m1 8 0 18 (nI (cntF (fun k => a_lt (c_ak s1 k)) (c_na s1) 0 + 1))) := fsI (fs_rf _ m1) (Or.inr (Or.inr ⟨rfl, Or.inr rfl⟩))
        have A2 : RR2 (a_lt_ (c_ak s1 k) true) (sI m1 8 0 18 (nI (cntF (fun k => a_lt (c_ak s1 k)) (c_na s1) 0 + 1))) k := A'
        obtain ⟨o1, o2, o3, o4, o5, o6, o7⟩ := hO
        have h18' : mI (sI m1 8 0 18 (nI (cntF (fun k => a_lt (c_ak s1 k)) (c_na s1) 0 + 1))) 8 0 18 = nI (cntF (fun j => a_lt (up1 (c_ak s1) k (a_an_ (a_dn_ (a_lt_ (c_ak s1 k) true) true) (-4)) j)) (c_na s1) 0) := by
          rw [cnt_flip (P := fun j => a_lt (c_ak s1 j)) (Q := fun j => a_lt (up1 (c_ak s1) k (a_an_ (a_dn_ (a_lt_ (c_ak s1 k) true) true) (-4)) j)) (k := k) (fun j hj => by show a_lt (up1 _ _ _ j) = _; rw [show up1 (c_ak s1) k (a_an_ (a_dn_ (a_lt_ (c_ak s1 k) true) true) (-4)) j = c_ak s1 j from if_neg hj]) hlt (by show a_lt (up1 _ _ _ k) = _; rw [up1_get]; rfl) (c_na s1) 0 (Nat.zero_le _) (by rw [ena]; omega)]
          rw [mI_sI, if_pos ⟨rfl, rfl, rfl⟩]
        obtain ⟨m2, d1, d2, d3⟩ := rr_ends1 (a1 := a_lt_ (c_ak s1 k) true) (x := -4) R1 F2 (mI_ne (by decide)) h18' A2 ⟨o1, o2, o3, o4, o5, fun _ => rfl, fun _ z => absurd (show true = false from z) (by decide)⟩ (by rw [ena]; exact hk) (by rw [eA, p5]; exact hd)
        rw [← eA, endA_up]
        refine ⟨m2, k1 _ (aimed _ ?_), d2, fs_tr F1 d3⟩
        simp [s122_84i, s122_84r, s122_84n, s122_85, s122_86, s122_88, s122_91, s122_92, s122_93, s122_96, s122_97, s122_98, s122_101, s122_102, s122_103, s122_105, s122_108, s122_145, eq_self, ixk_some, bd_some, nl_n, nl_i, nl_r, Option.toList_some, Option.toList_none, List.cons_append, List.nil_append, h18, sl, d1]
