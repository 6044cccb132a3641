/-! the reference: judge, sound, why, worst -/
theorem lkb_mono (x y : Int32) {l : Nat} (hl : l < 9) (h : lkb x y (l + 1) = true) : lkb x y l = true := by
  unfold lkb at h ⊢
  rw [beq_iff_eq] at h ⊢
  have key : ∀ l : Fin 9, ((1 : Int32) <<< (nI (l.val + 1) &&& 31) - 1) &&& ((1 : Int32) <<< (nI l.val &&& 31) - 1) = ((1 : Int32) <<< (nI l.val &&& 31) - 1) := by decide
  rw [← key ⟨l, hl⟩, ← Int32.and_assoc, h, Int32.zero_and]
theorem nxF_none {s : ST} {p l d : Nat} : ∀ k q (b : Option Nat), nxF s p l d k q b = none → b = none ∧ ∀ j, q ≤ j → j < q + k → ¬ (c_be s j = 2 ∧ like s p j l = true ∧ bey s j p d = true)
  | 0, q, b, h => ⟨h, fun j a b => by omega⟩
  | k + 1, q, b, h => by
    unfold nxF at h
    obtain ⟨h1, h2⟩ := nxF_none k (q + 1) _ h
    by_cases hc : c_be s q = 2 ∧ like s p q l = true ∧ bey s q p d = true ∧ nbO s b q d = true
    · rw [if_pos hc] at h1
      cases h1
    · rw [if_neg hc] at h1
      refine ⟨h1, fun j hj1 hj2 => ?_⟩
      by_cases e : j = q
      · subst e
        intro z
        apply hc
        refine ⟨z.1, z.2.1, z.2.2, ?_⟩
        rw [h1]
        rfl
      · exact h2 j (by omega) (by omega)
theorem nxF_some {s : ST} {p l d x : Nat} : ∀ k q (b : Option Nat), nxF s p l d k q b = some x → b = some x ∨ (q ≤ x ∧ x < q + k ∧ c_be s x = 2 ∧ like s p x l = true ∧ bey s x p d = true)
  | 0, q, b, h => Or.inl h
  | k + 1, q, b, h => by
    unfold nxF at h
    rcases nxF_some k (q + 1) _ h with h1 | ⟨h1, h2, h3⟩
    · by_cases hc : c_be s q = 2 ∧ like s p q l = true ∧ bey s q p d = true ∧ nbO s b q d = true
      · rw [if_pos hc] at h1
        cases h1
        exact Or.inr ⟨Nat.le_refl _, by omega, hc.1, hc.2.1, hc.2.2.1⟩
      · rw [if_neg hc] at h1
        exact Or.inl h1
    · exact Or.inr ⟨by omega, by omega, h3⟩
theorem nxt_none {s : ST} {p l d : Nat} (hl : l < 9) (h : nxt s p l d = none) : nxt s p (l + 1) d = none := by
  cases hn : nxt s p (l + 1) d with
  | none => rfl
  | some x => 
    rcases nxF_some _ _ _ hn with z | ⟨_, z2, z3, z4, z5⟩
    · cases z
    · exact absurd ⟨z3, lkb_mono _ _ hl z4, z5⟩ ((nxF_none _ _ _ h).2 x (by omega) (by omega))
theorem nxt_lt {s : ST} {p l d x : Nat} (h : nxt s p l d = some x) : x < c_n s := by
  rcases nxF_some _ _ _ h with z | ⟨_, z2, _⟩
  · cases z
  · omega
theorem due_mono {s : ST} {p l : Nat} (hl : l < 9) (h : due s p l = false) : due s p (l + 1) = false := by
  unfold due at h ⊢
  rw [Bool.or_eq_false_iff] at h
  have h1 : ¬ l = 0 := fun z => by rw [z] at h; cases h.1
  have h2 : alo s p (l - 1) = true := by simpa using h.2
  have : alo s p l = true := by
    unfold alo at h2 ⊢
    rw [Bool.and_eq_true] at h2 ⊢
    have e : l = l - 1 + 1 := by omega
    rw [e]
    refine ⟨?_, ?_⟩
    · rw [nxt_none (by omega) (Option.isNone_iff_eq_none.mp h2.1)]; rfl
    · rw [nxt_none (by omega) (Option.isNone_iff_eq_none.mp h2.2)]; rfl
  simp [this]
theorem due_succ (s : ST) (p l : Nat) (hl : l < 9) : (due s p l && !alo s p l) = due s p (l + 1) := by
  cases hd : due s p l
  · rw [due_mono hl hd]; rfl
  · unfold due; simp
def QJ : Nat → Nat → Prop := fun r k => r = 8 ∧ 45 ≤ k ∧ k ≤ 47
def jM (m : MM) (o : Option (Nat × Nat × Nat)) : MM := match o with
  | none => m
  | some q => sI (sI (sI m 8 0 45 (nI q.1)) 8 0 46 (nI q.2.1)) 8 0 47 (nI q.2.2)
theorem enc_inj {o o' : Option Nat} {n : Nat} (h : ∀ x, o = some x → x < n) (h' : ∀ x, o' = some x → x < n) (hn : n ≤ 2 ^ 30) : enc o = enc o' ↔ o = o' := by
  constructor
  · intro z
    cases o with
    | none => 
      cases o' with
      | none => rfl
      | some b => 
        have := h' b rfl
        exact absurd z.symm (nI_n4 (p := b) (by omega))
    | some a => 
      have := h a rfl
      cases o' with
      | none => exact absurd z (nI_n4 (p := a) (by omega))
      | some b => 
        have := h' b rfl
        rw [(nI_eq (a := a) (b := b) (by omega) (by omega)).mp z]
  · intro z; rw [z]
theorem wlF_s (s : ST) (p d l : Nat) : wlF s p (d + 1) l = match flt s p l with | some x => some (l, x) | none => wlF s p d (l + 1) := rfl
theorem jl_loop {s : ST} {m : MM} {p : Nat} (h : RRp s m) (hc : CLs s) (hp : p < c_n s) (hb : c_be s p = 2) (h45 : mI m 8 0 45 = -4) : ∀ d l (a4 a5 a6 a7 : Option AV), l + d = 9 → ∀ z,
    (∀ m' b a3 a4 a5 a6 a7, m' = jM m ((wlF s p d l).map fun q => (p, q.1, q.2)) → go 162 205 [some (vr 8 (some 0)), some (vi (nI p)), some (vi b), some (vi a3), a4, a5, a6, a7] [] m' = z) →
    go 162 41 [some (vr 8 (some 0)), some (vi (nI p)), some (vi (b2 (due s p l))), some (vi (nI l)), a4, a5, a6, a7] [] m = z := by
  have h' := h
  obtain ⟨hx, hn, h3, h4, h5, h6⟩ := h'
  have i21 := ixN (FN_21 hn) (i := p) (by omega) (by decide)
  have g3 := (h6 p hp).2.2.1
  rw [hb, show nI 2 = 2 from rfl] at g3
  intro d
  induction d with
  | zero => 
    intro l a4 a5 a6 a7 hl z hz
    rw [s162_41]
    simp only [s162_42, s162_44, eq_self, ixk_some, bd_some, nl_n, nl_i, nl_r, Option.toList_some, Option.toList_none, List.cons_append, List.nil_append]
    rw [nI_k9, if_pos (nI_le (by omega) (by omega))]
    exact hz m _ _ _ _ _ _ rfl
  | succ d ih => 
    intro l a4 a5 a6 a7 hl z hz
    have hl9 : l < 9 := by omega
    obtain ⟨g23, g24, g25⟩ := (h6 p hp).2.2.2.2.2.2 l hl9
    have i23 := ixN (FN_23 hn) (i := 9 * p + l) (by omega) (by decide)
    have i24 := ixN (FN_24 hn) (i := 9 * p + l) (by omega) (by decide)
    have i25 := ixN (FN_25 hn) (i := 9 * p + l) (by omega) (by decide)
    have n0 : go 160 0 [some (vr 8 (some 0)), some (vi (nI p)), some (vi (nI l)), some (vi 0), none, none] [] m = some (some (vi (enc (nxt s p l 0))), m) := rr_next (d := 0) h hp (by decide)
    have n1 : go 160 0 [some (vr 8 (some 0)), some (vi (nI p)), some (vi (nI l)), some (vi 1), none, none] [] m = some (some (vi (enc (nxt s p l 1))), m) := rr_next (d := 1) h hp (by decide)
    have s1 : nI l + 1 = nI (l + 1) := nI_1 l
    have q0 : enc (nxt s p l 0) = -4 ↔ nxt s p l 0 = none := enc_n4 (n := c_n s) (fun x hx => nxt_lt hx) (by omega)
    have q1 : enc (nxt s p l 1) = -4 ↔ nxt s p l 1 = none := enc_n4 (n := c_n s) (fun x hx => nxt_lt hx) (by omega)
    rw [s162_41]
    simp only [s162_42, s162_44, eq_self, ixk_some, bd_some, nl_n, nl_i, nl_r, Option.toList_some, Option.toList_none, List.cons_append, List.nil_append]
    rw [nI_k9, if_neg (nI_ge hl9 (by omega))]
    simp only [s162_47, s162_48, s162_51, s162_52, s162_53, s162_54, s162_57, s162_58, s162_61, s162_63, s162_66, s162_67, s162_68, s162_69, s162_70, s162_73i, s162_73r, s162_73n, s162_75, s162_76, s162_77, s162_78, s162_79, s162_82i, s162_82r, s162_82n, s162_84, s162_86, s162_87, s162_88, s162_89, s162_90i, s162_90r, s162_90n, s162_92, s162_93, s162_96, s162_98, s162_99, eq_self, ixk_some, bd_some, nl_n, nl_i, nl_r, Option.toList_some, Option.toList_none, List.cons_append, List.nil_append, FX_2 hx, FX_3 hx, FX_4 hx, FX_5 hx, FX_6 hx, FX_7 hx, FX_8 hx, FX_9 hx, FX_10 hx, FX_11 hx, FX_12 hx, FX_13 hx, FX_15 hx, FX_19 hx, FX_20 hx, FX_21 hx, FX_22 hx, FX_23 hx, FX_24 hx, FX_25 hx, FX_26 hx, FX_27 hx, FX_28 hx, FX_29 hx, FX_31 hx, FX_32 hx, FX_33 hx, FX_34 hx, FX_35 hx, FX_36 hx, FX_37 hx, FX_39 hx, FX_40 hx, i21, g3, h45, not_true_eq_false, if_false, n0, n1, fl9, i23, g23]
    have c0 : enc (c_kl s p l 0) = enc (nxt s p l 0) ↔ c_kl s p l 0 = nxt s p l 0 := enc_inj (n := c_n s) (fun x hx => hc.1 p l 0 x hp hx) (fun x hx => nxt_lt hx) (by omega)
    have c1 : enc (c_kl s p l 1) = enc (nxt s p l 1) ↔ c_kl s p l 1 = nxt s p l 1 := enc_inj (n := c_n s) (fun x hx => hc.1 p l 1 x hp hx) (fun x hx => nxt_lt hx) (by omega)
    -- the wanted of the next level
    have want : ∀ m' a7, (∀ w, w = due s p (l + 1) → go 162 41 [some (vr 8 (some 0)), some (vi (nI p)), some (vi (b2 w)), some (vi (nI (l + 1))), some (vi (enc (nxt s p l 0))), some (vi (enc (nxt s p l 1))), some (vi (nI (9 * p + l))), a7] [] m' = z) →
        go 162 175 [some (vr 8 (some 0)), some (vi (nI p)), some (vi (b2 (due s p l))), some (vi (nI l)), some (vi (enc (nxt s p l 0))), some (vi (enc (nxt s p l 1))), some (vi (nI (9 * p + l))), a7] [] m' = z := by
      intro m' a7 hw
      have hw := hw _ (due_succ s p l hl9)
      rw [← hw]
      unfold alo
      cases hd : due s p l
      · simp [s162_175, s162_176, s162_197, s162_198i, s162_198r, s162_198n, s162_199i, s162_199r, s162_199n, s162_202, eq_self, ixk_some, bd_some, nl_n, nl_i, nl_r, Option.toList_some, Option.toList_none, List.cons_append, List.nil_append, s1, b2]
      · by_cases e0 : nxt s p l 0 = none
        · by_cases e1 : nxt s p l 1 = none
          · rw [e0, e1]
            have e4 : enc none = -4 := rfl
            simp [s162_175, s162_176, s162_179, s162_181, s162_183, s162_186, s162_188, s162_190, s162_193, s162_194, s162_197, s162_198i, s162_198r, s162_198n, s162_199i, s162_199r, s162_199n, s162_202, eq_self, ixk_some, bd_some, nl_n, nl_i, nl_r, Option.toList_some, Option.toList_none, List.cons_append, List.nil_append, s1, b2, e4]
          · have x1 : ¬ enc (nxt s p l 1) = -4 := fun z => e1 (q1.mp z)
            have y1 : (nxt s p l 1).isNone = false := by cases hh : nxt s p l 1 with | none => exact absurd hh e1 | some _ => rfl
            rw [e0]
            have e4 : enc none = -4 := rfl
            simp [s162_175, s162_176, s162_179, s162_181, s162_183, s162_186, s162_188, s162_190, s162_193, s162_194, s162_197, s162_198i, s162_198r, s162_198n, s162_199i, s162_199r, s162_199n, s162_202, eq_self, ixk_some, bd_some, nl_n, nl_i, nl_r, Option.toList_some, Option.toList_none, List.cons_append, List.nil_append, s1, b2, e4, x1, y1, e1]
        · have x0 : ¬ enc (nxt s p l 0) = -4 := fun z => e0 (q0.mp z)
          have y0 : (nxt s p l 0).isNone = false := by cases hh : nxt s p l 0 with | none => exact absurd hh e0 | some _ => rfl
          simp [s162_175, s162_176, s162_179, s162_181, s162_183, s162_186, s162_188, s162_190, s162_193, s162_194, s162_197, s162_198i, s162_198r, s162_198n, s162_199i, s162_199r, s162_199n, s162_202, eq_self, ixk_some, bd_some, nl_n, nl_i, nl_r, Option.toList_some, Option.toList_none, List.cons_append, List.nil_append, s1, b2, x0, y0, e0]
    -- from the fault on
    have at150 : go 162 150 [some (vr 8 (some 0)), some (vi (nI p)), some (vi (b2 (due s p l))), some (vi (nI l)), some (vi (enc (nxt s p l 0))), some (vi (enc (nxt s p l 1))), some (vi (nI (9 * p + l))), a7] [vi (enc (flt s p l))] m = z := by
      cases hf : flt s p l with
      | none => 
        have e4 : enc none = -4 := rfl
        rw [e4]
        simp only [s162_150i, s162_150r, s162_150n, s162_152, s162_154, s162_156, eq_self, ixk_some, bd_some, nl_n, nl_i, nl_r, Option.toList_some, Option.toList_none, List.cons_append, List.nil_append, if_true]
        refine want m (some (vi (-4))) (fun w hw => ?_)
        rw [hw]
        refine ih (l + 1) _ _ _ _ (by omega) z (fun m' b a3 a4 a5 a6 a7 hm' => hz m' b a3 a4 a5 a6 a7 ?_)
        rw [hm']
        rw [wlF_s, hf]
      | some x => 
        have hx2 : x ≤ 2 := by
          unfold flt at hf
          split at hf
          · cases hf; omega
          · split at hf
            · cases hf
            · split at hf
              · cases hf; omega
              · split at hf
                · cases hf; omega
                · cases hf
        have ex : enc (some x) = nI x := rfl
        rw [ex]
        simp only [s162_150i, s162_150r, s162_150n, s162_152, s162_154, s162_156, eq_self, ixk_some, bd_some, nl_n, nl_i, nl_r, Option.toList_some, Option.toList_none, List.cons_append, List.nil_append, if_neg (nI_n4 (p := x) (by omega))]
        simp only [s162_159, s162_160, s162_161, s162_164, s162_165, s162_166, s162_169, s162_170, s162_172, eq_self, ixk_some, bd_some, nl_n, nl_i, nl_r, Option.toList_some, Option.toList_none, List.cons_append, List.nil_append]
        refine want _ (some (vi (nI x))) (fun w hw => ?_)
        have hz := hz (sI (sI (sI m 8 0 45 (nI p)) 8 0 46 (nI l)) 8 0 47 (nI x)) (b2 w) (nI (l + 1)) (some (vi (enc (nxt s p l 0)))) (some (vi (enc (nxt s p l 1)))) (some (vi (nI (9 * p + l)))) (some (vi (nI x))) (by
          rw [wlF_s, hf]
          rfl)
        rw [← hz, s162_41]
        simp only [s162_42, s162_44, eq_self, ixk_some, bd_some, nl_n, nl_i, nl_r, Option.toList_some, Option.toList_none, List.cons_append, List.nil_append]
        by_cases h9 : l + 1 = 9
        · rw [nI_k9, if_pos (nI_le (by omega) (by omega))]
        · rw [nI_k9, if_neg (nI_ge (by omega) (by omega))]
          have g3' : mI (sI (sI (sI m 8 0 45 (nI p)) 8 0 46 (nI l)) 8 0 47 (nI x)) 21 0 p = 2 := g3
          have g45' : mI (sI (sI (sI m 8 0 45 (nI p)) 8 0 46 (nI l)) 8 0 47 (nI x)) 8 0 45 = nI p := rfl
          simp only [s162_47, s162_48, s162_51, s162_52, s162_53, s162_54, s162_57, s162_58, s162_61, s162_63, eq_self, ixk_some, bd_some, nl_n, nl_i, nl_r, Option.toList_some, Option.toList_none, List.cons_append, List.nil_append, mR_sI, mN_sI, FX_2 hx, FX_3 hx, FX_4 hx, FX_5 hx, FX_6 hx, FX_7 hx, FX_8 hx, FX_9 hx, FX_10 hx, FX_11 hx, FX_12 hx, FX_13 hx, FX_15 hx, FX_19 hx, FX_20 hx, FX_21 hx, FX_22 hx, FX_23 hx, FX_24 hx, FX_25 hx, FX_26 hx, FX_27 hx, FX_28 hx, FX_29 hx, FX_31 hx, FX_32 hx, FX_33 hx, FX_34 hx, FX_35 hx, FX_36 hx, FX_37 hx, FX_39 hx, FX_40 hx, i21, g3', g45', not_true_eq_false, if_false, nI_n4 (p := p) (by omega), not_false_eq_true, if_true]
    rw [← at150]
    unfold flt lnk
    cases hd : due s p l
    · cases hh : c_hs s p l
      · simp [s162_100, s162_107, s162_108, s162_111, s162_113, eq_self, ixk_some, bd_some, nl_n, nl_i, nl_r, Option.toList_some, Option.toList_none, List.cons_append, List.nil_append, b2, hd]
        rfl
      · simp [s162_100, s162_103, s162_104, eq_self, ixk_some, bd_some, nl_n, nl_i, nl_r, Option.toList_some, Option.toList_none, List.cons_append, List.nil_append, b2, hd]
        rfl
    · cases hh : c_hs s p l
      · simp [s162_100, s162_103, s162_104, eq_self, ixk_some, bd_some, nl_n, nl_i, nl_r, Option.toList_some, Option.toList_none, List.cons_append, List.nil_append, b2, hd]
        rfl
      · by_cases e0 : c_kl s p l 0 = nxt s p l 0
        · by_cases e1 : c_kl s p l 1 = nxt s p l 1
          · simp [s162_100, s162_107, s162_108, s162_116, s162_117, s162_120, s162_122, s162_123, s162_125, s162_132, s162_133, s162_136, s162_138, s162_139, s162_141, s162_148, eq_self, ixk_some, bd_some, nl_n, nl_i, nl_r, Option.toList_some, Option.toList_none, List.cons_append, List.nil_append, FX_2 hx, FX_3 hx, FX_4 hx, FX_5 hx, FX_6 hx, FX_7 hx, FX_8 hx, FX_9 hx, FX_10 hx, FX_11 hx, FX_12 hx, FX_13 hx, FX_15 hx, FX_19 hx, FX_20 hx, FX_21 hx, FX_22 hx, FX_23 hx, FX_24 hx, FX_25 hx, FX_26 hx, FX_27 hx, FX_28 hx, FX_29 hx, FX_31 hx, FX_32 hx, FX_33 hx, FX_34 hx, FX_35 hx, FX_36 hx, FX_37 hx, FX_39 hx, FX_40 hx, b2, hd, i24, g24, i25, g25, e0, e1]
            rfl
          · have x1 : ¬ enc (c_kl s p l 1) = enc (nxt s p l 1) := fun z => e1 (c1.mp z)
            simp [s162_100, s162_107, s162_108, s162_116, s162_117, s162_120, s162_122, s162_123, s162_125, s162_132, s162_133, s162_136, s162_138, s162_139, s162_141, s162_144, s162_145, eq_self, ixk_some, bd_some, nl_n, nl_i, nl_r, Option.toList_some, Option.toList_none, List.cons_append, List.nil_append, FX_2 hx, FX_3 hx, FX_4 hx, FX_5 hx, FX_6 hx, FX_7 hx, FX_8 hx, FX_9 hx, FX_10 hx, FX_11 hx, FX_12 hx, FX_13 hx, FX_15 hx, FX_19 hx, FX_20 hx, FX_21 hx, FX_22 hx, FX_23 hx, FX_24 hx, FX_25 hx, FX_26 hx, FX_27 hx, FX_28 hx, FX_29 hx, FX_31 hx, FX_32 hx, FX_33 hx, FX_34 hx, FX_35 hx, FX_36 hx, FX_37 hx, FX_39 hx, FX_40 hx, b2, hd, i24, g24, i25, g25, e0, e1, x1]
            rfl
        · have x0 : ¬ enc (c_kl s p l 0) = enc (nxt s p l 0) := fun z => e0 (c0.mp z)
          simp [s162_100, s162_107, s162_108, s162_116, s162_117, s162_120, s162_122, s162_123, s162_125, s162_128, s162_129, eq_self, ixk_some, bd_some, nl_n, nl_i, nl_r, Option.toList_some, Option.toList_none, List.cons_append, List.nil_append, FX_2 hx, FX_3 hx, FX_4 hx, FX_5 hx, FX_6 hx, FX_7 hx, FX_8 hx, FX_9 hx, FX_10 hx, FX_11 hx, FX_12 hx, FX_13 hx, FX_15 hx, FX_19 hx, FX_20 hx, FX_21 hx, FX_22 hx, FX_23 hx, FX_24 hx, FX_25 hx, FX_26 hx, FX_27 hx, FX_28 hx, FX_29 hx, FX_31 hx, FX_32 hx, FX_33 hx, FX_34 hx, FX_35 hx, FX_36 hx, FX_37 hx, FX_39 hx, FX_40 hx, b2, hd, i24, g24, e0, x0]
          rfl
theorem jp_loop {s : ST} {m : MM} (h : RRp s m) (hc : CLs s) (h45 : mI m 8 0 45 = -4) : ∀ d p (a2 a3 a4 a5 a6 a7 : Option AV), p + d = c_n s →
    go 162 20 [some (vr 8 (some 0)), some (vi (nI p)), a2, a3, a4, a5, a6, a7] [] m = some (none, jM m (wpF s d p)) := by
  have h' := h
  obtain ⟨hx, hn, h3, h4, h5, h6⟩ := h'
  intro d
  induction d with
  | zero => 
    intro p a2 a3 a4 a5 a6 a7 hp
    rw [s162_20]
    simp only [s162_21, s162_22, s162_25, eq_self, ixk_some, bd_some, nl_n, nl_i, nl_r, Option.toList_some, Option.toList_none, List.cons_append, List.nil_append, h4]
    rw [if_pos (nI_le (by omega) (by omega))]
    simp only [s162_211, eq_self, ixk_some, bd_some, nl_n, nl_i, nl_r, Option.toList_some, Option.toList_none, List.cons_append, List.nil_append]
    rfl
  | succ d ih => 
    intro p a2 a3 a4 a5 a6 a7 hp
    have hp2 : p < c_n s := by omega
    have g3 := (h6 p hp2).2.2.1
    have i21 := ixN (FN_21 hn) (i := p) (by omega) (by decide)
    have s1 : nI p + 1 = nI (p + 1) := nI_1 p
    rw [s162_20]
    simp only [s162_21, s162_22, s162_25, eq_self, ixk_some, bd_some, nl_n, nl_i, nl_r, Option.toList_some, Option.toList_none, List.cons_append, List.nil_append, h4]
    rw [if_neg (nI_ge hp2 (by omega))]
    simp only [s162_28, s162_29, s162_32, s162_34, s162_37, s162_38i, s162_38r, s162_38n, s162_39, s162_40i, s162_40r, s162_40n, eq_self, ixk_some, bd_some, nl_n, nl_i, nl_r, Option.toList_some, Option.toList_none, List.cons_append, List.nil_append, h45, not_true_eq_false, if_false]
    have w : wpF s (d + 1) p = match (if c_be s p = 2 then wlF s p 9 0 else none) with | some q => some (p, q.1, q.2) | none => wpF s d (p + 1) := rfl
    rw [w]
    by_cases e : c_be s p = 2
    · rw [if_pos e]
      have d0 : b2 (due s p 0) = 1 := rfl
      have L := jl_loop h hc hp2 e h45 9 0 a4 a5 a6 a7 (by omega) (some (none, jM m (match wlF s p 9 0 with | some q => some (p, q.1, q.2) | none => wpF s d (p + 1))))
      rw [d0, show nI 0 = 0 from rfl] at L
      refine L (fun m' b a3 a4 a5 a6 a7 hm' => ?_)
      cases hw : wlF s p 9 0 with
      | none => 
        rw [hw] at hm'
        have hm' : m' = m := hm'
        subst hm'
        have := ih (p + 1) (some (vi b)) (some (vi a3)) a4 a5 a6 a7 (by omega)
        simp only [s162_205i, s162_205r, s162_205n, s162_208, eq_self, ixk_some, bd_some, nl_n, nl_i, nl_r, Option.toList_some, Option.toList_none, List.cons_append, List.nil_append, s1, this]
      | some q => 
        rw [hw] at hm'
        have hm' : m' = jM m (some (p, q.1, q.2)) := hm'
        have e0 : mI m' 8 0 0 = nI (c_n s) := by rw [hm']; exact h4
        have e45 : mI m' 8 0 45 = nI p := by rw [hm']; rfl
        simp only [s162_205i, s162_205r, s162_205n, s162_208, eq_self, ixk_some, bd_some, nl_n, nl_i, nl_r, Option.toList_some, Option.toList_none, List.cons_append, List.nil_append, s1]
        rw [s162_20]
        simp only [s162_21, s162_22, s162_25, eq_self, ixk_some, bd_some, nl_n, nl_i, nl_r, Option.toList_some, Option.toList_none, List.cons_append, List.nil_append, e0]
        by_cases hq : p + 1 = c_n s
        · rw [if_pos (nI_le (by omega) (by omega))]
          simp only [s162_211, eq_self, ixk_some, bd_some, nl_n, nl_i, nl_r, Option.toList_some, Option.toList_none, List.cons_append, List.nil_append, hm']
        · rw [if_neg (nI_ge (by omega) (by omega))]
          simp only [s162_28, s162_29, s162_32, s162_34, s162_211, eq_self, ixk_some, bd_some, nl_n, nl_i, nl_r, Option.toList_some, Option.toList_none, List.cons_append, List.nil_append, e45, nI_n4 (p := p) (by omega), not_false_eq_true, if_true]
          rw [hm']
    · rw [if_neg e]
      have n2 := be_ne2 (h5 p hp2) e
      have := ih (p + 1) (some (vi 1)) (some (vi 0)) a4 a5 a6 a7 (by omega)
      rw [s162_41]
      simp only [s162_42, s162_44, eq_self, ixk_some, bd_some, nl_n, nl_i, nl_r, Option.toList_some, Option.toList_none, List.cons_append, List.nil_append]
      rw [if_neg (by decide)]
      simp only [s162_47, s162_48, s162_51, s162_52, s162_53, s162_54, eq_self, ixk_some, bd_some, nl_n, nl_i, nl_r, Option.toList_some, Option.toList_none, List.cons_append, List.nil_append, FX_2 hx, FX_3 hx, FX_4 hx, FX_5 hx, FX_6 hx, FX_7 hx, FX_8 hx, FX_9 hx, FX_10 hx, FX_11 hx, FX_12 hx, FX_13 hx, FX_15 hx, FX_19 hx, FX_20 hx, FX_21 hx, FX_22 hx, FX_23 hx, FX_24 hx, FX_25 hx, FX_26 hx, FX_27 hx, FX_28 hx, FX_29 hx, FX_31 hx, FX_32 hx, FX_33 hx, FX_34 hx, FX_35 hx, FX_36 hx, FX_37 hx, FX_39 hx, FX_40 hx, i21, g3, if_pos n2]
      simp only [s162_205i, s162_205r, s162_205n, s162_208, eq_self, ixk_some, bd_some, nl_n, nl_i, nl_r, Option.toList_some, Option.toList_none, List.cons_append, List.nil_append, s1, this]
def j0 (m : MM) : MM := sI (sI (sI m 8 0 45 (-4)) 8 0 46 (-4)) 8 0 47 (-4)
theorem j0_fs (m : MM) : fs QJ m (j0 m) := fsI (fsI (fsI (fs_rf QJ m) ⟨rfl, by decide, by decide⟩) ⟨rfl, by decide, by decide⟩) ⟨rfl, by decide, by decide⟩
theorem jM_fs (m : MM) (o : Option (Nat × Nat × Nat)) : fs QJ m (jM m o) := by
  cases o with
  | none => exact fs_rf QJ m
  | some q => exact fsI (fsI (fsI (fs_rf QJ m) ⟨rfl, by decide, by decide⟩) ⟨rfl, by decide, by decide⟩) ⟨rfl, by decide, by decide⟩
theorem rr_judge {s : ST} {m : MM} (h : RRp s m) (hc : CLs s) : go 162 0 [some (vr 8 (some 0)), none, none, none, none, none, none, none] [] m = some (none, jM (j0 m) (jud s)) := by
  have h0 : RRp s (j0 m) := RRp_fs h (j0_fs m) (fun r k z => by unfold QJ at z; omega)
  have := jp_loop h0 hc rfl (c_n s) 0 none none none none none none (by omega)
  unfold jud
  rw [← this]
  simp only [s162_0, s162_1, s162_3, s162_6, s162_7, s162_9, s162_12, s162_13, s162_15, s162_18, s162_19i, s162_19r, s162_19n, eq_self, ixk_some, bd_some, nl_n, nl_i, nl_r, Option.toList_some, Option.toList_none, List.cons_append, List.nil_append]
  rfl
theorem rr_sound {s : ST} {m : MM} (h : RRp s m) (hc : CLs s) : ∃ m', go 163 0 [some (vr 8 (some 0))] [] m = some (some (vi (o_sound s)), m') ∧ fs QJ m m' := by
  have j := rr_judge h hc
  refine ⟨jM (j0 m) (jud s), ?_, fs_tr (j0_fs m) (jM_fs _ _)⟩
  unfold o_sound
  cases hj : jud s with
  | none => 
    rw [hj] at j
    have e : mI (jM (j0 m) none) 8 0 45 = -4 := rfl
    simp [s163_0, s163_1, s163_4, s163_5, s163_8, s163_10, s163_13, s163_14, s163_17, s163_18, eq_self, ixk_some, bd_some, nl_n, nl_i, nl_r, Option.toList_some, Option.toList_none, List.cons_append, List.nil_append, j, e]
  | some q => 
    rw [hj] at j
    have hq : q.1 < c_n s := by
      have key : ∀ d p (q : Nat × Nat × Nat), wpF s d p = some q → q.1 < p + d := by
        intro d
        induction d with
        | zero => intro p q h; cases h
        | succ d ih => 
          intro p q h
          have w : wpF s (d + 1) p = match (if c_be s p = 2 then wlF s p 9 0 else none) with | some q => some (p, q.1, q.2) | none => wpF s d (p + 1) := rfl
          rw [w] at h
          cases hh : (if c_be s p = 2 then wlF s p 9 0 else none) with
          | some y => 
            rw [hh] at h
            cases h
            show p < _
            omega
          | none => 
            rw [hh] at h
            have := ih (p + 1) q h
            omega
      have := key _ _ _ hj
      omega
    have h32 := h.2.2.1
    have e : mI (jM (j0 m) (some q)) 8 0 45 = nI q.1 := rfl
    simp [s163_0, s163_1, s163_4, s163_5, s163_8, s163_10, s163_13, s163_14, s163_17, s163_18, eq_self, ixk_some, bd_some, nl_n, nl_i, nl_r, Option.toList_some, Option.toList_none, List.cons_append, List.nil_append, j, e, nI_n4 (p := q.1) (by omega)]
theorem rr_why {s : ST} {m : MM} {w : Int32} (h : RRp s m) (hc : CLs s) : ∃ m', go 164 0 [some (vr 8 (some 0)), some (vi w)] [] m = some (some (vi (o_why s w)), m') ∧ fs QJ m m' := by
  have j := rr_judge h hc
  have b0 := go_in (m := m) (v := w.toInt64) (a := 0) (b := 2)
  rw [t64, show (0 : Int64).toInt = 0 by decide, show (2 : Int64).toInt = 2 by decide] at b0
  unfold o_why
  by_cases hw : 0 ≤ w.toInt ∧ w.toInt ≤ 2
  · rw [decide_eq_true hw, b2_t] at b0
    rw [if_pos hw]
    refine ⟨jM (j0 m) (jud s), ?_, fs_tr (j0_fs m) (jM_fs _ _)⟩
    obtain ⟨q1, q2⟩ := x_lev (n := 2) hw
    have v : mI (jM (j0 m) (jud s)) 8 0 45 = (match jud s with | none => -4 | some q => nI q.1) ∧ mI (jM (j0 m) (jud s)) 8 0 46 = (match jud s with | none => -4 | some q => nI q.2.1) ∧ mI (jM (j0 m) (jud s)) 8 0 47 = (match jud s with | none => -4 | some q => nI q.2.2) := by
      cases jud s <;> exact ⟨rfl, rfl, rfl⟩
    obtain ⟨v1, v2, v3⟩ := v
    generalize w.toInt.toNat = t at *
    have ht : t = 0 ∨ t = 1 ∨ t = 2 := by omega
    rcases ht with rfl | rfl | rfl
    · subst q2
      rw [show nI 0 = 0 from rfl] at b0 ⊢
      rw [show (0 : Int32).toInt64 = 0 by decide] at b0
      simp [s164_0, s164_1, s164_2, s164_3, s164_6, s164_9, s164_12, s164_13, s164_14, s164_15, s164_18, s164_19, s164_22, s164_23, s164_26, s164_29, s164_30, s164_31, s164_34, s164_35, s164_38, s164_41, s164_42, s164_45, eq_self, ixk_some, bd_some, nl_n, nl_i, nl_r, Option.toList_some, Option.toList_none, List.cons_append, List.nil_append, b0, j, v1]
      cases jud s <;> rfl
    · subst q2
      rw [show nI 1 = 1 from rfl] at b0 ⊢
      rw [show (1 : Int32).toInt64 = 1 by decide] at b0
      simp [s164_0, s164_1, s164_2, s164_3, s164_6, s164_9, s164_12, s164_13, s164_14, s164_15, s164_18, s164_19, s164_22, s164_23, s164_26, s164_29, s164_30, s164_31, s164_34, s164_35, s164_38, s164_41, s164_42, s164_45, eq_self, ixk_some, bd_some, nl_n, nl_i, nl_r, Option.toList_some, Option.toList_none, List.cons_append, List.nil_append, b0, j, v2]
      cases jud s <;> rfl
    · subst q2
      rw [show nI 2 = 2 from rfl] at b0 ⊢
      rw [show (2 : Int32).toInt64 = 2 by decide] at b0
      simp [s164_0, s164_1, s164_2, s164_3, s164_6, s164_9, s164_12, s164_13, s164_14, s164_15, s164_18, s164_19, s164_22, s164_23, s164_26, s164_29, s164_30, s164_31, s164_34, s164_35, s164_38, s164_41, s164_42, s164_45, eq_self, ixk_some, bd_some, nl_n, nl_i, nl_r, Option.toList_some, Option.toList_none, List.cons_append, List.nil_append, b0, j, v3]
      cases jud s <;> rfl
  · rw [decide_eq_false hw, b2_f] at b0
    rw [if_neg hw]
    refine ⟨m, ?_, fs_rf _ _⟩
    simp [s164_0, s164_1, s164_2, s164_3, s164_6, s164_9, s164_12, s164_13, s164_14, s164_15, s164_18, s164_19, s164_22, s164_23, s164_26, s164_29, s164_30, s164_31, s164_34, s164_35, s164_38, s164_41, s164_42, s164_45, eq_self, ixk_some, bd_some, nl_n, nl_i, nl_r, Option.toList_some, Option.toList_none, List.cons_append, List.nil_append, b0]
/-- none of those on the walk is away -/
def wkN (s : ST) (x : Int32) : Nat → Nat → Prop
  | 0, u => awy s u = false
  | f + 1, u => awy s u = false ∧ ∀ p, onw s u x = some p → wkN s x f p
theorem wkN_a {s : ST} {x : Int32} {f u : Nat} (h : wkN s x f u) : awy s u = false := by
  cases f with
  | zero => exact h
  | succ f => exact h.1
theorem rwalk_loop {s : ST} {m : MM} {q : Nat} {b : Int32} {p : Nat} (h : RRp s m) (hc : CLs s) (hq : q < c_n s) : ∀ f u n (a5 : Option AV), u < c_n s → wkD s (c_nm s q) f u → wkN s (c_nm s q) f u → 1 ≤ n → n + f < 10000 → ∀ z,
    (∀ a5 a6, go 165 106 [some (vr 8 (some 0)), some (vi b), some (vi (nI p)), some (vi (nI q)), some (vi (nI (n - 1 + wkF s (c_nm s q) f u))), a5, a6] [] m = z) →
    go 165 74 [some (vr 8 (some 0)), some (vi b), some (vi (nI p)), some (vi (nI q)), some (vi (nI n)), a5, some (vi (aimv s u (c_nm s q)))] [] m = z := by
  have h' := h
  obtain ⟨hx, hn, h3, h4, h5, h6⟩ := h'
  have gq := (h6 q hq).1
  have iq := ixN (FN_19 hn) (i := q) (by omega) (by decide)
  have stop : ∀ u, awy s u = false → onw s u (c_nm s q) = none → aimv s u (c_nm s q) = -10 := by
    intro u hu ho
    unfold aimv
    rw [ho]
    simp [hu]
  intro f
  induction f with
  | zero => 
    intro u n a5 hu hd hN hn1 hnf z hz
    have hd : onw s u (c_nm s q) = none := hd
    rw [stop u (wkN_a hN) hd, s165_74]
    simp only [s165_76, s165_78, eq_self, ixk_some, bd_some, nl_n, nl_i, nl_r, Option.toList_some, Option.toList_none, List.cons_append, List.nil_append, if_true]
    have := hz a5 (some (vi (-10)))
    rw [show n - 1 + wkF s (c_nm s q) 0 u = n by show n - 1 + 1 = n; omega] at this
    exact this
  | succ f ih => 
    intro u n a5 hu hd hN hn1 hnf z hz
    have wk : wkF s (c_nm s q) (f + 1) u = match onw s u (c_nm s q) with | some p => 1 + wkF s (c_nm s q) f p | none => 1 := rfl
    unfold wkD at hd
    cases ho : onw s u (c_nm s q) with
    | none => 
      rw [stop u (wkN_a hN) ho, s165_74]
      simp only [s165_76, s165_78, eq_self, ixk_some, bd_some, nl_n, nl_i, nl_r, Option.toList_some, Option.toList_none, List.cons_append, List.nil_append, if_true]
      have := hz a5 (some (vi (-10)))
      rw [wk, ho] at this
      rw [show n - 1 + (match (none : Option Nat) with | some p => 1 + wkF s (c_nm s q) f p | none => 1) = n by show n - 1 + 1 = n; omega] at this
      exact this
    | some v => 
      rw [ho] at hd
      have hv := onw_lt hc hu ho
      have ea : aimv s u (c_nm s q) = nI v := by unfold aimv; rw [ho]
      have s1 : nI n + 1 = nI (n + 1) := nI_1 n
      have n10 : ¬ nI v = -10 := by
        intro z
        have := congrArg Int32.toInt z
        rw [nI_toInt (by omega)] at this
        have h4 : ((-10 : Int32)).toInt = -10 := by decide
        omega
      have ai := rr_aims (x := c_nm s q) h hc hv
      have := ih v (n + 1) (some (vi (nI v))) hv hd (hN.2 v ho) (by omega) (by omega) z (fun a5 a6 => by
        have := hz a5 a6
        rw [wk, ho] at this
        rw [show n - 1 + (match some v with | some p => 1 + wkF s (c_nm s q) f p | none => 1) = n + 1 - 1 + wkF s (c_nm s q) f v by show n - 1 + (1 + wkF s (c_nm s q) f v) = _; omega] at this
        exact this)
      rw [ea, s165_74]
      simp only [s165_76, s165_78, eq_self, ixk_some, bd_some, nl_n, nl_i, nl_r, Option.toList_some, Option.toList_none, List.cons_append, List.nil_append, if_neg n10]
      simp only [s165_81, s165_83i, s165_83r, s165_83n, s165_85i, s165_85r, s165_85n, s165_88, s165_89, s165_91, s165_92, s165_95, s165_96, s165_97, s165_98, s165_101i, s165_101r, s165_101n, s165_103, eq_self, ixk_some, bd_some, nl_n, nl_i, nl_r, Option.toList_some, Option.toList_none, List.cons_append, List.nil_append, FX_2 hx, FX_3 hx, FX_4 hx, FX_5 hx, FX_6 hx, FX_7 hx, FX_8 hx, FX_9 hx, FX_10 hx, FX_11 hx, FX_12 hx, FX_13 hx, FX_15 hx, FX_19 hx, FX_20 hx, FX_21 hx, FX_22 hx, FX_23 hx, FX_24 hx, FX_25 hx, FX_26 hx, FX_27 hx, FX_28 hx, FX_29 hx, FX_31 hx, FX_32 hx, FX_33 hx, FX_34 hx, FX_35 hx, FX_36 hx, FX_37 hx, FX_39 hx, FX_40 hx, iq, gq, ai, s1, this]
theorem rwq_loop {s : ST} {m : MM} {p : Nat} (h : RRp s m) (hc : CLs s) (hp : p < c_n s) (hd : c_be s p = 2 → ∀ q, q < c_n s → c_be s q = 2 → wkD s (c_nm s q) 64 p ∧ wkN s (c_nm s q) 64 p) : ∀ d q (b : Int32) (a4 a5 a6 : Option AV), q + d = c_n s →
    ∀ r, (∀ a4 a5 a6, go 165 125 [some (vr 8 (some 0)), some (vi (wqF s p d q b)), some (vi (nI p)), some (vi (nI (c_n s))), a4, a5, a6] [] m = r) → go 165 25 [some (vr 8 (some 0)), some (vi b), some (vi (nI p)), some (vi (nI q)), a4, a5, a6] [] m = r := by
  have h' := h
  obtain ⟨hx, hn, h3, h4, h5, h6⟩ := h'
  have gp := (h6 p hp).2.2.1
  have ip := ixN (FN_21 hn) (i := p) (by omega) (by decide)
  intro d
  induction d with
  | zero => 
    intro q b a4 a5 a6 hq r hr
    rw [s165_25]
    simp only [s165_26, s165_27, s165_30, eq_self, ixk_some, bd_some, nl_n, nl_i, nl_r, Option.toList_some, Option.toList_none, List.cons_append, List.nil_append, h4]
    rw [if_pos (nI_le (by omega) (by omega))]
    rw [show nI q = nI (c_n s) by rw [show q = c_n s by omega]]
    exact hr a4 a5 a6
  | succ d ih => 
    intro q b a4 a5 a6 hq r hr
    have hq2 : q < c_n s := by omega
    have gq := (h6 q hq2).2.2.1
    have gn := (h6 q hq2).1
    have iq := ixN (FN_21 hn) (i := q) (by omega) (by decide)
    have i19 := ixN (FN_19 hn) (i := q) (by omega) (by decide)
    have s1 : nI q + 1 = nI (q + 1) := nI_1 q
    have nx : ∀ b' a4 a5 a6, (∀ a4 a5 a6, go 165 125 [some (vr 8 (some 0)), some (vi (wqF s p d (q + 1) b')), some (vi (nI p)), some (vi (nI (c_n s))), a4, a5, a6] [] m = r) → go 165 119 [some (vr 8 (some 0)), some (vi b'), some (vi (nI p)), some (vi (nI q)), a4, a5, a6] [] m = r := by
      intro b' a4 a5 a6 hb'
      have := ih (q + 1) b' a4 a5 a6 (by omega) r hb'
      rw [← this]
      simp only [s165_119i, s165_119r, s165_119n, s165_122, eq_self, ixk_some, bd_some, nl_n, nl_i, nl_r, Option.toList_some, Option.toList_none, List.cons_append, List.nil_append, s1]
    have wq : wqF s p (d + 1) q b = wqF s p d (q + 1) (if c_be s p = 2 ∧ c_be s q = 2 then (let n := nI (wkF s (c_nm s q) 64 p); if b < n then n else b) else b) := rfl
    rw [wq] at hr
    rw [s165_25]
    simp only [s165_26, s165_27, s165_30, eq_self, ixk_some, bd_some, nl_n, nl_i, nl_r, Option.toList_some, Option.toList_none, List.cons_append, List.nil_append, h4]
    rw [if_neg (nI_ge hq2 (by omega))]
    simp only [s165_33, s165_34, s165_37, s165_38, s165_39, s165_40, eq_self, ixk_some, bd_some, nl_n, nl_i, nl_r, Option.toList_some, Option.toList_none, List.cons_append, List.nil_append, FX_2 hx, FX_3 hx, FX_4 hx, FX_5 hx, FX_6 hx, FX_7 hx, FX_8 hx, FX_9 hx, FX_10 hx, FX_11 hx, FX_12 hx, FX_13 hx, FX_15 hx, FX_19 hx, FX_20 hx, FX_21 hx, FX_22 hx, FX_23 hx, FX_24 hx, FX_25 hx, FX_26 hx, FX_27 hx, FX_28 hx, FX_29 hx, FX_31 hx, FX_32 hx, FX_33 hx, FX_34 hx, FX_35 hx, FX_36 hx, FX_37 hx, FX_39 hx, FX_40 hx, ip, gp]
    by_cases e1 : c_be s p = 2
    · rw [if_neg (by rw [e1]; decide)]
      simp only [s165_43, s165_44, s165_47, s165_48, s165_49, s165_50, eq_self, ixk_some, bd_some, nl_n, nl_i, nl_r, Option.toList_some, Option.toList_none, List.cons_append, List.nil_append, FX_2 hx, FX_3 hx, FX_4 hx, FX_5 hx, FX_6 hx, FX_7 hx, FX_8 hx, FX_9 hx, FX_10 hx, FX_11 hx, FX_12 hx, FX_13 hx, FX_15 hx, FX_19 hx, FX_20 hx, FX_21 hx, FX_22 hx, FX_23 hx, FX_24 hx, FX_25 hx, FX_26 hx, FX_27 hx, FX_28 hx, FX_29 hx, FX_31 hx, FX_32 hx, FX_33 hx, FX_34 hx, FX_35 hx, FX_36 hx, FX_37 hx, FX_39 hx, FX_40 hx, iq, gq]
      by_cases e2 : c_be s q = 2
      · rw [if_pos ⟨e1, e2⟩] at hr
        rw [if_neg (by rw [e2]; decide)]
        have ai := rr_aims (x := c_nm s q) h hc hp
        have w := rwalk_loop (b := b) (p := p) h hc hq2 64 p 1 (some (vi (nI p))) hp (hd e1 q hq2 e2).1 (hd e1 q hq2 e2).2 (by omega) (by omega) r (fun a5 a6 => by
          rw [show 1 - 1 + wkF s (c_nm s q) 64 p = wkF s (c_nm s q) 64 p by omega]
          simp only [s165_106, s165_108, s165_109, eq_self, ixk_some, bd_some, nl_n, nl_i, nl_r, Option.toList_some, Option.toList_none, List.cons_append, List.nil_append]
          by_cases hb : b < nI (wkF s (c_nm s q) 64 p)
          · rw [if_neg (i_nle.mpr hb)]
            simp only [s165_112, s165_114, s165_118i, s165_118r, s165_118n, eq_self, ixk_some, bd_some, nl_n, nl_i, nl_r, Option.toList_some, Option.toList_none, List.cons_append, List.nil_append]
            simp only [if_pos hb] at hr
            exact nx _ _ _ _ hr
          · rw [if_pos (i_nlt.mp hb)]
            simp only [s165_117, s165_118i, s165_118r, s165_118n, eq_self, ixk_some, bd_some, nl_n, nl_i, nl_r, Option.toList_some, Option.toList_none, List.cons_append, List.nil_append]
            simp only [if_neg hb] at hr
            exact nx _ _ _ _ hr)
        rw [show nI 1 = 1 from rfl] at w
        simp only [s165_53, s165_54i, s165_54r, s165_54n, s165_56, s165_57i, s165_57r, s165_57n, s165_59, s165_60, s165_62, s165_63, s165_66, s165_67, s165_68, s165_69, s165_72i, s165_72r, s165_72n, eq_self, ixk_some, bd_some, nl_n, nl_i, nl_r, Option.toList_some, Option.toList_none, List.cons_append, List.nil_append, FX_2 hx, FX_3 hx, FX_4 hx, FX_5 hx, FX_6 hx, FX_7 hx, FX_8 hx, FX_9 hx, FX_10 hx, FX_11 hx, FX_12 hx, FX_13 hx, FX_15 hx, FX_19 hx, FX_20 hx, FX_21 hx, FX_22 hx, FX_23 hx, FX_24 hx, FX_25 hx, FX_26 hx, FX_27 hx, FX_28 hx, FX_29 hx, FX_31 hx, FX_32 hx, FX_33 hx, FX_34 hx, FX_35 hx, FX_36 hx, FX_37 hx, FX_39 hx, FX_40 hx, i19, gn, ai, w]
      · rw [if_neg (fun z => e2 z.2)] at hr
        rw [if_pos (be_ne2 (h5 q hq2) e2)]
        exact nx b _ _ _ hr
    · rw [if_neg (fun z => e1 z.1)] at hr
      rw [if_pos (be_ne2 (h5 p hp) e1)]
      exact nx b _ _ _ hr
theorem rws_loop {s : ST} {m : MM} (h : RRp s m) (hc : CLs s) (hd : ∀ p, p < c_n s → c_be s p = 2 → ∀ q, q < c_n s → c_be s q = 2 → wkD s (c_nm s q) 64 p ∧ wkN s (c_nm s q) 64 p) : ∀ d p (b : Int32) (a3 a4 a5 a6 : Option AV), p + d = c_n s →
    go 165 15 [some (vr 8 (some 0)), some (vi b), some (vi (nI p)), a3, a4, a5, a6] [] m = some (some (vi (wsF s d p b)), m) := by
  have h4 := h.2.2.2.1
  have h3 := h.2.2.1
  intro d
  induction d with
  | zero => 
    intro p b a3 a4 a5 a6 hp
    rw [s165_15]
    simp only [s165_16, s165_17, s165_20, eq_self, ixk_some, bd_some, nl_n, nl_i, nl_r, Option.toList_some, Option.toList_none, List.cons_append, List.nil_append, h4]
    rw [if_pos (nI_le (by omega) (by omega))]
    simp only [s165_131, s165_132, eq_self, ixk_some, bd_some, nl_n, nl_i, nl_r, Option.toList_some, Option.toList_none, List.cons_append, List.nil_append]
    rfl
  | succ d ih => 
    intro p b a3 a4 a5 a6 hp
    have s1 : nI p + 1 = nI (p + 1) := nI_1 p
    rw [s165_15]
    simp only [s165_16, s165_17, s165_20, eq_self, ixk_some, bd_some, nl_n, nl_i, nl_r, Option.toList_some, Option.toList_none, List.cons_append, List.nil_append, h4]
    rw [if_neg (nI_ge (by omega) (by omega))]
    have := rwq_loop h hc (show p < c_n s by omega) (fun e => hd p (by omega) e) (c_n s) 0 b a4 a5 a6 (by omega) (some (some (vi (wsF s (d + 1) p b)), m)) (fun a4 a5 a6 => by
      have := ih (p + 1) (wqF s p (c_n s) 0 b) (some (vi (nI (c_n s)))) a4 a5 a6 (by omega)
      simp only [s165_125i, s165_125r, s165_125n, s165_128, eq_self, ixk_some, bd_some, nl_n, nl_i, nl_r, Option.toList_some, Option.toList_none, List.cons_append, List.nil_append, s1, this]
      rfl)
    rw [← this]
    simp only [s165_23, s165_24i, s165_24r, s165_24n, eq_self, ixk_some, bd_some, nl_n, nl_i, nl_r, Option.toList_some, Option.toList_none, List.cons_append, List.nil_append]
    rfl
theorem rr_worst {s : ST} {m : MM} (h : RRp s m) (hcc : RRc s m) (hc : CLs s) (hd : c_ck s = 0 → ∀ p, p < c_n s → c_be s p = 2 → ∀ q, q < c_n s → c_be s q = 2 → wkD s (c_nm s q) 64 p ∧ wkN s (c_nm s q) 64 p) :
    go 165 0 [some (vr 8 (some 0)), none, none, none, none, none, none] [] m = some (some (vi (o_worst s)), m) := by
  obtain ⟨c1, c2, -⟩ := hcc
  unfold o_worst
  by_cases hk : 0 < c_ck s
  · rw [if_pos hk]
    have : ¬ nI (c_ck s) ≤ 0 := nI_ge (show 0 < c_ck s from hk) (by omega)
    simp only [s165_0, s165_1, s165_4, s165_7, s165_9, eq_self, ixk_some, bd_some, nl_n, nl_i, nl_r, Option.toList_some, Option.toList_none, List.cons_append, List.nil_append, c1, if_neg this]
  · rw [if_neg hk]
    have e : nI (c_ck s) ≤ 0 := by rw [show c_ck s = 0 by omega]; decide
    have := rws_loop h hc (hd (by omega)) (c_n s) 0 (-4) none none none none (by omega)
    rw [← this]
    simp only [s165_0, s165_1, s165_4, s165_10, s165_12i, s165_12r, s165_12n, s165_13, s165_14i, s165_14r, s165_14n, eq_self, ixk_some, bd_some, nl_n, nl_i, nl_r, Option.toList_some, Option.toList_none, List.cons_append, List.nil_append, c1, if_pos e]
    rfl
