/-! the reference: an ask's message comes -/
def QN (k : Nat) : Nat → Nat → Prop := fun r j => ((32 ≤ r ∧ r ≤ 42) ∧ r ≠ 36 ∧ r ≠ 37 ∧ j = k) ∨ ((r = 36 ∨ r = 37) ∧ 40 * k ≤ j ∧ j < 40 * k + 40) ∨ (r = 8 ∧ (j = 17 ∨ j = 18))
theorem QN_W {k : Nat} : ∀ r j, QN k r j → QW r j := fun r j z => by
  unfold QN at z
  unfold QW
  omega
theorem RRa_up {s : ST} {m m' : MM} {k : Nat} {a' : AK} (h : RRa s m) (hf : fs (QN k) m m') (h2 : RR2 a' m' k) (ho : AKo a') (h17 : mI m' 8 0 17 = nI (cntF (fun j => a_dn (up1 (c_ak s) k a' j)) (c_na s) 0)) (h18 : mI m' 8 0 18 = nI (cntF (fun j => a_lt (up1 (c_ak s) k a' j)) (c_na s) 0)) : RRa (c_ak_ s (up1 (c_ak s) k a')) m' := by
  obtain ⟨k1, k2, k3, k4, k5, k6⟩ := h
  have n : ∀ r j, ¬ QN k r j → mI m' r 0 j = mI m r 0 j ∧ mL m' r 0 j = mL m r 0 j := fun r j z => hf.1 r 0 j z
  refine ⟨k1, by rw [(n 8 16 (fun z => by unfold QN at z; omega)).1]; exact k2, h17, h18, fun j hj => ?_, fun j hj => ?_⟩
  · show RR2 (up1 (c_ak s) k a' j) m' j
    by_cases e : j = k
    · subst e
      rw [up1_get]; exact h2
    · rw [show up1 (c_ak s) k a' j = c_ak s j from if_neg e]
      obtain ⟨g1, g2, g3, g4, g5, g6, g7, g8, g9, g10, g11⟩ := k5 j hj
      have ho5 := (k6 j hj).2.2.2.1
      have ho6 := (k6 j hj).2.2.2.2.1
      have q : ∀ r, 32 ≤ r → r ≤ 42 → r ≠ 36 → r ≠ 37 → mI m' r 0 j = mI m r 0 j ∧ mL m' r 0 j = mL m r 0 j := fun r a b c d => n r j (fun z => by unfold QN at z; omega)
      refine ⟨by rw [(q 32 (by decide) (by decide) (by decide) (by decide)).1]; exact g1, by rw [(q 33 (by decide) (by decide) (by decide) (by decide)).1]; exact g2, by rw [(q 34 (by decide) (by decide) (by decide) (by decide)).1]; exact g3, by rw [(q 35 (by decide) (by decide) (by decide) (by decide)).1]; exact g4, fun i x hx => ?_, fun i x hx => ?_, by rw [(q 38 (by decide) (by decide) (by decide) (by decide)).1]; exact g7, by rw [(q 39 (by decide) (by decide) (by decide) (by decide)).1]; exact g8, by rw [(q 40 (by decide) (by decide) (by decide) (by decide)).1]; exact g9, by rw [(q 41 (by decide) (by decide) (by decide) (by decide)).1]; exact g10, by rw [(q 42 (by decide) (by decide) (by decide) (by decide)).2]; exact g11⟩
      · have hi := (List.getElem?_eq_some_iff.mp hx).1
        rw [(n 36 _ (fun z => by unfold QN at z; omega)).1]
        exact g5 i x hx
      · have hi := (List.getElem?_eq_some_iff.mp hx).1
        rw [(n 37 _ (fun z => by unfold QN at z; omega)).1]
        exact g6 i x hx
  · show AKo (up1 (c_ak s) k a' j)
    by_cases e : j = k
    · subst e
      rw [up1_get]; exact ho
    · rw [show up1 (c_ak s) k a' j = c_ak s j from if_neg e]
      exact k6 j hj
theorem RR_ask {s : ST} {m m' : MM} {k : Nat} {a' : AK} (h : RR s m) (hf : fs (QN k) m m') (h2 : RR2 a' m' k) (ho : AKo a') (h17 : mI m' 8 0 17 = nI (cntF (fun j => a_dn (up1 (c_ak s) k a' j)) (c_na s) 0)) (h18 : mI m' 8 0 18 = nI (cntF (fun j => a_lt (up1 (c_ak s) k a' j)) (c_na s) 0)) : RR (c_ak_ s (up1 (c_ak s) k a')) m' := by
  have q : ∀ r j, QN k r j → (32 ≤ r ∧ r ≤ 42) ∨ (r = 8 ∧ (j = 17 ∨ j = 18)) := fun r j z => by unfold QN at z; omega
  exact ⟨RRp_fs h.1 hf (fun r j z => by have := q r j z; omega), RRq_fs h.2.1 hf (fun r j z => by have := q r j z; omega), RRk_fs h.2.2.1 hf (fun r j z => by have := q r j z; omega), RRa_up h.2.2.2.1 hf h2 ho h17 h18, RRm_fs h.2.2.2.2.1 hf (fun r j z => by have := q r j z; omega), RRc_fs h.2.2.2.2.2.1 hf (fun r j z => by have := q r j z; omega), RRb_fs h.2.2.2.2.2.2 hf (fun r j z => by have := q r j z; omega) (fun g a _ => a) rfl⟩
theorem cnt_same {F : Nat → AK} {k n : Nat} {a' : AK} (P : AK → Bool) (h : P a' = P (F k)) : cntF (fun j => P (up1 F k a' j)) n 0 = cntF (fun j => P (F j)) n 0 := by
  refine cntF_eq (n := n) n 0 (by omega) (fun j _ => ?_)
  show P (up1 F k a' j) = P (F j)
  unfold up1
  by_cases e : j = k
  · rw [if_pos e, e]; exact h
  · rw [if_neg e]
theorem cnt_flip {P Q : Nat → Bool} {k : Nat} (h1 : ∀ j, j ≠ k → Q j = P j) (h2 : P k = false) (h3 : Q k = true) : ∀ d i, i ≤ k → k < i + d → cntF Q d i = cntF P d i + 1
  | 0, i, a, b => by omega
  | d + 1, i, a, b => by
    show (if Q i = true then 1 else 0) + cntF Q d (i + 1) = (if P i = true then 1 else 0) + cntF P d (i + 1) + 1
    by_cases e : i = k
    · subst e
      rw [h2, h3]
      have : cntF Q d (i + 1) = cntF P d (i + 1) := by
        have key : ∀ d l, i < l → cntF Q d l = cntF P d l := by
          intro d
          induction d with
          | zero => intro l _; rfl
          | succ d ih => 
            intro l hl
            show (if Q l = true then 1 else 0) + cntF Q d (l + 1) = (if P l = true then 1 else 0) + cntF P d (l + 1)
            rw [ih (l + 1) (by omega), h1 l (by omega)]
        exact key d (i + 1) (by omega)
      rw [this]
      simp
      omega
    · rw [h1 i e, cnt_flip h1 h2 h3 d (i + 1) (by omega) (by omega)]
      omega
def enM (m : MM) (k n : Nat) (x : Int32) : MM := sI (sI (sI m 33 0 k 1) 34 0 k x) 8 0 17 (nI (n + 1))
theorem go_rends {m : MM} {k n : Nat} {x : Int32} (hx : FX m) (hn : FN m) (hk : k < 160) (h17 : mI m 8 0 17 = nI n) : go 118 0 [some (vr 8 (some 0)), some (vi (nI k)), some (vi x)] [] m = some (none, enM m k n x) := by
  have i33 := ixN (FN_33 hn) (i := k) hk (by decide)
  have i34 := ixN (FN_34 hn) (i := k) hk (by decide)
  have s1 : nI n + 1 = nI (n + 1) := nI_1 n
  have e : mI (sI (sI m 33 0 k 1) 34 0 k x) 8 0 17 = nI n := h17
  simp only [s118_0, s118_1, s118_4, s118_5, s118_6b0, s118_6b1, s118_7, s118_8, s118_11, s118_12, s118_13, s118_14, s118_15, s118_16, s118_19, s118_20, s118_21, s118_24, eq_self, ixk_some, bd_some, nl_n, nl_i, nl_r, Option.toList_some, Option.toList_none, List.cons_append, List.nil_append, mR_sI, mN_sI, FX_2 hx, FX_3 hx, FX_4 hx, FX_5 hx, FX_6 hx, FX_7 hx, FX_8 hx, FX_9 hx, FX_10 hx, FX_11 hx, FX_12 hx, FX_13 hx, FX_15 hx, FX_19 hx, FX_20 hx, FX_21 hx, FX_22 hx, FX_23 hx, FX_24 hx, FX_25 hx, FX_26 hx, FX_27 hx, FX_28 hx, FX_29 hx, FX_31 hx, FX_32 hx, FX_33 hx, FX_34 hx, FX_35 hx, FX_36 hx, FX_37 hx, FX_39 hx, FX_40 hx, i33, i34, e, s1]
  rfl
theorem enM_fs (m : MM) (k n : Nat) (x : Int32) : fs (QN k) m (enM m k n x) := fsI (fsI (fsI (fs_rf _ m) (Or.inl ⟨by decide, by decide, by decide, rfl⟩)) (Or.inl ⟨by decide, by decide, by decide, rfl⟩)) (Or.inr (Or.inr ⟨rfl, Or.inl rfl⟩))
theorem RR2_en {a : AK} {m : MM} {k n : Nat} {x : Int32} (h : RR2 a m k) : RR2 (a_an_ (a_dn_ a true) x) (enM m k n x) k := by
  obtain ⟨g1, g2, g3, g4, g5, g6, g7, g8, g9, g10, g11⟩ := h
  unfold enM
  refine ⟨g1, ?_, ?_, g4, g5, g6, g7, g8, g9, g10, g11⟩
  · rw [mI_ne (by omega), mI_ne (by omega), mI_sI, if_pos ⟨rfl, rfl, rfl⟩]; rfl
  · rw [mI_ne (by omega), mI_sI, if_pos ⟨rfl, rfl, rfl⟩]; rfl
/-- an ask that is not done ends -/
theorem rr_ends {s : ST} {m : MM} {k : Nat} {x : Int32} (h : RR s m) (hk : k < c_na s) (hd : a_dn (c_ak s k) = false) : ∃ m', go 118 0 [some (vr 8 (some 0)), some (vi (nI k)), some (vi x)] [] m = some (none, m') ∧ RR (endA s k x) m' ∧ fs QW m m' := by
  have h160 := h.2.2.2.1.1
  have h17 := h.2.2.2.1.2.2.1
  have h18 := h.2.2.2.1.2.2.2.1
  refine ⟨_, go_rends h.1.1 h.1.2.1 (by omega) h17, ?_, fs_le (enM_fs _ _ _ _) QN_W⟩
  refine RR_ask h (enM_fs _ _ _ _) (RR2_en (h.2.2.2.1.2.2.2.2.1 k hk)) (AKo_fin (h.2.2.2.1.2.2.2.2.2 k hk)) ?_ ?_
  · rw [cnt_flip (P := fun j => a_dn (c_ak s j)) (Q := fun j => a_dn (up1 (c_ak s) k (a_an_ (a_dn_ (c_ak s k) true) x) j)) (k := k) (fun j hj => by show a_dn (up1 _ _ _ j) = _; rw [show up1 (c_ak s) k (a_an_ (a_dn_ (c_ak s k) true) x) j = c_ak s j from if_neg hj]) hd (by show a_dn (up1 _ _ _ k) = _; rw [up1_get]; rfl) (c_na s) 0 (Nat.zero_le _) (by omega)]
    rfl
  · rw [cnt_same a_lt (show a_lt (a_an_ (a_dn_ (c_ak s k) true) x) = a_lt (c_ak s k) from rfl)]
    exact h18
theorem rr_sendA {s : ST} {m : MM} {k p : Nat} (h : RR s m) (hk : k < c_na s) (hl : (c_ms s).length < 192) :
    ∃ m', go 119 0 [some (vr 8 (some 0)), some (vi (nI (a_so (c_ak s k)))), some (vi (nI p)), some (vi (nI k)), some (vi (-4)), some (vi 0), some (vi (-4)), some (vi (-4)), none] [] m = some (none, m') ∧ RR (snda s k p) m' ∧ fs QW m m' := by
  have o1 := (h.2.2.2.1.2.2.2.2.2 k hk).1
  refine rr_send (g := (a_so (c_ak s k), p, some k, none, 0, none, none)) h hl (RRb_snd h.2.2.2.2.2.2 ?_) ⟨fun z => ?_, fun z => ?_, fun z => ?_⟩
  · show a_so (c_ak s k) ≠ 6 ∧ a_so (c_ak s k) ≠ 10
    omega
  · have z : a_so (c_ak s k) = 5 ∨ a_so (c_ak s k) = 8 := z
    omega
  · have z : a_so (c_ak s k) = 7 := z
    omega
  · have z : a_so (c_ak s k) = 6 ∨ a_so (c_ak s k) = 9 := z
    omega
theorem rr_pass {s : ST} {m : MM} {k u : Nat} (h : RR s m) (hk : k < c_na s) (hp : a_ps (c_ak s k) + 1 < 2 ^ 30) :
    ∃ m', (∀ r, go 122 38 [some (vr 8 (some 0)), some (vi (nI k)), some (vi (nI u)), none] [] m' = r → go 122 0 [some (vr 8 (some 0)), some (vi (nI k)), some (vi (nI u)), none] [] m = r) ∧ RR (c_ak_ s (up1 (c_ak s) k (psA (c_ak s k) u))) m' ∧ fs QW m m' := by
  have h160 := h.2.2.2.1.1
  have hx := h.1.1
  have hn := h.1.2.1
  have h17 := h.2.2.2.1.2.2.1
  have h18 := h.2.2.2.1.2.2.2.1
  obtain ⟨o1, o2, o3, o4, o5, o6, o7⟩ := h.2.2.2.1.2.2.2.2.2 k hk
  obtain ⟨g1, g2, g3, g4, g5, g6, g7, g8, g9, g10, g11⟩ := h.2.2.2.1.2.2.2.2.1 k hk
  have i35 := ixN (FN_35 hn) (i := k) (by omega) (by decide)
  have s1 : nI (a_ps (c_ak s k)) + 1 = nI (a_ps (c_ak s k) + 1) := nI_1 _
  have e40 : (40 : Int32) = nI 40 := rfl
  have key : ∀ m', mI m' 8 0 17 = mI m 8 0 17 → mI m' 8 0 18 = mI m 8 0 18 → fs (QN k) m m' → RR2 (psA (c_ak s k) u) m' k → AKo (psA (c_ak s k) u) → RR (c_ak_ s (up1 (c_ak s) k (psA (c_ak s k) u))) m' := by
    intro m' a b c d e
    refine RR_ask h c d e ?_ ?_
    · rw [a, cnt_same a_dn (psA_f (c_ak s k) u).2.2.2.2.1]; exact h17
    · rw [b, cnt_same a_lt (by unfold psA; by_cases q : a_ps (c_ak s k) < 40 <;> simp only [q, if_true, if_false] <;> rfl)]; exact h18
  by_cases hlt : a_ps (c_ak s k) < 40
  · have i36 := ixN (FN_36 hn) (i := 40 * k + a_ps (c_ak s k)) (by omega) (by decide)
    have F : fs (QN k) m (sI (sI m 36 0 (40 * k + a_ps (c_ak s k)) (nI u)) 35 0 k (nI (a_ps (c_ak s k) + 1))) := fsI (fsI (fs_rf _ m) (Or.inr (Or.inl ⟨Or.inl rfl, by omega, by omega⟩))) (Or.inl ⟨by decide, by decide, by decide, rfl⟩)
    refine ⟨sI (sI m 36 0 (40 * k + a_ps (c_ak s k)) (nI u)) 35 0 k (nI (a_ps (c_ak s k) + 1)), fun r hr => ?_, key _ rfl rfl F ?_ ?_, fs_le F QN_W⟩
    · rw [← hr]
      have g4' : mI (sI m 36 0 (40 * k + a_ps (c_ak s k)) (nI u)) 35 0 k = nI (a_ps (c_ak s k)) := g4
      simp only [s122_0, s122_1, s122_4, s122_5, s122_6, s122_8, eq_self, ixk_some, bd_some, nl_n, nl_i, nl_r, Option.toList_some, Option.toList_none, List.cons_append, List.nil_append, FX_2 hx, FX_3 hx, FX_4 hx, FX_5 hx, FX_6 hx, FX_7 hx, FX_8 hx, FX_9 hx, FX_10 hx, FX_11 hx, FX_12 hx, FX_13 hx, FX_15 hx, FX_19 hx, FX_20 hx, FX_21 hx, FX_22 hx, FX_23 hx, FX_24 hx, FX_25 hx, FX_26 hx, FX_27 hx, FX_28 hx, FX_29 hx, FX_31 hx, FX_32 hx, FX_33 hx, FX_34 hx, FX_35 hx, FX_36 hx, FX_37 hx, FX_39 hx, FX_40 hx, i35, g4]
      rw [e40, if_neg (nI_ge hlt (by omega))]
      simp only [s122_11, s122_12, s122_15, s122_17, s122_18, s122_19, s122_20, s122_23, s122_24, s122_25, s122_26, s122_27, s122_28, s122_29, s122_32, s122_33, s122_34, s122_35, s122_36, s122_37, eq_self, ixk_some, bd_some, nl_n, nl_i, nl_r, Option.toList_some, Option.toList_none, List.cons_append, List.nil_append, mR_sI, mN_sI, FX_2 hx, FX_3 hx, FX_4 hx, FX_5 hx, FX_6 hx, FX_7 hx, FX_8 hx, FX_9 hx, FX_10 hx, FX_11 hx, FX_12 hx, FX_13 hx, FX_15 hx, FX_19 hx, FX_20 hx, FX_21 hx, FX_22 hx, FX_23 hx, FX_24 hx, FX_25 hx, FX_26 hx, FX_27 hx, FX_28 hx, FX_29 hx, FX_31 hx, FX_32 hx, FX_33 hx, FX_34 hx, FX_35 hx, FX_36 hx, FX_37 hx, FX_39 hx, FX_40 hx, i35, g4, fl40, i36, g4', s1]
    · unfold psA
      rw [if_pos hlt]
      refine ⟨g1, g2, g3, ?_, fun i x hx => ?_, g6, g7, g8, g9, g10, g11⟩
      · rw [mI_sI, if_pos ⟨rfl, rfl, rfl⟩]; rfl
      · have hx : (a_wy (c_ak s k) ++ [u])[i]? = some x := hx
        rw [mI_ne (by omega), mI_sI]
        rcases app_get hx with ⟨q1, q2⟩ | ⟨q1, q2⟩
        · rw [if_neg (by omega)]
          exact g5 i x q2
        · rw [if_pos ⟨rfl, rfl, by omega⟩, q2]
    · unfold psA
      rw [if_pos hlt]
      refine ⟨o1, hp, o3, ?_, o5, o6, o7⟩
      show (a_wy (c_ak s k) ++ [u]).length = min (a_ps (c_ak s k) + 1) 40
      rw [List.length_append, o4]
      simp only [List.length_cons, List.length_nil]
      omega
  · have F : fs (QN k) m (sI m 35 0 k (nI (a_ps (c_ak s k) + 1))) := fsI (fs_rf _ m) (Or.inl ⟨by decide, by decide, by decide, rfl⟩)
    refine ⟨sI m 35 0 k (nI (a_ps (c_ak s k) + 1)), fun r hr => ?_, key _ rfl rfl F ?_ ?_, fs_le F QN_W⟩
    · rw [← hr]
      simp only [s122_0, s122_1, s122_4, s122_5, s122_6, s122_8, eq_self, ixk_some, bd_some, nl_n, nl_i, nl_r, Option.toList_some, Option.toList_none, List.cons_append, List.nil_append, FX_2 hx, FX_3 hx, FX_4 hx, FX_5 hx, FX_6 hx, FX_7 hx, FX_8 hx, FX_9 hx, FX_10 hx, FX_11 hx, FX_12 hx, FX_13 hx, FX_15 hx, FX_19 hx, FX_20 hx, FX_21 hx, FX_22 hx, FX_23 hx, FX_24 hx, FX_25 hx, FX_26 hx, FX_27 hx, FX_28 hx, FX_29 hx, FX_31 hx, FX_32 hx, FX_33 hx, FX_34 hx, FX_35 hx, FX_36 hx, FX_37 hx, FX_39 hx, FX_40 hx, i35, g4]
      rw [e40, if_pos (nI_le (by omega) (by omega))]
      simp only [s122_28, s122_29, s122_32, s122_33, s122_34, s122_35, s122_36, s122_37, eq_self, ixk_some, bd_some, nl_n, nl_i, nl_r, Option.toList_some, Option.toList_none, List.cons_append, List.nil_append, mR_sI, mN_sI, FX_2 hx, FX_3 hx, FX_4 hx, FX_5 hx, FX_6 hx, FX_7 hx, FX_8 hx, FX_9 hx, FX_10 hx, FX_11 hx, FX_12 hx, FX_13 hx, FX_15 hx, FX_19 hx, FX_20 hx, FX_21 hx, FX_22 hx, FX_23 hx, FX_24 hx, FX_25 hx, FX_26 hx, FX_27 hx, FX_28 hx, FX_29 hx, FX_31 hx, FX_32 hx, FX_33 hx, FX_34 hx, FX_35 hx, FX_36 hx, FX_37 hx, FX_39 hx, FX_40 hx, i35, g4, s1]
    · unfold psA
      rw [if_neg hlt]
      refine ⟨g1, g2, g3, ?_, g5, g6, g7, g8, g9, g10, g11⟩
      rw [mI_sI, if_pos ⟨rfl, rfl, rfl⟩]; rfl
    · unfold psA
      rw [if_neg hlt]
      refine ⟨o1, hp, o3, ?_, o5, o6, o7⟩
      show (a_wy (c_ak s k)).length = min (a_ps (c_ak s k) + 1) 40
      rw [o4]
      omega
