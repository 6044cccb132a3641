/-! the class: what an ask's message does -/
def QS (k : Nat) : Nat → Nat → Prop := fun r n => (r = 1 ∨ r = 9 ∨ r = 10) ∧ n = k
theorem RC2_fr {a : AK} {m m' : MM} {j k : Nat} (h : RC2 a m j) (hf : fr (QS k) m m') (hne : j ≠ k) : RC2 a m' j := by
  obtain ⟨g0, g1, g2, g3, g4, g5, g6, g7, g8, g9, g10, g11, g12, g13, g14, g15, g16⟩ := h
  have n : ∀ r, ¬ QS k r j := fun r z => hne z.2
  have I := fun x => (hf.1 1 j x (n 1)).1
  have R := fun x => (hf.1 1 j x (n 1)).2.2
  exact ⟨by rw [I]; exact g0, by rw [I]; exact g1, by rw [I]; exact g2, by rw [I]; exact g3, by rw [(hf.1 1 j 4 (n 1)).2.1]; exact g4, fun z => by rw [I]; exact g5 z, by rw [I]; exact g6, by rw [I]; exact g7, by rw [I]; exact g8, by rw [I]; exact g9, by rw [I]; exact g10, by rw [R]; exact g11, by rw [R]; exact g12, by rw [hf.2.2.1]; exact g13, by rw [hf.2.2.1]; exact g14,
    fun i x hx => by rw [(hf.1 9 j i (n 9)).1]; exact g15 i x hx, fun z i x hx => by rw [(hf.1 10 j i (n 10)).1]; exact g16 z i x hx⟩
theorem RCa_up {s : ST} {m m' : MM} {k : Nat} {a' : AK} (h : RCa s m) (hf : fr (QS k) m m') (h2 : RC2 a' m' k) (ho : AKo a') : RCa (c_ak_ s (up1 (c_ak s) k a')) m' := by
  obtain ⟨k1, k2, k3, k4, k5, k6, k7⟩ := h
  have n7 : ¬ QS k 7 0 := fun z => by have := z.1; omega
  have n17 : ¬ QS k 17 0 := fun z => by have := z.1; omega
  refine ⟨k1, by rw [(hf.1 7 0 3 n7).1]; exact k2, by rw [(hf.1 7 0 2 n7).2.2]; exact k3, by rw [hf.2.2.1]; exact k4, fun i hi => by rw [(hf.1 17 0 i n17).2.2]; exact k5 i hi, fun j hj => ?_, fun j hj => ?_⟩
  · by_cases e : j = k
    · subst e
      have : c_ak (c_ak_ s (up1 (c_ak s) j a')) j = a' := if_pos rfl
      rw [this]; exact h2
    · have : c_ak (c_ak_ s (up1 (c_ak s) k a')) j = c_ak s j := if_neg e
      rw [this]; exact RC2_fr (k6 j hj) hf e
  · by_cases e : j = k
    · subst e
      have : c_ak (c_ak_ s (up1 (c_ak s) j a')) j = a' := if_pos rfl
      rw [this]; exact ho
    · have : c_ak (c_ak_ s (up1 (c_ak s) k a')) j = c_ak s j := if_neg e
      rw [this]; exact k7 j hj
theorem QS_K {k : Nat} : ∀ r n, QS k r n → 1 ≤ r ∧ r ≤ 18 ∧ r ≠ 8 ∧ r ≠ 4 ∧ r ≠ 3 := fun r n z => by
  have := z.1
  omega
theorem RC_ask {s : ST} {m m' : MM} {k : Nat} {a' : AK} (h : RC s m) (hf : fr (QS k) m m') (h2 : RC2 a' m' k) (ho : AKo a') : RC (c_ak_ s (up1 (c_ak s) k a')) m' :=
  ⟨RCp_fr h.1 hf (fun r n z => by have := z.1; omega), RCc_fr h.2.1 hf (fun r n z => by have := z.1; omega), RCk_fr h.2.2.1 hf (fun r n z => by have := z.1; omega), RCa_up h.2.2.2.1 hf h2 ho, RCm_fr h.2.2.2.2.1 hf (fun r n z => by have := z.1; omega), RCq_fr h.2.2.2.2.2.1 hf (fun r n z => by have := z.1; omega), RCs_fg h.2.2.2.2.2.2.1 (fg_fr hf) (fun r n z => by have := z.1; omega), RCn_fr h.2.2.2.2.2.2.2 hf⟩
theorem up1_get {α : Type} (f : Nat → α) (i : Nat) (v : α) : up1 f i v i = v := if_pos rfl
/-- the ask was already set anew -/
theorem RC_ask2 {s : ST} {m m' : MM} {k : Nat} {a a' : AK} (h : RC (c_ak_ s (up1 (c_ak s) k a)) m) (hf : fr (QS k) m m') (h2 : RC2 a' m' k) (ho : AKo a') : RC (c_ak_ s (up1 (c_ak s) k a')) m' := by
  have := RC_ask h hf h2 ho
  have e : up1 (c_ak (c_ak_ s (up1 (c_ak s) k a))) k a' = up1 (c_ak s) k a' := up1_up1 _ _ _ _
  rw [e] at this
  exact this
theorem RC_askget {s : ST} {m : MM} {k : Nat} {a : AK} (h : RC (c_ak_ s (up1 (c_ak s) k a)) m) (hk : k < c_na s) : RC2 a m k ∧ AKo a := by
  have h1 := h.2.2.2.1.2.2.2.2.2.1 k hk
  have h2 := h.2.2.2.1.2.2.2.2.2.2 k hk
  have e : c_ak (c_ak_ s (up1 (c_ak s) k a)) k = a := up1_get _ _ _
  rw [e] at h1 h2
  exact ⟨h1, h2⟩
theorem byt {u : Nat} (h : u < 32) : (nI u).toInt8.toInt32 = nI u := by
  have : ∀ u : Fin 32, (nI u.val).toInt8.toInt32 = nI u.val := by decide
  exact this ⟨u, h⟩
def psA (a : AK) (u : Nat) : AK := a_ps_ (if a_ps a < 40 then a_wy_ a (a_wy a ++ [u]) else a) (a_ps a + 1)
theorem app_get {L : List Nat} {u i x : Nat} (h : (L ++ [u])[i]? = some x) : (i < L.length ∧ L[i]? = some x) ∨ (i = L.length ∧ x = u) := by
  by_cases hi : i < L.length
  · rw [List.getElem?_append_left hi] at h
    exact Or.inl ⟨hi, h⟩
  · rw [List.getElem?_append_right (by omega)] at h
    by_cases h9 : i - L.length = 0
    · rw [h9] at h
      have : u = x := by simpa using h
      exact Or.inr ⟨by omega, this.symm⟩
    · rw [List.getElem?_eq_none (by simp; omega)] at h
      cases h
theorem go_pass {a : AK} {m : MM} {k u : Nat} (h : RC2 a m k) (ho : AKo a) (hn : mI m 6 u 0 = nI u) (hu : u < 32) (hp : a_ps a + 1 < 2 ^ 30) :
    ∃ m', go 1 0 [some (vr 1 (some k)), some (vr 6 (some u))] [] m = some (none, m') ∧ RC2 (psA a u) m' k ∧ AKo (psA a u) ∧ fr (QS k) m m' := by
  obtain ⟨o1, o2, o3, o4, o5, o6, o7⟩ := ho
  obtain ⟨g0, g1, g2, g3, g4, g5, g6, g7, g8, g9, g10, g11, g12, g13, g14, g15, g16⟩ := h
  have hb := byt hu
  have e40 : (40 : Int32) = nI 40 := rfl
  have s1 : nI (a_ps a) + 1 = nI (a_ps a + 1) := nI_1 _
  unfold psA
  by_cases hlt : a_ps a < 40
  · have hix := ix_nI (i := a_ps a) (n := mN m 9 k) (by rw [g13]; exact hlt) (by rw [g13]; decide)
    rw [if_pos hlt]
    refine ⟨sI (sI m 9 k (a_ps a) (nI u)) 1 k 9 (nI (a_ps a + 1)), ?_, ?_, ⟨o1, hp, o3, ?_, o5, o6, o7⟩, fr_tr (fr_sI m _ ⟨Or.inr (Or.inl rfl), rfl⟩) (fr_sI _ _ ⟨Or.inl rfl, rfl⟩)⟩
    · simp only [s1_0, s1_1, s1_4, s1_6, eq_self, ixk_some, bd_some, nl_n, nl_i, nl_r, Option.toList_some, Option.toList_none, List.cons_append, List.nil_append, g9]
      rw [e40, if_neg (nI_ge hlt (by omega))]
      have hb2 : (nI u).toInt8.toInt32.toInt8.toInt32 = (nI u).toInt8.toInt32 := by rw [hb, hb]
      have g9' : mI (sI m 9 k (a_ps a) (nI u)) 1 k 9 = nI (a_ps a) := by rw [mI_sI, if_neg (by omega)]; exact g9
      simp only [s1_9, s1_10, s1_13, s1_14, s1_17, s1_18, s1_21, eq_self, ixk_some, bd_some, nl_n, nl_i, nl_r, Option.toList_some, Option.toList_none, List.cons_append, List.nil_append, g9, g11, hn, hb]
      rw [s1_22 hb, hix, ixk_some]
      simp only [s1_23, s1_24, s1_25, s1_28, s1_29, s1_30, s1_33, eq_self, ixk_some, bd_some, nl_n, nl_i, nl_r, Option.toList_some, Option.toList_none, List.cons_append, List.nil_append, g9', s1]
    · refine ⟨?_, ?_, ?_, ?_, g4, ?_, ?_, ?_, ?_, ?_, ?_, g11, g12, g13, g14, ?_, ?_⟩
      · (simp [mI_sI]; exact g0)
      · (simp [mI_sI]; exact g1)
      · (simp [mI_sI]; exact g2)
      · (simp [mI_sI]; exact g3)
      · intro z; (simp [mI_sI]; exact g5 z)
      · (simp [mI_sI]; exact g6)
      · (simp [mI_sI]; exact g7)
      · (simp [mI_sI]; exact g8)
      · rw [mI_sI, if_pos ⟨rfl, rfl, rfl⟩]; rfl
      · (simp [mI_sI]; exact g10)
      · intro i x hx
        have hx : (a_wy a ++ [u])[i]? = some x := hx
        rw [mI_sI, if_neg (by omega), mI_sI]
        rcases app_get hx with ⟨q1, q2⟩ | ⟨q1, q2⟩
        · rw [if_neg (by omega)]
          exact g15 i x q2
        · rw [if_pos ⟨rfl, rfl, by omega⟩, q2]
      · intro z i x hx
        rw [mI_sI, if_neg (by omega), mI_sI, if_neg (by omega)]
        exact g16 z i x hx
    · show (a_wy a ++ [u]).length = min (a_ps a + 1) 40
      rw [List.length_append, o4]
      simp only [List.length_cons, List.length_nil]
      omega
  · rw [if_neg hlt]
    refine ⟨sI m 1 k 9 (nI (a_ps a + 1)), ?_, ?_, ⟨o1, hp, o3, ?_, o5, o6, o7⟩, fr_sI m _ ⟨Or.inl rfl, rfl⟩⟩
    · simp only [s1_0, s1_1, s1_4, s1_6, eq_self, ixk_some, bd_some, nl_n, nl_i, nl_r, Option.toList_some, Option.toList_none, List.cons_append, List.nil_append, g9]
      rw [e40, if_pos (nI_le (by omega) (by omega))]
      simp only [s1_23, s1_24, s1_25, s1_28, s1_29, s1_30, s1_33, eq_self, ixk_some, bd_some, nl_n, nl_i, nl_r, Option.toList_some, Option.toList_none, List.cons_append, List.nil_append, g9, s1]
    · refine ⟨?_, ?_, ?_, ?_, g4, ?_, ?_, ?_, ?_, ?_, ?_, g11, g12, g13, g14, ?_, ?_⟩
      · (simp [mI_sI]; exact g0)
      · (simp [mI_sI]; exact g1)
      · (simp [mI_sI]; exact g2)
      · (simp [mI_sI]; exact g3)
      · intro z; (simp [mI_sI]; exact g5 z)
      · (simp [mI_sI]; exact g6)
      · (simp [mI_sI]; exact g7)
      · (simp [mI_sI]; exact g8)
      · rw [mI_sI, if_pos ⟨rfl, rfl, rfl⟩]; rfl
      · (simp [mI_sI]; exact g10)
      · intro i x hx
        rw [mI_sI, if_neg (by omega)]
        exact g15 i x hx
      · intro z i x hx
        rw [mI_sI, if_neg (by omega)]
        exact g16 z i x hx
    · show (a_wy a).length = min (a_ps a + 1) 40
      rw [o4]
      omega
def ntA (a : AK) (u : Nat) : AK := a_nt_ (if a_nt a < 40 then a_no_ a (a_no a ++ [u]) else a) (a_nt a + 1)
theorem go_note {a : AK} {m : MM} {k u : Nat} (h : RC2 a m k) (ho : AKo a) (hn : mI m 6 u 0 = nI u) (hu : u < 32) (hp : a_nt a + 1 < 2 ^ 30) :
    ∃ m', go 2 0 [some (vr 1 (some k)), some (vr 6 (some u))] [] m = some (none, m') ∧ RC2 (ntA a u) m' k ∧ AKo (ntA a u) ∧ fr (QS k) m m' := by
  obtain ⟨o1, o2, o3, o4, o5, o6, o7⟩ := ho
  obtain ⟨g0, g1, g2, g3, g4, g5, g6, g7, g8, g9, g10, g11, g12, g13, g14, g15, g16⟩ := h
  have hb := byt hu
  have s1 : nI (a_nt a) + 1 = nI (a_nt a + 1) := nI_1 _
  have hlen : ∀ b : AK, b = (if a_nt a < 40 then a_no_ a (a_no a ++ [u]) else a) → (a_no b).length = min (a_nt a + 1) 40 ∧ a_so b = a_so a ∧ a_lo b = a_lo a ∧ a_hi b = a_hi a ∧ a_va b = a_va a ∧ a_th b = a_th a ∧ a_dn b = a_dn a ∧ a_lt b = a_lt a ∧ a_an b = a_an a ∧ a_ps b = a_ps a ∧ a_wy b = a_wy a := by
    intro b hb
    by_cases hlt : a_nt a < 40
    · rw [if_pos hlt] at hb
      subst hb
      refine ⟨?_, rfl, rfl, rfl, rfl, rfl, rfl, rfl, rfl, rfl, rfl⟩
      show (a_no a ++ [u]).length = _
      rw [List.length_append, o5]
      simp only [List.length_cons, List.length_nil]
      omega
    · rw [if_neg hlt] at hb
      subst hb
      refine ⟨?_, rfl, rfl, rfl, rfl, rfl, rfl, rfl, rfl, rfl, rfl⟩
      rw [o5]
      omega
  unfold ntA
  by_cases hlt : a_so a = 1 ∧ a_nt a < 40
  · have g14' := g14
    rw [if_pos hlt.1] at g14'
    have hix := ix_nI (i := a_nt a) (n := mN m 10 k) (by rw [g14']; exact hlt.2) (by rw [g14']; decide)
    have hq := hlen _ rfl
    rw [if_pos hlt.2] at hq ⊢
    refine ⟨sI (sI m 10 k (a_nt a) (nI u)) 1 k 10 (nI (a_nt a + 1)), ?_, ?_, ⟨o1, o2, hp, o4, hq.1, o6, o7⟩, fr_tr (fr_sI m _ ⟨Or.inr (Or.inr rfl), rfl⟩) (fr_sI _ _ ⟨Or.inl rfl, rfl⟩)⟩
    · simp only [s2_0, s2_1, s2_4, s2_5, s2_8, s2_9, eq_self, ixk_some, bd_some, nl_n, nl_i, nl_r, Option.toList_some, Option.toList_none, List.cons_append, List.nil_append, g10, g12]
      rw [if_neg (by rw [g14']; exact nI_ge hlt.2 (by decide))]
      have g9' : mI (sI m 10 k (a_nt a) (nI u)) 1 k 10 = nI (a_nt a) := by rw [mI_sI, if_neg (by omega)]; exact g10
      simp only [s2_12, s2_13, s2_16, s2_17, s2_20, s2_21, s2_24, eq_self, ixk_some, bd_some, nl_n, nl_i, nl_r, Option.toList_some, Option.toList_none, List.cons_append, List.nil_append, g10, g12, hn, hb]
      rw [s2_25 hb, hix, ixk_some]
      simp only [s2_26, s2_27, s2_28, s2_31, s2_32, s2_33, s2_36, eq_self, ixk_some, bd_some, nl_n, nl_i, nl_r, Option.toList_some, Option.toList_none, List.cons_append, List.nil_append, g9', s1]
    · refine ⟨?_, ?_, ?_, ?_, g4, ?_, ?_, ?_, ?_, ?_, ?_, g11, g12, g13, g14, ?_, ?_⟩
      · (simp [mI_sI]; exact g0)
      · (simp [mI_sI]; exact g1)
      · (simp [mI_sI]; exact g2)
      · (simp [mI_sI]; exact g3)
      · intro z; (simp [mI_sI]; exact g5 z)
      · (simp [mI_sI]; exact g6)
      · (simp [mI_sI]; exact g7)
      · (simp [mI_sI]; exact g8)
      · (simp [mI_sI]; exact g9)
      · rw [mI_sI, if_pos ⟨rfl, rfl, rfl⟩]; rfl
      · intro i x hx
        rw [mI_sI, if_neg (by omega), mI_sI, if_neg (by omega)]
        exact g15 i x hx
      · intro z i x hx
        have hx : (a_no a ++ [u])[i]? = some x := hx
        rw [mI_sI, if_neg (by omega), mI_sI]
        rcases app_get hx with ⟨q1, q2⟩ | ⟨q1, q2⟩
        · rw [if_neg (by omega)]
          exact g16 z i x q2
        · rw [if_pos ⟨rfl, rfl, by omega⟩, q2]
  · have hq := hlen _ rfl
    have hno : a_so a = 1 → (if a_nt a < 40 then a_no_ a (a_no a ++ [u]) else a) = a := fun z => if_neg (fun y => hlt ⟨z, y⟩)
    generalize hbb : (if a_nt a < 40 then a_no_ a (a_no a ++ [u]) else a) = b at *
    obtain ⟨q0, q1, q2, q3, q4, q5, q6, q7, q8, q9, q10⟩ := hq
    refine ⟨sI m 1 k 10 (nI (a_nt a + 1)), ?_, ?_, ⟨by show a_so b ≤ 4; rw [q1]; exact o1, by show a_ps b < _; rw [q9]; exact o2, hp, by show (a_wy b).length = min (a_ps b) 40; rw [q9, q10]; exact o4, q0, by show a_lt b = true → a_dn b = true; rw [q6, q7]; exact o6, by show a_so b = 4 → a_dn b = false → a_va b = 0; rw [q1, q6, q4]; exact o7⟩, fr_sI m _ ⟨Or.inl rfl, rfl⟩⟩
    · simp only [s2_0, s2_1, s2_4, s2_5, s2_8, s2_9, eq_self, ixk_some, bd_some, nl_n, nl_i, nl_r, Option.toList_some, Option.toList_none, List.cons_append, List.nil_append, g10, g12]
      have : nI (mN m 10 k) ≤ nI (a_nt a) := by
        rw [g14]
        by_cases h1 : a_so a = 1
        · rw [if_pos h1]; exact nI_le (by omega) (by omega)
        · rw [if_neg h1]; exact nI_le (by omega) (by omega)
      rw [if_pos this]
      simp only [s2_26, s2_27, s2_28, s2_31, s2_32, s2_33, s2_36, eq_self, ixk_some, bd_some, nl_n, nl_i, nl_r, Option.toList_some, Option.toList_none, List.cons_append, List.nil_append, g10, s1]
    · refine ⟨?_, ?_, ?_, ?_, ?_, ?_, ?_, ?_, ?_, ?_, ?_, g11, g12, g13, ?_, ?_, ?_⟩
      · (simp [mI_sI]; exact g0)
      · show _ = nI (a_so b); rw [q1]; (simp [mI_sI]; exact g1)
      · show _ = a_lo b; rw [q2]; (simp [mI_sI]; exact g2)
      · show _ = a_hi b; rw [q3]; (simp [mI_sI]; exact g3)
      · show _ = a_va b; rw [q4]; exact g4
      · show a_dn b = false → _ = b2 (a_th b); rw [q5, q6]; intro z; (simp [mI_sI]; exact g5 z)
      · show _ = b2 (a_dn b); rw [q6]; (simp [mI_sI]; exact g6)
      · show _ = b2 (a_lt b); rw [q7]; (simp [mI_sI]; exact g7)
      · show _ = a_an b; rw [q8]; (simp [mI_sI]; exact g8)
      · show _ = nI (a_ps b); rw [q9]; (simp [mI_sI]; exact g9)
      · rw [mI_sI, if_pos ⟨rfl, rfl, rfl⟩]; rfl
      · show _ = if a_so b = 1 then 40 else 0; rw [q1]; exact g14
      · show ∀ i x, (a_wy b)[i]? = some x → _
        rw [q10]
        intro i x hx
        rw [mI_sI, if_neg (by omega)]
        exact g15 i x hx
      · show a_so b = 1 → ∀ i x, (a_no b)[i]? = some x → _
        rw [q1]
        intro z i x
        rw [hno z]
        intro hx
        rw [mI_sI, if_neg (by omega)]
        exact g16 z i x hx
