/-! a message of an ask is taken -/
def SEa (s s' : ST) : Prop := vw s' = vw s ∧ c_n s' = c_n s ∧ c_hs s' = c_hs s ∧ c_kl s' = c_kl s ∧ c_ol s' = c_ol s ∧ c_ev s' = c_ev s ∧ c_na s' = c_na s ∧ c_ck s' = c_ck s ∧ c_cp s' = c_cp s ∧ c_cu s' = c_cu s ∧ c_bg s' = c_bg s ∧ c_be s' = c_be s
def akG (a x : AK) : Prop := a_so x = a_so a ∧ a_lo x = a_lo a ∧ a_ps x = a_ps a + 1 ∧ a_nt x ≤ a_nt a + 1
def oA (s : ST) (k : Nat) (x : AK) : ST := c_ak_ s (up1 (c_ak s) k x)
def oP (s : ST) (k u : Nat) (L : PRS) (x : AK) : ST := c_ak_ (c_pr_ s (up1 (c_pr s) u L)) (up1 (c_ak s) k x)
/-- what becomes of an ask whose message comes to u -/
def outA (s : ST) (k u : Nat) (s' : ST) : Prop := ∃ x, akG (c_ak s k) x ∧ (s' = oA s k x ∨ (a_so (c_ak s k) = 3 ∧ ∃ v, s' = oP s k u (ins (c_pr s u) (a_lo (c_ak s k)) v) x) ∨ (a_dn x = a_dn (c_ak s k) ∧ ∃ p, p < c_n s ∧ s' = snda (oA s k x) k p))
theorem akG_ps (a : AK) (u : Nat) : akG a (psA a u) ∧ a_dn (psA a u) = a_dn a ∧ a_nt (psA a u) = a_nt a := by
  unfold psA akG
  by_cases h : a_ps a < 40
  · rw [if_pos h]; exact ⟨⟨rfl, rfl, rfl, Nat.le_succ _⟩, rfl, rfl⟩
  · rw [if_neg h]; exact ⟨⟨rfl, rfl, rfl, Nat.le_succ _⟩, rfl, rfl⟩
theorem noA_g (s : ST) (a : AK) (u : Nat) : a_so (noA s a u) = a_so a ∧ a_lo (noA s a u) = a_lo a ∧ a_ps (noA s a u) = a_ps a ∧ a_nt (noA s a u) ≤ a_nt a + 1 ∧ a_dn (noA s a u) = a_dn a := by
  unfold noA
  by_cases h : a_lo a ≤ c_nm s u ∧ c_nm s u ≤ a_hi a
  · rw [if_pos h]
    unfold ntA
    by_cases h2 : a_nt a < 40
    · rw [if_pos h2]; exact ⟨rfl, rfl, rfl, Nat.le_refl _, rfl⟩
    · rw [if_neg h2]; exact ⟨rfl, rfl, rfl, Nat.le_refl _, rfl⟩
  · rw [if_neg h]
    exact ⟨rfl, rfl, rfl, Nat.le_succ _, rfl⟩
theorem ak_ak (s : ST) (f g : Nat → AK) : c_ak_ (c_ak_ s f) g = c_ak_ s g := rfl
theorem oA_oA (s : ST) (k : Nat) (x y : AK) : oA (oA s k x) k y = oA s k y := by
  unfold oA
  have e : c_ak (c_ak_ s (up1 (c_ak s) k x)) = up1 (c_ak s) k x := rfl
  rw [e, up1_up1, ak_ak]
theorem oA_k (s : ST) (k : Nat) (x : AK) : c_ak (oA s k x) k = x := up1_s _ _ _
theorem endA_o (s : ST) (k : Nat) (v : Int32) : endA s k v = oA s k (a_an_ (a_dn_ (c_ak s k) true) v) := rfl
theorem akG_en {a x : AK} (h : akG a x) (v : Int32) : akG a (a_an_ (a_dn_ x true) v) := h
theorem akG_no {s : ST} {a x : AK} {u : Nat} (h : akG a x) (e : a_nt x = a_nt a) : akG a (noA s (a_th_ x true) u) := by
  obtain ⟨n1, n2, n3, n4, n5⟩ := noA_g s (a_th_ x true) u
  refine ⟨n1.trans h.1, n2.trans h.2.1, n3.trans h.2.2.1, ?_⟩
  have n4 : a_nt (noA s (a_th_ x true) u) ≤ a_nt x + 1 := n4
  omega
theorem pr_ak (s : ST) (k : Nat) (x : AK) (P : Nat → PRS) (y : AK) : oA (c_pr_ (oA s k x) P) k y = c_ak_ (c_pr_ s P) (up1 (c_ak s) k y) := by
  unfold oA
  have e1 : c_ak (c_pr_ (c_ak_ s (up1 (c_ak s) k x)) P) = up1 (c_ak s) k x := rfl
  rw [e1, up1_up1]
  rfl
theorem ou_there {s : ST} {k u : Nat} {x : AK} (hc : CLs s) (hu : u < c_n s) (h : akG (c_ak s k) x) (e1 : a_nt x = a_nt (c_ak s k)) (e2 : a_dn x = a_dn (c_ak s k)) : outA s k u (isThere (oA s k x) k u) := by
  rw [isThere_eq]
  unfold ended
  rw [oA_k]
  by_cases h0 : a_so x = 0
  · rw [if_pos h0]
    refine ⟨_, akG_en h (nI u), Or.inl ?_⟩
    show endA (oA s k x) k (nI u) = _
    rw [endA_o, oA_k, oA_oA]
  · rw [if_neg h0]
    by_cases h3 : a_so x = 3
    · rw [if_pos h3]
      refine ⟨_, akG_en h 1, Or.inr (Or.inl ⟨h.1 ▸ h3, a_va x, ?_⟩)⟩
      show endA (c_pr_ (oA s k x) (up1 (c_pr (oA s k x)) u (ins (c_pr (oA s k x) u) (a_lo x) (a_va x)))) k 1 = _
      have e : c_pr (oA s k x) = c_pr s := rfl
      rw [endA_o, e, pr_ak, h.2.1]
      have f : c_ak (c_pr_ (oA s k x) (up1 (c_pr s) u (ins (c_pr s u) (a_lo (c_ak s k)) (a_va x)))) k = x := oA_k s k x
      rw [f]
      rfl
    · rw [if_neg h3]
      by_cases h4 : a_so x = 4
      · rw [if_pos h4]
        have e : c_pr (oA s k x) = c_pr s := rfl
        rw [e]
        cases fnd (c_pr s u) (a_lo x) with
        | none => exact ⟨_, akG_en h (-4), Or.inl (oA_oA s k x _)⟩
        | some v => exact ⟨_, akG_en (x := a_va_ x v) h 1, Or.inl (oA_oA s k x _)⟩
      · rw [if_neg h4]
        have e : lnk (oA s k x) u 0 1 = lnk s u 0 1 := rfl
        have g := akG_no (s := oA s k x) (u := u) h e1
        have g5 := (noA_g (oA s k x) (a_th_ x true) u).2.2.2.2
        unfold alongR
        rw [e]
        cases hl : lnk s u 0 1 with
        | none => exact ⟨_, akG_en g _, Or.inl (oA_oA s k x _)⟩
        | some r =>
          by_cases c : c_nm (oA s k x) r ≤ a_hi (a_th_ x true)
          · simp only [if_pos c]
            refine ⟨_, g, Or.inr (Or.inr ⟨g5.trans e2, r, cls_lnk hc hu hl, ?_⟩)⟩
            have q := oA_oA s k x (noA (oA s k x) (a_th_ x true) u)
            unfold oA at q ⊢
            rw [q]
          · simp only [if_neg c]
            exact ⟨_, akG_en g _, Or.inl (oA_oA s k x _)⟩
theorem ou_ask {s : ST} {k u : Nat} (hc : CLs s) (hu : u < c_n s) : outA s k u (comesAsk s k u) := by
  obtain ⟨g1, g2, g3⟩ := akG_ps (c_ak s k) u
  have th := ou_there hc hu g1 g3 g2
  rw [comesAsk_eq]
  have e : c_ak_ s (up1 (c_ak s) k (psA (c_ak s k) u)) = oA s k (psA (c_ak s k) u) := rfl
  rw [e]
  by_cases h : a_th (c_ak s k) = true ∧ awy s u = false
  · rw [if_pos h]; exact th
  · rw [if_neg h]
    cases ho : onw s u (a_lo (c_ak s k)) with
    | some p => exact ⟨_, g1, Or.inr (Or.inr ⟨g2, p, onw_lt hc hu ho, rfl⟩)⟩
    | none =>
      by_cases h2 : awy s u = true
      · simp only [if_pos h2]
        refine ⟨_, akG_en (x := a_lt_ (psA (c_ak s k) u) true) g1 (-4), Or.inl ?_⟩
        have f : c_ak_ (oA s k (psA (c_ak s k) u)) (up1 (up1 (c_ak s) k (psA (c_ak s k) u)) k (a_lt_ (psA (c_ak s k) u) true)) = oA (oA s k (psA (c_ak s k) u)) k (a_lt_ (psA (c_ak s k) u) true) := rfl
        rw [f, endA_o, oA_k, oA_oA, oA_oA]
      · simp only [if_neg h2]
        exact th
