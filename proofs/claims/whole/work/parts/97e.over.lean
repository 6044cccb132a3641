/-! looks -/
theorem l2_eq (s : ST) : looks2 s = if 0 < c_ck s ∧ chM s = 0 then enS (if c_ck s = 2 then goS s else s) else s := by
  unfold looks2 enS goS
  rfl
theorem lk2 {t : Nat} {s : ST} (hb : I_b s) (hp : I_p s) (hq : I_q t s) (hc : I_c s) (hx : c_cu s = true → chM s ≠ 0) : INV t (looks2 s) := by
  rw [l2_eq]
  by_cases h : 0 < c_ck s ∧ chM s = 0
  · rw [if_pos h]
    obtain ⟨z1, z2, z3⟩ := ch0 h.2
    rcases hc with x | ⟨k, x⟩ | x | x
    · exfalso
      rcases x.2.2.2.2 with ⟨-, w, e, -⟩ | ⟨a, b, e, -⟩
      · rw [e] at z2; cases z2
      · rw [e] at z2; cases z2
    · obtain ⟨a1, a2, a3, k1, k2, ⟨n1, n2, n3⟩, u, gr⟩ := x
      rw [if_neg (by omega)]
      have al : k = 9 ∨ ∀ d, d < 2 → NU (vw s) (c_cp s) (k - 1) d none := by
        rcases gr with ⟨-, y⟩ | ⟨l, z, d, -, -, e, -⟩ | ⟨a, b, -, e, -⟩
        · exact y
        · rw [e] at z2; cases z2
        · rw [e] at z2; cases z2
      refine st_en hb ⟨hp.1, hp.2.2⟩ hq a2 (fun p q => ?_) z3 (na_end hb.2.1 hb.2.2.1.1 n1 a3 k1 n3 z1 u al)
      by_cases e : p = c_cp s
      · rw [e]; exact Or.inr a3
      · exact n2 p q e
    · exact absurd h.2 (hx x.2.1)
    · obtain ⟨a1, a2, a3, ⟨n1, n2, n3⟩, -⟩ := x
      rw [if_pos a1]
      obtain ⟨t1, t2, t3, t4, t5, t6, t7, t8, t9, t10, t11, t12⟩ := goS_f s
      generalize goS s = s2 at *
      have hb2 : I_b s2 := by
        refine ⟨by rw [t11]; exact hb.1, by rw [t2]; exact hb.2.1, by rw [t9, t10]; exact hk_nop hb.2.2.1 _ _, ?_⟩
        unfold CLs
        rw [t11, t4, t10]
        refine ⟨fun i l d p hi e => ?_, fun i d p hi e => ?_⟩
        · have e : (if i = c_cp s ∧ 0 ≤ l ∧ l < 9 then none else c_kl s i l d) = some p := e
          by_cases c : i = c_cp s ∧ 0 ≤ l ∧ l < 9
          · rw [if_pos c] at e; cases e
          · rw [if_neg c] at e
            exact hb.2.2.2.1 i l d p hi e
        · have e : (if i = c_cp s then lnk s i 0 d else c_ol s i d) = some p := e
          by_cases c : i = c_cp s
          · rw [if_pos c, lnk_kl hb.2.2.1] at e
            exact hb.2.2.2.1 i 0 d p hi e
          · rw [if_neg c] at e
            exact hb.2.2.2.2 i d p hi e
      refine st_en hb2 (by rw [t11, t6, t5]; exact ⟨hp.1, hp.2.2⟩) (by unfold I_q at *; rw [t7, t8, t6, t11, t3]; exact hq) (t1.trans a2) (fun p q => ?_) (by rw [t3]; exact z3) ?_
      · rw [t11] at q
        rw [t12]
        by_cases e : p = c_cp s
        · rw [e, up1_s]; exact Or.inl rfl
        · rw [up1_n _ _ e]; exact n2 p q e
      · rw [t2, t10]
        exact na_gone (fun q e => up1_n _ _ e) (by rw [up1_s]; decide) (fun z l d hz => if_neg (fun y => hz y.1)) n3 z1
  · rw [if_neg h]
    exact ⟨⟨hb, hp, hq, Or.inr hc⟩, fun z => Nat.pos_of_ne_zero (fun y => h ⟨z, y⟩)⟩
theorem lk_inv {t : Nat} {s : ST} (hb : I_b s) (hp : I_p s) (hq : I_q t s) (hc : I_c s) : INV t (looks s) := by
  rw [looks_eq]
  obtain ⟨r1, r2, r3, r4, r5⟩ := lk1 hb hp hq hc
  exact lk2 r1 r2 r3 r4 r5
