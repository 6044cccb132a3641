/-! looks, its first half -/
theorem l1_eq (s : ST) : looks1 s = if c_ck s = 3 ∧ c_cu s = true ∧ chM s = 0 then seeks (drS s) (c_cp s) 0 else s := by
  unfold looks1 drS
  rfl
/-- what is to hold behind the first half of looks -/
theorem lk1 {t : Nat} {s : ST} (hb : I_b s) (hp : I_p s) (hq : I_q t s) (hc : I_c s) : I_b (looks1 s) ∧ I_p (looks1 s) ∧ I_q t (looks1 s) ∧ I_c (looks1 s) ∧ (c_cu (looks1 s) = true → chM (looks1 s) ≠ 0) := by
  rw [l1_eq]
  by_cases h : c_ck s = 3 ∧ c_cu s = true ∧ chM s = 0
  · rw [if_pos h]
    have h3 : ph3 s := by
      rcases hc with x | ⟨k, x⟩ | x | x
      · rw [x.2.1] at h; cases h.2.1
      · rw [x.2.1] at h; cases h.2.1
      · exact x
      · rw [x.2.1] at h; cases h.2.1
    obtain ⟨r1, r2, r3, r4⟩ := st_dr hb hp hq h3 h.2.2
    exact ⟨r1, r2, r3, Or.inr (Or.inl ⟨1, r4⟩), fun z => absurd (z.symm.trans r4.2.1) (by decide)⟩
  · rw [if_neg h]
    refine ⟨hb, hp, hq, hc, fun z y => h ⟨(ic_na hc).2.2.1 z, z, y⟩⟩
