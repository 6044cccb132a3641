/-! linked -/
/-! a place of u, and who is beside it there is told -/
theorem hk_nop {hs : Nat → Nat → Bool} {kl : Nat → Nat → Nat → Option Nat} (h : hKl hs kl) (u f : Nat) : hKl (fun j l => if j = u ∧ f ≤ l ∧ l < 9 then false else hs j l) (fun j l d => if j = u ∧ f ≤ l ∧ l < 9 then none else kl j l d) := by
  refine ⟨fun p l d x => ?_, fun p l d x => ?_⟩
  · show (if p = u ∧ f ≤ l ∧ l < 9 then none else kl p l d) = none
    have x : (if p = u ∧ f ≤ l ∧ l < 9 then false else hs p l) = false := x
    by_cases c : p = u ∧ f ≤ l ∧ l < 9
    · rw [if_pos c]
    · rw [if_neg c] at x ⊢
      exact h.1 p l d x
  · show (if p = u ∧ f ≤ l ∧ l < 9 then none else kl p l d) = none
    rw [if_neg (fun z => by omega)]
    exact h.2 p l d x
theorem hk_plc {hs : Nat → Nat → Bool} {kl : Nat → Nat → Nat → Option Nat} (h : hKl hs kl) (u : Nat) {l : Nat} (hl : l < 9) (a b : Option Nat) : hKl (up2 hs u l true) (up3 (up3 kl u l 0 a) u l 1 b) := by
  refine ⟨fun p l' d x => ?_, fun p l' d x => ?_⟩
  · by_cases c : p = u ∧ l' = l
    · rw [c.1, c.2, up2_s] at x; cases x
    · rw [up2_n _ _ c] at x
      rw [up3_n _ _ (fun z => c ⟨z.1, z.2.1⟩), up3_n _ _ (fun z => c ⟨z.1, z.2.1⟩)]
      exact h.1 p l' d x
  · rw [up3_n _ _ (fun z => by omega), up3_n _ _ (fun z => by omega)]
    exact h.2 p l' d x
theorem pl_0 (kl : Nat → Nat → Nat → Option Nat) (u l : Nat) (a b : Option Nat) : up3 (up3 kl u l 0 a) u l 1 b u l 0 = a := by
  rw [up3_n _ _ (fun z => by omega), up3_s]
theorem st_linked {s : ST} {k : Nat} (a1 : c_ck s = 1 ∨ c_ck s = 3) (a2 : c_cu s = false) (a3 : c_be s (c_cp s) = 2) (hk : k < 9) (c1 : c_cp s < c_n s) (c2 : ∀ p, p < c_n s → p ≠ c_cp s → c_be s p = 0 ∨ c_be s p = 2) (hK : hKl (c_hs s) (c_kl s)) (hA : netA (vw s) (c_kl s) (c_ms s ++ lkL k (c_kl s (c_cp s) k 0) (c_kl s (c_cp s) k 1) (some (c_cp s)) (some (c_cp s))) (k + 1) (c_cp s) true) (hU : netU (vw s) (c_hs s) (c_kl s) (k + 1) (c_cp s)) (hT : tkL s = []) : ph2 (linked s (c_cp s) k) (k + 1) := by
  rw [linked_eq, lnk_kl hK, lnk_kl hK]
  have u0 := hU.1 k (by omega) 0 (by decide)
  have u1 := hU.1 k (by omega) 1 (by decide)
  refine ⟨a1, a2, a3, by omega, by omega, ⟨c1, c2, na_ap hA (fun g hg => (skL_m hg).2.1)⟩, hU, ?_⟩
  have e : tkL (c_ms_ s (c_ms s ++ lkL k (c_kl s (c_cp s) k 0) (c_kl s (c_cp s) k 1) (some (c_cp s)) (some (c_cp s)) ++ skL k (c_kl s (c_cp s) k 0) (c_kl s (c_cp s) k 1))) = skL k (c_kl s (c_cp s) k 0) (c_kl s (c_cp s) k 1) := by
    show (c_ms s ++ lkL k (c_kl s (c_cp s) k 0) (c_kl s (c_cp s) k 1) (some (c_cp s)) (some (c_cp s)) ++ skL k (c_kl s (c_cp s) k 0) (c_kl s (c_cp s) k 1)).filter isTk = _
    have e1 : (c_ms s).filter isTk = [] := hT
    have e2 : (lkL k (c_kl s (c_cp s) k 0) (c_kl s (c_cp s) k 1) (some (c_cp s)) (some (c_cp s))).filter isTk = [] := List.filter_eq_nil_iff.mpr (fun g hg => by
      rcases mem_lkL.mp hg with ⟨p, -, p2⟩ | ⟨p, -, p2⟩
      · rw [p2]; intro z; cases z
      · rw [p2]; intro z; cases z)
    rw [List.filter_append, List.filter_append, e1, e2]
    exact List.filter_eq_self.mpr (fun g hg => (skL_m hg).1)
  rw [e]
  exact grow_sk hk u0 u1
theorem lk_to {v : VV} {u k : Nat} {a b : Option Nat} (ha : NU v u k 0 a) (hb : NU v u k 1 b) : ∀ g, g ∈ lkL k a b (some u) (some u) ++ skL k a b → g_to g < v.1 ∧ g_as g = none := by
  intro g hg
  rcases List.mem_append.mp hg with x | x
  · rcases mem_lkL.mp x with ⟨p, p1, p2⟩ | ⟨p, p1, p2⟩
    · rw [p2]; exact ⟨nu_lt ha p1, rfl⟩
    · rw [p2]; exact ⟨nu_lt hb p1, rfl⟩
  · obtain ⟨-, -, x3, x4⟩ := skL_m x
    rcases x4 with y | y
    · exact ⟨nu_lt ha y, x3⟩
    · exact ⟨nu_lt hb y, x3⟩
theorem iq_linked {t : Nat} {s : ST} {k : Nat} (hq : I_q t s) (hK : hKl (c_hs s) (c_kl s)) (hk : k < 9) (hU : netU (vw s) (c_hs s) (c_kl s) (k + 1) (c_cp s)) : I_q t (linked s (c_cp s) k) := by
  rw [linked_eq, lnk_kl hK, lnk_kl hK, List.append_assoc]
  exact iq_ap hq (lk_to (hU.1 k (by omega) 0 (by decide)) (hU.1 k (by omega) 1 (by decide)))
