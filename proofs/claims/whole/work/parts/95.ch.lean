/-! a message of the change is taken: the steps at the state -/
theorem nc_take {s : ST} {k i : Nat} {b : Bool} {g : MSG} (h : netC s k b) (hg : (c_ms s)[i]? = some g) (hx : isLk g = false) : netC (tkn s i g) k b := by
  obtain ⟨t1, t2, t3, t4, t5, t6, t7, t8, t9, t10, t11, t12, t13, t14, t15, t16⟩ := tkn_f s i g
  unfold netC at *
  rw [t3, t14, t15, t5, t13, t6]
  exact ⟨h.1, h.2.1, na_er h.2.2 hg hx⟩
theorem tk_tok {s : ST} {i : Nat} {g g' : MSG} (hg : (c_ms s)[i]? = some g) (ht : isTk g = true) (e : tkL s = [g']) : g = g' ∧ tkL (tkn s i g) = [] := by
  unfold tkL at *
  rw [(tkn_f s i g).2.2.2.2.2.1]
  exact ls_f2 hg ht e
theorem sndo_eq (s : ST) (so : Nat) (to lv : Option Nat) (sd : Nat) (lf rg : Option Nat) : sndo s so to lv sd lf rg = c_ms_ s (c_ms s ++ to.toList.map (fun p => (so, p, none, lv, sd, lf, rg))) := by
  cases to with
  | none =>
    show s = c_ms_ s (c_ms s ++ [])
    rw [List.append_nil]
    rfl
  | some p => rfl
theorem lnk_ms (s : ST) (L : List MSG) (u l d : Nat) : lnk (c_ms_ s L) u l d = lnk s u l d := rfl
theorem ms_ms (s : ST) (L L' : List MSG) : c_ms_ (c_ms_ s L) L' = c_ms_ s L' := rfl
theorem ms_get (s : ST) (L : List MSG) : c_ms (c_ms_ s L) = L := rfl
theorem seeks_eq (s : ST) (u l : Nat) : seeks s u l = c_ms_ s (c_ms s ++ skL l (lnk s u l 0) (lnk s u l 1)) := by
  unfold seeks skL
  by_cases h : l < 8
  · rw [if_pos h, if_pos h]
    cases lnk s u l 1 with
    | some p => rfl
    | none => exact sndo_eq _ _ _ _ _ _ _
  · rw [if_neg h, if_neg h, List.append_nil]
    rfl
theorem linked_eq (s : ST) (u l : Nat) : linked s u l = c_ms_ s (c_ms s ++ lkL l (lnk s u l 0) (lnk s u l 1) (some u) (some u) ++ skL l (lnk s u l 0) (lnk s u l 1)) := by
  have e : linked s u l = seeks (sndo (sndo s 7 (lnk s u l 0) (some l) 1 none (some u)) 7 (lnk s u l 1) (some l) 0 (some u) none) u l := rfl
  rw [e, seeks_eq, sndo_eq, sndo_eq]
  simp only [lnk_ms, ms_ms, ms_get, lkL, List.append_assoc]
theorem tk_snd {s : ST} {x : MSG} (hT : tkL s = []) (hx : isTk x = true) : tkL (snd1 s x) = [x] := by
  show (c_ms s ++ [x]).filter isTk = [x]
  have e : (c_ms s).filter isTk = [] := hT
  rw [List.filter_append, e, List.filter_cons_of_pos hx]
  rfl
theorem nc_snd {s : ST} {k : Nat} {b : Bool} {x : MSG} (h : netC s k b) (hx : isLk x = false) : netC (snd1 s x) k b :=
  ⟨h.1, h.2.1, na_ap h.2.2 (fun g hg => by rw [List.mem_singleton.mp hg]; exact hx)⟩
theorem iq_ap {t : Nat} {s : ST} {X : List MSG} (h : I_q t s) (hX : ∀ g, g ∈ X → g_to g < c_n s ∧ g_as g = none) : I_q t (c_ms_ s (c_ms s ++ X)) := ⟨h.1, mq_ap h.2 hX⟩
theorem iq_snd {t : Nat} {s : ST} {x : MSG} (h : I_q t s) (h1 : g_to x < c_n s) (h2 : g_as x = none) : I_q t (snd1 s x) := iq_ap h (fun g hg => by rw [List.mem_singleton.mp hg]; exact ⟨h1, h2⟩)
