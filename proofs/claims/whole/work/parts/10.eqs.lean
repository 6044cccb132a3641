/-! equations of runs, an instruction each -/
def bd (o : Option RS) (k : Option AV → MM → Option RS) : Option RS := match o with
  | some q => k q.1 q.2
  | none => none
theorem bd_some (v : Option AV) (m : MM) (k : Option AV → MM → Option RS) : bd (some (v, m)) k = k v m := rfl
def nl (o : Option AV) : Bool := match o with
  | some (.inr (.inl _)) => false
  | _ => true
theorem nl_n : nl none = true := rfl
theorem nl_i (x : Int32) : nl (some (.inl x)) = true := rfl
theorem nl_r (q : Nat × Option Nat) : nl (some (.inr (.inr q))) = true := rfl
section EQ
variable {y pc : Nat} {ls : LV} {st : List AV} {m : MM}
theorem e_1 {i : Instr} {n y2 pc2 : Nat} {ls2 : LV} {st2 : List AV} {m2 : MM} (hd : decode (mt y).2.1 pc = .ok (i, n)) (hn : n = il i ∨ il i = 0) (hx : xi i y pc ls st m = some (.inl (y2, pc2, ls2, st2, m2))) : go y pc ls st m = go y2 pc2 ls2 st2 m2 := by
  rw [go_eq hd hn, hx]; rfl
theorem e_ret {i : Instr} {n : Nat} {r : RS} (hd : decode (mt y).2.1 pc = .ok (i, n)) (hn : n = il i ∨ il i = 0) (hx : xi i y pc ls st m = some (.inr (.inl r))) : go y pc ls st m = some r := by
  rw [go_eq hd hn, hx]; rfl
theorem e_call {i : Instr} {n y1 pc1 y2 pc2 : Nat} {ls1 ls2 : LV} {st1 st2 : List AV} {m1 : MM} (hd : decode (mt y).2.1 pc = .ok (i, n)) (hn : n = il i ∨ il i = 0) (hx : xi i y pc ls st m = some (.inr (.inr ((y1, pc1, ls1, st1, m1), (y2, pc2, ls2, st2))))) :
    go y pc ls st m = bd (go y1 pc1 ls1 st1 m1) (fun v m2 => go y2 pc2 ls2 (v.toList ++ st2) m2) := by
  rw [go_eq hd hn, hx]
  show (gc (y1, pc1, ls1, st1, m1)).bind (fun r => gc (bk (y2, pc2, ls2, st2) r)) = bd (gc (y1, pc1, ls1, st1, m1)) _
  cases gc (y1, pc1, ls1, st1, m1) <;> rfl
theorem e_if {i : Instr} {n t : Nat} {q : Prop} {dq : Decidable q} {b : Bool} {st2 : List AV} (hd : decode (mt y).2.1 pc = .ok (i, n)) (hn : n = il i ∨ il i = 0) (hx : xi i y pc ls st m = some (.inl (y, if b = true then t else pc + 3, ls, st2, m))) (hb : b = true ↔ q) :
    go y pc ls st m = @ite _ q dq (go y t ls st2 m) (go y (pc + 3) ls st2 m) := by
  rw [go_eq hd hn, hx]
  show gc (y, if b = true then t else pc + 3, ls, st2, m) = _
  by_cases h : q
  · rw [if_pos h, if_pos (hb.mpr h)]; rfl
  · rw [if_neg h, if_neg (fun z => h (hb.mp z))]; rfl
end EQ
theorem jm_some {pc t : Nat} {off : Int} (h : (pc : Int) + off = (t : Int)) : jm pc off = some t := by
  unfold jm
  rw [h, if_pos (by omega)]; rfl
theorem ix_some {i : Int32} {n j : Nat} (h1 : i.toInt = (j : Int)) (h2 : j < n) : ix i n = some j := by
  have hj : i.toNatClampNeg = j := by
    show i.toInt.toNat = j
    rw [h1]; rfl
  unfold ix
  rw [if_pos, hj]
  rw [hj]
  rintro (h | h)
  · rw [Int32.lt_iff_toInt_lt, h1, Int32.toInt_zero] at h; omega
  · omega
theorem mI_sI (m : MM) (r n k : Nat) (v : Int32) (a b c : Nat) : mI (sI m r n k v) a b c = if a = r ∧ b = n ∧ c = k then v else mI m a b c := rfl
theorem mL_sI (m : MM) (r n k : Nat) (v : Int32) (a b c : Nat) : mL (sI m r n k v) a b c = mL m a b c := rfl
theorem mR_sI (m : MM) (r n k : Nat) (v : Int32) (a b c : Nat) : mR (sI m r n k v) a b c = mR m a b c := rfl
theorem mC_sI (m : MM) (r n k : Nat) (v : Int32) (a : Nat) : mC (sI m r n k v) a = mC m a := rfl
theorem mN_sI (m : MM) (r n k : Nat) (v : Int32) (a b : Nat) : mN (sI m r n k v) a b = mN m a b := rfl
theorem mI_sL (m : MM) (r n k : Nat) (v : Int64) (a b c : Nat) : mI (sL m r n k v) a b c = mI m a b c := rfl
theorem mL_sL (m : MM) (r n k : Nat) (v : Int64) (a b c : Nat) : mL (sL m r n k v) a b c = if a = r ∧ b = n ∧ c = k then v else mL m a b c := rfl
theorem mR_sL (m : MM) (r n k : Nat) (v : Int64) (a b c : Nat) : mR (sL m r n k v) a b c = mR m a b c := rfl
theorem mC_sL (m : MM) (r n k : Nat) (v : Int64) (a : Nat) : mC (sL m r n k v) a = mC m a := rfl
theorem mN_sL (m : MM) (r n k : Nat) (v : Int64) (a b : Nat) : mN (sL m r n k v) a b = mN m a b := rfl
theorem mI_sR (m : MM) (r n k : Nat) (v : Option Nat) (a b c : Nat) : mI (sR m r n k v) a b c = mI m a b c := rfl
theorem mL_sR (m : MM) (r n k : Nat) (v : Option Nat) (a b c : Nat) : mL (sR m r n k v) a b c = mL m a b c := rfl
theorem mR_sR (m : MM) (r n k : Nat) (v : Option Nat) (a b c : Nat) : mR (sR m r n k v) a b c = if a = r ∧ b = n ∧ c = k then v else mR m a b c := rfl
theorem mC_sR (m : MM) (r n k : Nat) (v : Option Nat) (a : Nat) : mC (sR m r n k v) a = mC m a := rfl
theorem mN_sR (m : MM) (r n k : Nat) (v : Option Nat) (a b : Nat) : mN (sR m r n k v) a b = mN m a b := rfl
theorem cat_le (v : AV) : cat v ≤ 2 := by
  rcases v with x | x | x <;> simp [cat]
theorem cats_le2 : ∀ st : List AV, cats st ≤ 2 * st.length
  | [] => Nat.le_refl _
  | v :: r => by
    have h1 := cat_le v
    have h2 := cats_le2 r
    simp only [cats, List.length_cons]
    omega
theorem cats_le {st : List AV} (h : st.length ≤ 4) : cats st ≤ 8 := by
  have := cats_le2 st
  omega
section EC
variable {y pc : Nat} {ls : LV} {m : MM}
theorem e_void (hd : decode (mt y).2.1 pc = .ok (.return_, 1)) (hr : (mt y).2.2.2.2.1 = none) : go y pc ls [] m = some (none, m) :=
  e_ret hd (Or.inl rfl) (by simp only [xi]; rw [if_pos ⟨trivial, hr⟩])
theorem e_int {x : Int32} (hd : decode (mt y).2.1 pc = .ok (.ireturn, 1)) (hr : (mt y).2.2.2.2.1 = some .int) : go y pc ls [.inl x] m = some (some (.inl x), m) :=
  e_ret hd (Or.inl rfl) (by simp only [xi, pI]; rw [if_pos ⟨trivial, Or.inl hr⟩])
theorem e_bool {x : Int32} (hd : decode (mt y).2.1 pc = .ok (.ireturn, 1)) (hr : (mt y).2.2.2.2.1 = some .boolean) (hx : x = 0 ∨ x = 1) : go y pc ls [.inl x] m = some (some (.inl x), m) :=
  e_ret hd (Or.inl rfl) (by simp only [xi, pI]; rw [if_pos ⟨trivial, Or.inr ⟨hr, hx⟩⟩])
theorem e_long {x : Int64} (hd : decode (mt y).2.1 pc = .ok (.lreturn, 1)) (hr : (mt y).2.2.2.2.1 = some .long) : go y pc ls [.inr (.inl x)] m = some (some (.inr (.inl x)), m) :=
  e_ret hd (Or.inl rfl) (by simp only [xi, pL]; rw [if_pos ⟨trivial, hr⟩])
theorem e_ref {x : Nat × Option Nat} {C : String} (hd : decode (mt y).2.1 pc = .ok (.areturn, 1)) (hr : (mt y).2.2.2.2.1 = some (.object C)) : go y pc ls [.inr (.inr x)] m = some (some (.inr (.inr x)), m) :=
  e_ret hd (Or.inl rfl) (by simp only [xi, pR]; rw [if_pos ⟨trivial, by rw [hr]⟩])
theorem take_rev {as rest : List AV} {na : Nat} (h : as.length = na) : (as.reverse ++ rest).take na = as.reverse ∧ (as.reverse ++ rest).drop na = rest ∧ na ≤ (as.reverse ++ rest).length := by
  have h2 : as.reverse.length = na := by rw [List.length_reverse]; exact h
  refine ⟨?_, ?_, ?_⟩
  · rw [← h2, List.take_left]
  · rw [← h2, List.drop_left]
  · rw [List.length_append, h2]; omega
theorem e_virt {k na y1 t n : Nat} {as rest : List AV} (hd : decode (mt y).2.1 pc = .ok (.invokevirtual k, 3)) (hk : lk clL (mt y).2.2.1 k = some (y1, na)) (hl : as.length = na) (h1 : t = (mt y1).2.2.1 + 1 ∧ t ≤ 8 ∧ 1 ≤ t ∧ kd y1 = 0) (he : (ent (.inr (.inr (t, some n)) :: as)).length ≤ (mt y1).2.2.2.1) (hc : cats rest ≤ 8)
    (hr : (mt y1).2.2.2.2.2.1 + 1 ≤ (mt y).2.2.2.2.2.1 ∧ 8 + ((mt y1).2.2.2.1 + 11) + (mt y1).2.2.2.2.2.2 ≤ (mt y).2.2.2.2.2.2) :
    go y pc ls (as.reverse ++ .inr (.inr (t, some n)) :: rest) m = bd (go y1 0 (enl (mt y1).2.2.2.1 (.inr (.inr (t, some n)) :: as)) [] m) (fun v m2 => go y (pc + 3) ls (v.toList ++ rest) m2) := by
  obtain ⟨g1, g2, g3⟩ := take_rev (rest := .inr (.inr (t, some n)) :: rest) hl
  refine e_call hd (Or.inl rfl) ?_
  simp only [xi, hk, Option.bind_some, g1, g2, if_pos g3, pA, List.reverse_reverse]
  rw [if_pos ⟨h1.1, h1.2.1, h1.2.2.1, h1.2.2.2, he, hc, hr.1, hr.2⟩]
theorem e_stat {k na y1 : Nat} {as rest : List AV} (hd : decode (mt y).2.1 pc = .ok (.invokestatic k, 3)) (hk : lk clL (mt y).2.2.1 k = some (y1, na)) (hl : as.length = na) (h1 : kd y1 = 1 ∧ ¬ (y1 = iMax ∨ y1 = iMin)) (he : (ent as).length ≤ (mt y1).2.2.2.1) (hc : cats rest ≤ 8)
    (hr : (mt y1).2.2.2.2.2.1 + 1 ≤ (mt y).2.2.2.2.2.1 ∧ 8 + ((mt y1).2.2.2.1 + 11) + (mt y1).2.2.2.2.2.2 ≤ (mt y).2.2.2.2.2.2) :
    go y pc ls (as.reverse ++ rest) m = bd (go y1 0 (enl (mt y1).2.2.2.1 as) [] m) (fun v m2 => go y (pc + 3) ls (v.toList ++ rest) m2) := by
  obtain ⟨g1, g2, g3⟩ := take_rev (rest := rest) hl
  refine e_call hd (Or.inl rfl) ?_
  simp only [xi, hk, Option.bind_some, if_neg h1.2, g1, g2, if_pos g3, List.reverse_reverse]
  rw [if_pos ⟨h1.1, he, hc, hr.1, hr.2⟩]
theorem e_spec {k na y1 t n : Nat} {as rest : List AV} (hd : decode (mt y).2.1 pc = .ok (.invokespecial k, 3)) (hk : lk clL (mt y).2.2.1 k = some (y1, na) ∧ y1 ≠ 9999 ∨ lk clL (mt y).2.2.1 k = none ∧ lk csL (mt y).2.2.1 k = some (y1, na)) (hl : as.length = na) (h1 : kd y1 = 2) (he : (ent (.inr (.inr (t, some n)) :: as)).length ≤ (mt y1).2.2.2.1) (hc : cats rest ≤ 8)
    (hr : (mt y1).2.2.2.2.2.1 + 1 ≤ (mt y).2.2.2.2.2.1 ∧ 8 + ((mt y1).2.2.2.1 + 11) + (mt y1).2.2.2.2.2.2 ≤ (mt y).2.2.2.2.2.2) :
    go y pc ls (as.reverse ++ .inr (.inr (t, some n)) :: rest) m = bd (go y1 0 (enl (mt y1).2.2.2.1 (.inr (.inr (t, some n)) :: as)) [] m) (fun v m2 => go y (pc + 3) ls (v.toList ++ rest) m2) := by
  obtain ⟨g1, g2, g3⟩ := take_rev (rest := .inr (.inr (t, some n)) :: rest) hl
  refine e_call hd (Or.inl rfl) ?_
  rcases hk with ⟨hk, hk2⟩ | ⟨hk, hk2⟩
  · simp only [xi, hk, if_neg hk2, g1, g2, if_pos g3, pA, List.reverse_reverse]
    rw [if_pos ⟨h1, he, hc, hr.1, hr.2⟩]
  · simp only [xi, hk, hk2, Option.bind_some, g1, g2, if_pos g3, pA, List.reverse_reverse]
    rw [if_pos ⟨h1, he, hc, hr.1, hr.2⟩]
theorem e_obj {k u n : Nat} {rest : List AV} (hd : decode (mt y).2.1 pc = .ok (.invokespecial k, 3)) (hk : lk clL (mt y).2.2.1 k = some (9999, 0)) (hc : cats rest ≤ 8) (hr : 1 ≤ (mt y).2.2.2.2.2.1 ∧ 20 ≤ (mt y).2.2.2.2.2.2) : go y pc ls (.inr (.inr (u, some n)) :: rest) m = go y (pc + 3) ls rest m := by
  refine e_1 hd (Or.inl rfl) ?_
  simp only [xi, hk, if_true, pA]
  rw [if_pos ⟨hc, hr.1, hr.2⟩]
theorem e_math {k y1 : Nat} {a b : Int32} {rest : List AV} (hd : decode (mt y).2.1 pc = .ok (.invokestatic k, 3)) (hk : lk clL (mt y).2.2.1 k = some (y1, 2)) (h1 : y1 = iMax ∨ y1 = iMin) (hc : cats rest ≤ 8) (hr : 1 ≤ (mt y).2.2.2.2.2.1 ∧ 21 ≤ (mt y).2.2.2.2.2.2) : go y pc ls (.inl b :: .inl a :: rest) m = go y (pc + 3) ls (.inl (if y1 = iMax then (if a < b then b else a) else (if b < a then b else a)) :: rest) m := by
  refine e_1 hd (Or.inl rfl) ?_
  simp only [xi, hk, Option.bind_some, if_pos h1, pI]
  rw [if_pos ⟨hc, hr.1, hr.2⟩]
theorem e_put {k r f n : Nat} {v : AV} {st : List AV} (hd : decode (mt y).2.1 pc = .ok (.putfield k, 3)) (hk : lk fdL (mt y).2.2.1 k = some (r, f)) (hf : fc (tk r f) v = true) (hfin : (TT (r - 1) f).2.2.2 = false ∨ ((mt y).1.name = "<init>" ∧ (mt y).2.2.1 = r - 1)) : go y pc ls (v :: .inr (.inr (r, some n)) :: st) m = go y (pc + 3) ls st (wr m r n f v) := by
  refine e_1 hd (Or.inl rfl) ?_
  simp only [xi, pop, pA, hk, Option.bind_some]
  rw [if_pos ⟨trivial, hf, hfin⟩]
end EC
def ixk (o : Option Nat) (k : Nat → Option RS) : Option RS := match o with
  | some j => k j
  | none => none
theorem ixk_some (j : Nat) (k : Nat → Option RS) : ixk (some j) k = k j := rfl
theorem e_ald {y pc y2 pc2 : Nat} {ls ls2 : LV} {st : List AV} {m : MM} {i : Instr} {o : Option Nat} {st2 : Nat → List AV} {m2 : Nat → MM} (hd : decode (mt y).2.1 pc = .ok (i, 1)) (h1 : ∀ j, o = some j → xi i y pc ls st m = some (.inl (y2, pc2, ls2, st2 j, m2 j))) (h2 : o = none → xi i y pc ls st m = none) (hn : 1 = il i ∨ il i = 0 := by exact Or.inl rfl) :
    go y pc ls st m = ixk o (fun j => go y2 pc2 ls2 (st2 j) (m2 j)) := by
  cases o with
  | some j => exact e_1 hd hn (h1 j rfl)
  | none => rw [go_eq hd hn, h2 rfl]; rfl
