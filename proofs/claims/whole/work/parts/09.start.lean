/-! THE CLAIM OUT OF ONE WALK OF THE LAW'S BODY. Your part is whole_start (and what it stands on); all else here is the same for every law, but numbers. -/
def R_law : String := "OrderedPeersLaw"
def lw_P (b : Addr) (xs : List Int32) (args : Array Value) (s : State) : Prop := args = #[.ref b] ∧ s.IntsAt b xs ∧ xs.length ≤ 2560 ∧ (Jvm.Cond.and given_1 narrow_1).before args s = true
def lw_Q (_ : Array Value) (s : State) (o : Outcome) (t : State) : Prop := o = .returned (some (.int 1)) ∧ Framed s o t [] 600000 7302249
def lw_Z (below : List Frame) (a : Array Value) (s : State) : State → Prop := fun t => ∃ o, t.status = .running ∧ Ended t below o ∧ lw_Q a s o t
/-- the law's own end, with 1 on the stack, nothing written that was there before, its room as the claim has it -/
theorem lw_ret {p : Program} {l : Launch} {e : Env} {s : State} {m : MethodId} {below : List Frame} {meth : Method} {c : Code} {b : Nat} (hx : p.tables.exec = Jvm.exec) (hb : c.code = code) (hr : meth.sig.returnType = ret) (hlocks : meth.locks = false) {pc : Nat} {H : Heap} {ls : Array Slot} (hdg : decode code pc = .ok (.ireturn, 1)) : W p l e room_1 s m #[Value.ref b] below meth c H [] 600000 7302249 (lw_Z below #[Value.ref b] s) (F0 m pc ls [.int 1]) := by
  intro T hT X
  obtain ⟨fs, hret, hrun, hended, hW, hframe⟩ := X.leave (v := some (.int 1)) (hlocks := hlocks) (fun h => by rw [hr] at h; cases h)
  have hmeth' : T.vm.method? m = some meth := X.method'
  refine ⟨T.setFrames fs, ?_, .returned (some (.int 1)), hrun, hended, rfl, ⟨_, rfl⟩, hW, hframe⟩
  jvm_step X.here [X.here.top, hx, hb, hdg, hmeth', hr, ret, narrow_b1]
  (try refine ⟨rfl, ?_⟩); (try refine ⟨rfl, ?_⟩)
  first | (intro acts; rw [hret _ acts rfl rfl rfl]) | rw [hret _ _ rfl rfl rfl]
  exact Steps.refl _
/-- what holds at the law's entry: the machine, the code, the tables' words (any of lw_tbl by 'hts w (by decide +kernel)'), the script of L ints xs at the cell b, what the Statement gives of the start (any of its parts by flat_of_before) -/
def lw_At (p : Program) (s : State) (m : MethodId) (meth : Method) (c : Code) (b L : Nat) (xs : Nat → Int32) : Prop :=
  p.tables.exec = Jvm.exec ∧ c.code = code ∧ meth.sig.returnType = ret ∧ c.maxLocals = 4 ∧ s.vm.findClass R_law = some m.cls ∧ (∀ w ∈ lw_tbl, w.before #[Value.ref b] s = true) ∧ va_X b L xs s s.heap ∧ b < s.heap.size ∧ meth.locks = false ∧ (Jvm.Cond.and given_1 narrow_1).before #[Value.ref b] s = true
theorem arr_spec {args : Array Value} {s : State} {ty : FieldType} (h : (Cond.arrayClass ty).before args s = true) : ∃ (cA : ClassId) (kA : Class) (comp : ClassId), s.vm.findClass ("[" ++ ty.toString) = some cA ∧ s.vm.classes[cA]? = some kA ∧ kA.kind = .array comp ty := Cond.arrayClass_spec h

/-! the claim out of one run of the small machine -/
def m0 (xs : Nat → Int32) (L : Nat) : MM := (fun r n k => if r = 0 ∧ n = 0 then xs k else 0, fun _ _ _ => 0, fun _ _ _ => none, fun r => if r = 0 then 1 else 0, fun r n => if r = 0 ∧ n = 0 then L else 0, 0, 0)
theorem ref_arr {args : Array Value} {s : State} {C : String} (h : (Cond.arrayOver (.object C)).before args s = true) : ∃ cA, ArrOfT s cA (.object C) ∧ va_RA s cA (.object C) := by
  obtain ⟨comp, c, k, h1, h2, h3, h4, h5⟩ := Cond.arrayOver_spec h
  exact ⟨c, fun n z => ⟨fun k h => (by cases h), k, h3, comp, h4⟩, k, comp, h3, h4, h1, h5⟩
theorem KK_start {args : Array Value} {s : State} {b L : Nat} {xs : Nat → Int32} (hts0 : ∀ w ∈ lw_tbl, w.before args s = true) (hX : va_X b L xs s s.heap) : ∃ (D : va_G) (cA : Nat → ClassId), KK (D, cA, s.heap.size, b, L, xs, fun q => s.heap[q]?) s := by
  have hts : ∀ w ∈ gw, w.before args s = true := fun w hw => hts0 w (List.mem_filter.mp hw).1
  have htt : ∀ w ∈ tables_1, w.before args s = true := fun w hw => hts0 w (List.mem_append_right _ hw)
  have hcl : ∀ c, ∃ q : ClassId × (Nat → Nat), c < 8 → u_Kn s (cn c) (TT c) (NN c) q.1 q.2 := by
    intro c
    by_cases hc : c < 8
    · obtain ⟨cC, iS, h⟩ := u_known (T := TT c) (N := NN c) hts (u_ws_gw hc) (hts _ (gw_N ((by decide +kernel : ∀ c, c < 8 → c ∈ vN) c hc)))
      exact ⟨(cC, iS), fun _ => h⟩
    · exact ⟨(0, fun _ => 0), fun h => absurd h hc⟩
  have hpr : ∀ e, e < 4 → ∃ cA, ArrOfT s cA (ft e) ∧ va_RA s cA (ft e) := by
    intro e he
    have hw := hts _ (gw_A ((by decide +kernel : ∀ e, e < 4 → e ∈ vA) e he))
    match e, he with
    | 0, _ => obtain ⟨cA, kA, comp, h1, h2, h3⟩ := arr_spec hw; exact ⟨cA, fun n z => ⟨fun k h => (by cases h), kA, h2, comp, h3⟩, h1⟩
    | 1, _ => obtain ⟨cA, kA, comp, h1, h2, h3⟩ := arr_spec hw; exact ⟨cA, fun n z => ⟨fun k h => (by cases h), kA, h2, comp, h3⟩, h1⟩
    | 2, _ => obtain ⟨cA, kA, comp, h1, h2, h3⟩ := arr_spec hw; exact ⟨cA, fun n z => ⟨fun k h => (by cases h), kA, h2, comp, h3⟩, h1⟩
    | 3, _ => obtain ⟨cA, kA, comp, h1, h2, h3⟩ := arr_spec hw; exact ⟨cA, fun n z => ⟨fun k h => (by cases h), kA, h2, comp, h3⟩, h1⟩
  have hel : ∀ e, ∃ cA, e ∈ [0, 1, 2, 3, 5, 8, 10] → ArrOfT s cA (ft e) ∧ va_RA s cA (ft e) := by
    intro e
    by_cases he : e ∈ [0, 1, 2, 3, 5, 8, 10]
    · by_cases h4 : e < 4
      · obtain ⟨cA, h⟩ := hpr e h4
        exact ⟨cA, fun _ => h⟩
      · obtain ⟨u, rfl⟩ : ∃ u, e = u + 4 := ⟨e - 4, by omega⟩
        have huo : u ∈ vO := (by decide +kernel : ∀ e ∈ [0, 1, 2, 3, 5, 8, 10], 4 ≤ e → (e - 4) ∈ vO) (u + 4) he (by omega)
        obtain ⟨cA, h⟩ := ref_arr (htt _ (vO_in u huo))
        exact ⟨cA, fun _ => h⟩
    · exact ⟨0, fun h => absurd h he⟩
  refine ⟨(fun c => (Classical.choose (hcl c)).1, fun c => (Classical.choose (hcl c)).2), fun e => Classical.choose (hel e), fun c hc => Classical.choose_spec (hcl c) hc, fun e he => Classical.choose_spec (hel e) he, fun q hq => va_Nw.of rfl (htt _ (vX_in q hq)), fun t ht => va_AO.of (htt _ (vO_in t ht)), ?_⟩
  obtain ⟨scr, h1, h2, h3, h4, h5⟩ := hX
  exact ⟨scr, h1, h2, h3, h4, h5⟩
abbrev iLaw : Nat := 169
theorem start_of {p : Program} {e : Env} {s : State} {m : MethodId} {below : List Frame} {meth : Method} {c : Code} (l : Launch) {b L : Nat} {xs : Nat → Int32} (C0 : lw_At p s m meth c b L xs) {m' : MM}
    (hrun : go iLaw 0 [some (.inr (.inr (0, some 0))), none, none, none] [] (m0 xs L) = some (some (.inl 1), m')) (h1 : mT m' ≤ 600000) (h2 : mS m' ≤ 7302249) : W p l e room_1 s m #[Value.ref b] below meth c s.heap [] 0 0 (lw_Z below #[Value.ref b] s) (entryFrame m ([Value.ref b] : List Value).toArray 4) := by
  obtain ⟨hx, hb, hret, hml, hown, hts, hX, hbl, hlk, hgv⟩ := C0
  obtain ⟨D, cA, hKK⟩ := KK_start hts hX
  obtain ⟨f, hf⟩ := gc_inv hrun
  have hl := lv_entry ([.ref b]) (n := 4) (Nat.le_of_ble_eq_true rfl)
  rw [lg_entry_eq]
  generalize (lg_sl ([.ref b]) ++ List.replicate (4 - (lg_sl ([.ref b])).length) Slot.unset).toArray = lsA at hl ⊢
  have hX : CX (D, cA, s.heap.size, b, L, xs, fun q => s.heap[q]?) p room_1 s m #[Value.ref b] meth c iLaw := ⟨hx, hb, hml, hret, hlk, fun h => absurd h (by decide), hown, fun w hw => hts w (List.mem_filter.mp hw).1, hKK, by decide, by decide⟩
  have hm0 : ∀ r, mC (m0 xs L) r = if r = 0 then 1 else 0 := fun r => rfl
  refine snd_all f (D, cA, s.heap.size, b, L, xs, fun q => s.heap[q]?) p l e room_1 s m #[Value.ref b] below meth c s.heap [] 0 0 _ iLaw 0 _ [] (m0 xs L) lsA (fun _ _ => b) _ m' hf hX ⟨⟨fun r n hr hn => ?_, fun r n r' n' hn hn' _ => ?_, fun r n hr hn => ?_, ⟨Nat.le_refl _, fun q _ => rfl⟩, ⟨hbl, rfl, rfl, rfl, fun j _ => rfl⟩, fun r n k hr hn => ?_⟩, hl, fun j v hj => ?_, trivial, fun q hq => by cases hq⟩ ?_ ?_ ?_
  · rw [hm0, if_neg (by omega)] at hn; omega
  · rw [hm0] at hn hn'
    by_cases e1 : r = 0 <;> by_cases e2 : r' = 0 <;> simp [e1, e2] at hn hn' ⊢
    omega
  · rw [hm0, if_neg (by omega)] at hn; omega
  · rw [hm0, if_neg (by omega)] at hn; omega
  · match j with
    | 0 => cases hj; show 0 < mC (m0 xs L) 0; rw [hm0]; decide
    | 1 => cases hj
    | 2 => cases hj
    | 3 => cases hj
    | j + 4 => cases hj
  · show 0 + mT m' ≤ 600000 + 0; omega
  · show 0 + mS m' ≤ 7302249 + 0; omega
  · intro ρ' H' lsA' locs' cells' slots' pc' i hR' hlo' hag hlv hc1 hc2 hd hro
    have hc1 : cells' + 0 = 0 + mT m' := hc1
    have hc2 : slots' + 0 = 0 + mS m' := hc2
    rcases hro with ⟨rfl, x, hxx, -⟩ | ⟨rfl, x, hxx, -⟩ | ⟨rfl, t, n, hxx, -⟩ | ⟨rfl, hxx, -⟩
    · refine W.widen (k := 600000) (n := 7302249) (by omega) (by omega) (va_forget (fun q hq => hlo' q hq) ?_)
      exact lw_ret hx hb hret hlk hd
    · cases hxx
    · cases hxx
    · cases hxx
