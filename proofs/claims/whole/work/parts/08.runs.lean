/-! contracts -/
def rmq (y : Nat) (m m' : MM) : Room := { frames := (mt y).2.2.2.2.2.1, cells := mT m' - mT m, slots := mS m' - mS m, locals := (mt y).2.2.2.2.2.2 }
def Pq (P : PP) (ρ : AM) (m : MM) (as : List AV) : Array Value → State → Prop := fun v U => v = (as.map (cv ρ)).toArray ∧ KK P U ∧ Rl P ρ m U.heap
def Qq (P : PP) (ρ : AM) (m : MM) (r : Option AV) (m' : MM) : Array Value → State → Outcome → State → Prop := fun _ _ oc t =>
  ∃ ρ' : AM, (∀ r n, n < mC m r → ρ' r n = ρ r n) ∧ oc = .returned (r.map (cv ρ')) ∧ Rl P ρ' m' t.heap ∧ ∀ v, r = some v → lvq m' v
theorem ent_len (ρ : AM) : ∀ as : List AV, (lg_sl (as.map (cv ρ))).length = (ent as).length
  | [] => rfl
  | .inl x :: r => by simpa [lg_sl, ent, cv, Value.category] using ent_len ρ r
  | .inr (.inl x) :: r => by simpa [lg_sl, ent, cv, Value.category] using ent_len ρ r
  | .inr (.inr (t, none)) :: r => by simpa [lg_sl, ent, cv, Value.category] using ent_len ρ r
  | .inr (.inr (t, some n)) :: r => by simpa [lg_sl, ent, cv, Value.category] using ent_len ρ r
theorem pv_none (ρ : AM) : ∀ (j k : Nat), pv ρ k (List.replicate j none) = []
  | 0, _ => rfl
  | j + 1, k => by rw [List.replicate_succ, pv]; exact pv_none ρ j (k + 1)
theorem ent_pv (ρ : AM) (j : Nat) : ∀ (as : List AV) (k : Nat), pv ρ k (ent as ++ List.replicate j none) = lv_args k (as.map (cv ρ))
  | [], k => pv_none ρ j k
  | .inl x :: r, k => by
    show (k, cv ρ (.inl x)) :: pv ρ (k + 1) (ent r ++ List.replicate j none) = (k, cv ρ (.inl x)) :: lv_args (k + 1) (r.map (cv ρ))
    rw [ent_pv ρ j r (k + 1)]
  | .inr (.inl x) :: r, k => by
    show (k, cv ρ (.inr (.inl x))) :: pv ρ (k + 1 + 1) (ent r ++ List.replicate j none) = (k, cv ρ (.inr (.inl x))) :: lv_args (k + 2) (r.map (cv ρ))
    rw [ent_pv ρ j r (k + 1 + 1)]
  | .inr (.inr (t, none)) :: r, k => by
    show (k, Value.null) :: pv ρ (k + 1) (ent r ++ List.replicate j none) = (k, Value.null) :: lv_args (k + 1) (r.map (cv ρ))
    rw [ent_pv ρ j r (k + 1)]
  | .inr (.inr (t, some n)) :: r, k => by
    show (k, Value.ref (ρ t n)) :: pv ρ (k + 1) (ent r ++ List.replicate j none) = (k, Value.ref (ρ t n)) :: lv_args (k + 1) (r.map (cv ρ))
    rw [ent_pv ρ j r (k + 1)]
theorem ent_live {m : MM} : ∀ {as : List AV}, la m as → ∀ (n j : Nat) (v : AV), lg (ent as ++ List.replicate n none) j = some v → lvq m v
  | [], _, 0, j, v, h => by cases h
  | [], _, n + 1, 0, v, h => by cases h
  | [], hl, n + 1, j + 1, v, h => ent_live hl n j v h
  | .inl x :: r, hl, n, 0, v, h => by cases h; trivial
  | .inl x :: r, hl, n, j + 1, v, h => ent_live hl.2 n j v h
  | .inr (.inl x) :: r, hl, n, 0, v, h => by cases h; trivial
  | .inr (.inl x) :: r, hl, n, 1, v, h => by cases h
  | .inr (.inl x) :: r, hl, n, j + 2, v, h => ent_live hl.2 n j v h
  | .inr (.inr (t, o)) :: r, hl, n, 0, v, h => by cases h; exact hl.1
  | .inr (.inr (t, o)) :: r, hl, n, j + 1, v, h => ent_live hl.2 n j v h
theorem mt_ok : ∀ y, y < 167 → plainName (mt y).1.cls = true ∧ (mt y).1.cls = cn (mt y).2.2.1 ∧ y ∈ vK ∧ (mt y).2.2.1 ∈ vZ ∧ ((mt y).1.cls ≠ "java/lang/invoke/MethodHandle" ∧ (mt y).1.cls ≠ "java/lang/invoke/VarHandle") := by decide +kernel
theorem mt_np : ∀ y, y < 167 → (parseMethodDescriptor (mt y).1.desc).map (fun d => d.parameters.length) = some (np y) := by decide +kernel
theorem mt_kd0 : ∀ y, y < 167 → kd y = 0 → y ∈ vI ∧ (y ∈ vS ∨ y ∈ vP) := by decide +kernel
theorem mt_kd1 : ∀ y, y < 167 → kd y = 1 → y ∈ vT := by decide +kernel
theorem mt_kd2 : ∀ y, y < 167 → kd y = 2 → y ∈ vI ∧ (mt y).1.name = "<init>" := by decide +kernel
theorem mt_kd3 : ∀ y, y < 167 → kd y = 2 → (mt y).2.2.2.2.1 = none := by decide +kernel
theorem vM_ok : ∀ q ∈ vM, q.2.1 ≠ 9999 → ¬ (q.2.1 = iMax ∨ q.2.1 = iMin) → q.2.1 < 167 ∧ q.2.2 = np q.2.1 := by decide +kernel
theorem kd_math : kd iMax = 1 ∧ kd iMin = 1 := by decide +kernel
theorem kd_ne {y k : Nat} (h : kd y = k) (hk : k ≠ 1) : ¬ (y = iMax ∨ y = iMin) := by
  rintro (rfl | rfl)
  · exact hk (h.symm.trans kd_math.1)
  · exact hk (h.symm.trans kd_math.2)
theorem vX_ok : ∀ q ∈ vX, q.2.1 < 167 ∧ q.2.2 = np q.2.1 := by decide +kernel
set_option maxHeartbeats 1000000 in
theorem met_of {f : Nat} (hf : SND f) {P : PP} (l : Launch) {y : Nat} {ρ : AM} {m : MM} {as : List AV} {r : Option AV} {m' : MM} (hy : y < 167) (hex : ex f (y, 0, enl (mt y).2.2.2.1 as, [], m) = some (r, m')) (has : la m as) (hlen : (ent as).length ≤ (mt y).2.2.2.1) :
    Met l (mt y).1 (wK y :: gw) (rmq y m m') (Pq P ρ m as) (Qq P ρ m r m') (mT m' - mT m) (mS m' - mS m) (fun a => qB P ≤ a) := by
  have hm := ex_mle f _ _ hex
  obtain ⟨k1, k2, k3, k4, k5⟩ := mt_ok y hy
  refine Met.ofW (cc := (mt y).2.1) (maxL := (mt y).2.2.2.1) (ret := (mt y).2.2.2.2.1) k1 rfl ?_
  intro p e s mm args below meth c s₁ B hml hv
  obtain ⟨rfl, hK, hR⟩ := hv
  have hts := atoms_spec (ws := wK y :: gw) B.pre
  have hown : s.vm.findClass (mt y).1.cls = some mm.cls := findClass_of_methodNamed B.named
  have hl := lv_entry (as.map (cv ρ)) (n := (mt y).2.2.2.1) (by rw [ent_len]; exact hlen)
  rw [lg_entry_eq]
  generalize (lg_sl (as.map (cv ρ)) ++ List.replicate ((mt y).2.2.2.1 - (lg_sl (as.map (cv ρ))).length) Slot.unset).toArray = lsA at hl ⊢
  have hX : CX P p (headSpec (wK y :: gw) (rmq y m m')).room s mm (as.map (cv ρ)).toArray meth c y := ⟨B.exec, B.bytes, hml, B.returns, B.notSynchronized, fun hq => (name_of_methodNamed B.named B.method).1.trans hq, by rw [← k2]; exact hown, fun w hw => hts w (List.mem_cons_of_mem _ hw), hK, Nat.le_refl _, Nat.le_refl _⟩
  have hrc : (headSpec (wK y :: gw) (rmq y m m')).room.cells = mT m' - mT m := rfl
  have hrs : (headSpec (wK y :: gw) (rmq y m m')).room.slots = mS m' - mS m := rfl
  have hm1 : mT m ≤ mT m' := hm.1
  have hm2 : mS m ≤ mS m' := hm.2.1
  refine hf P p l e _ s mm _ below meth c s.heap [] 0 0 _ y 0 (enl (mt y).2.2.2.1 as) [] m lsA ρ r m' hex hX ⟨hR, ?_, ent_live has _, trivial, fun q hq => by cases hq⟩ (by rw [hrc]; omega) (by rw [hrs]; omega) ?_
  · unfold enl
    rw [ent_pv]
    exact hl
  · intro ρ' H' lsA' locs' cells' slots' pc' i hR' hlo' hag hlv hc1 hc2 hd hro
    have hc1' : cells' = mT m' - mT m := by omega
    have hc2' : slots' = mS m' - mS m := by omega
    subst hc1'
    subst hc2'
    rcases hro with ⟨rfl, x, rfl, hret⟩ | ⟨rfl, x, rfl, hret⟩ | ⟨rfl, t, n, rfl, C, hret⟩ | ⟨rfl, rfl, hret⟩
    · rcases hret with hret | ⟨hret, hx⟩
      · exact W.iret hX.1 hX.2.1 (hX.2.2.2.1.trans hret) (fun t ht hW => ⟨ρ', hag, rfl, by rw [ht]; exact hR', hlv⟩) hlo' hd hX.2.2.2.2.1
      · exact W.zret hX.1 hX.2.1 (hX.2.2.2.1.trans hret) (by rcases hx with rfl | rfl <;> rfl) (fun t ht hW => ⟨ρ', hag, rfl, by rw [ht]; exact hR', hlv⟩) hlo' hd hX.2.2.2.2.1
    · exact W.lret hX.1 hX.2.1 (hX.2.2.2.1.trans hret) (fun t ht hW => ⟨ρ', hag, rfl, by rw [ht]; exact hR', hlv⟩) hlo' hd hX.2.2.2.2.1
    · exact W.aret hX.1 hX.2.1 (hX.2.2.2.1.trans hret) (Or.inl ⟨C, rfl⟩) (v := cv ρ' (.inr (.inr (t, n)))) (by cases n; exact Or.inl rfl; exact Or.inr ⟨_, rfl⟩) (fun t ht hW => ⟨ρ', hag, rfl, by rw [ht]; exact hR', hlv⟩) hlo' hd hX.2.2.2.2.1
    · exact W.vret hX.1 hX.2.1 (hX.2.2.2.1.trans hret) (fun t ht hW => ⟨ρ', hag, rfl, by rw [ht]; exact hR', hlv⟩) hlo' hd hX.2.2.2.2.1
theorem W_run {p : Program} {l : Launch} {e : Env} {R : Room} {s : State} {mm : MethodId} {args : Array Value} {below : List Frame} {meth : Method} {c : Code} {H : Heap} {locs : List Loc} {cells slots mc ms : Nat} {Q : State → Prop} {g : JFrame} {rest : List Value} {Qa : State → Outcome → State → Prop} {free : Addr → Prop}
    (hr : va_Run p l e R s mm args below meth c H locs cells slots mc ms g rest Qa free)
    (kk : ∀ (v : Option Value) (st₀ t : State) (L : List Loc), (∀ q ∈ L, free q.base) → Qa st₀ (.returned v) t → W p l e R s mm args below meth c t.heap (locs ++ L) (cells + mc) (slots + ms) Q { g with pc := g.pc + 3, stack := v.toList ++ rest }) : W p l e R s mm args below meth c H locs cells slots Q g := by
  intro T hT X
  obtain ⟨v, st₀, t, T', L, -, X', hL, e1, -, hq, st⟩ := hr T hT X
  obtain ⟨t2, a1, b1⟩ := kk v st₀ t L hL hq T' e1 X'
  exact ⟨t2, st t2 a1, b1⟩
theorem la_app {m : MM} : ∀ {a b : List AV}, la m (a ++ b) ↔ la m a ∧ la m b
  | [], b => by simp [la]
  | v :: r, b => by simp only [List.cons_append, la, la_app (a := r)]; exact and_assoc.symm
theorem la_rev {m : MM} : ∀ {a : List AV}, la m a → la m a.reverse
  | [], _ => trivial
  | v :: r, h => by rw [List.reverse_cons]; exact la_app.mpr ⟨la_rev h.2, h.1, trivial⟩
section CALL
variable {P : PP} {p : Program} {l : Launch} {e : Env} {R : Room} {s : State} {mm : MethodId} {args : Array Value} {below : List Frame} {meth : Method} {c : Code} {H : Heap} {locs : List Loc} {cells slots : Nat} {Q : State → Prop}
variable {y pc : Nat} {ls : LV} {st : List AV} {m : MM} {lsA : Array Slot} {ρ : AM}
/-- behind a call -/
theorem call_back {as rest : List AV} {r1 : RS} {g : JFrame} (hg : g = F0 mm pc lsA (st.map (cv ρ))) (hS : SS P ρ m H ls lsA (mt y).2.2.2.1 st locs) (hrest : la m rest) (hm : mle m r1.2)
    (hr : va_Run p l e R s mm args below meth c H locs cells slots (mT r1.2 - mT m) (mS r1.2 - mS m) g (rest.map (cv ρ)) (Qq P ρ m r1.1 r1.2 (as.map (cv ρ)).toArray) (fun a => qB P ≤ a))
    (K : KT P p l e R s mm args below meth c Q ρ m cells slots (y, pc + 3, ls, r1.1.toList ++ rest, r1.2)) : W p l e R s mm args below meth c H locs cells slots Q g := by
  subst hg
  obtain ⟨hR, hL, hls, hst, hlo⟩ := hS
  refine W_run hr fun v st₀ t L hL1 hq => ?_
  obtain ⟨ρ', hag, ho, hR', hlv⟩ := hq
  have hv : v = r1.1.map (cv ρ') := Outcome.returned.inj ho
  subst hv
  have h1 : mT m ≤ mT r1.2 := hm.1
  have h2 : mS m ≤ mS r1.2 := hm.2.1
  have K1 := K ρ' t.heap lsA (locs ++ L) (cells + (mT r1.2 - mT m)) (slots + (mS r1.2 - mS m)) ⟨hR', by rw [pv_ag hag hls]; exact hL, fun j w hj => lvq_le hm.2.2 (hls j w hj), ?_, ?_⟩ hag (by simp only; omega) (by simp only; omega)
  · simp only [List.map_append] at K1
    rw [map_ag hag hrest] at K1
    have e1 : (r1.1.toList).map (cv ρ') = (r1.1.map (cv ρ')).toList := by cases r1.1 <;> rfl
    rw [e1] at K1
    exact K1
  · refine la_app.mpr ⟨?_, la_le hm.2.2 hrest⟩
    cases hq : r1.1 with
    | none => trivial
    | some v => exact ⟨hlv v hq, trivial⟩
  · intro q hq
    rcases List.mem_append.mp hq with hq | hq
    · exact hlo q hq
    · exact hL1 q hq
theorem cats_sum (ρ : AM) : ∀ st : List AV, ((st.map (cv ρ)).map fun v => v.category).sum = cats st
  | [] => rfl
  | v :: r => by simp only [List.map_cons, List.sum_cons, cats_sum ρ r, cats, cv_cat]
theorem Pq_pre {as : List AV} (X : CX P p R s mm args meth c y) (hR : Rl P ρ m H) : FrameBlind (Pq P ρ m as) ∧ ∀ U : State, U.heap = H → s.WarmedH U.vm → Pq P ρ m as (as.map (cv ρ)).toArray U :=
  ⟨fun _ _ _ _ h => h, fun U hU hW => ⟨rfl, X.2.2.2.2.2.2.2.2.1.moved hW, by rw [hU]; exact hR⟩⟩
set_option maxHeartbeats 1000000 in
theorem zc_static {f k : Nat} {q : CF × (Nat × Nat × LV × List AV)} {r1 : RS} (X : CX P p R s mm args meth c y) (hd : decode (mt y).2.1 pc = .ok (.invokestatic k, 3)) (hx : xi (.invokestatic k) y pc ls st m = some (.inr (.inr q))) (hS : SS P ρ m H ls lsA (mt y).2.2.2.1 st locs)
    (hf : SND f) (hex : ex f q.1 = some r1) (hc1 : cells + mT r1.2 ≤ R.cells + mT m) (hc2 : slots + mS r1.2 ≤ R.slots + mS m) (K : KT P p l e R s mm args below meth c Q ρ m cells slots (bk q.2 r1)) : W p l e R s mm args below meth c H locs cells slots Q (F0 mm pc lsA (st.map (cv ρ))) := by
  obtain ⟨q0, hq0, hx⟩ := Option.bind_eq_some_iff.mp hx
  by_cases h9 : q0.1 = iMax ∨ q0.1 = iMin
  · rw [if_pos h9] at hx
    obtain ⟨b, r0, e0, hx⟩ := pI_inv hx
    obtain ⟨a, r1, e1, hx⟩ := pI_inv hx
    obtain ⟨-, hx⟩ := if_inv hx
    cases hx
  rw [if_neg h9] at hx
  obtain ⟨hlen, hx⟩ := if_inv hx
  obtain ⟨⟨hkd, hent, hcat, hfr, hlo2⟩, hx⟩ := if_inv hx
  obtain rfl := Sum.inr.inj (Sum.inr.inj (Option.some.inj hx))
  have hS0 := hS
  obtain ⟨hR, hL, hls, hst, hlo⟩ := hS
  have hne : q0.1 ≠ 9999 := fun z => by rw [z] at hkd; cases hkd
  obtain ⟨hy, hnp⟩ := vM_ok _ (lk_mem hq0) hne h9
  simp only at hy hnp
  obtain ⟨k1, k2, k3, k4, k5⟩ := mt_ok q0.1 hy
  have hsp : st.take q0.2 ++ st.drop q0.2 = st := List.take_append_drop _ _
  rw [← hsp] at hst
  obtain ⟨hst1, hst2⟩ := la_app.mp hst
  have hts := X.2.2.2.2.2.2.2.1
  have hm := ex_mle f _ _ hex
  have hM := met_of hf l (ρ := ρ) (P := P) hy hex (la_rev hst1) hent
  have hl := hts _ (gw_M (lk_mem hq0))
  unfold wM yt at hl
  simp only [hne, if_false] at hl
  have hini : (Cond.initialized (mt q0.1).1.cls).before args s = true := by rw [k2]; exact hts _ (gw_Z k4)
  have hG : GoodIn gw (wK q0.1 :: gw) := fun w hw => by
    rcases List.mem_cons.mp hw with rfl | hw
    · exact gw_good _ (gw_K k3)
    · exact gw_good _ hw
  have hm1 : mT m ≤ mT r1.2 := hm.1
  have hm2 : mS m ≤ mS r1.2 := hm.2.1
  have h10 := X.2.2.2.2.2.2.2.2.2.1
  have h11 := X.2.2.2.2.2.2.2.2.2.2
  refine call_back (y := y) (as := (st.take q0.2).reverse) rfl hS0 hst2 hm (va_runS (rm := rmq q0.1 m r1.2) (bytes := (mt q0.1).2.1) (maxL := (mt q0.1).2.2.2.1) (ret := (mt q0.1).2.2.2.2.1) (nL := (mt y).2.2.2.1) (Ts := gw) ⟨X.1, X.2.1, X.2.2.1, X.2.2.2.2.2.2.1, hts⟩ hM
    ⟨callB_of (np q0.1) hts hG rfl rfl rfl hini hl ⟨k5.1, k5.2, mt_np q0.1 hy⟩ ⟨Nat.le_trans hfr h10, Nat.le_trans hlo2 h11⟩, hts _ (gw_T (mt_kd1 q0.1 hy hkd))⟩ (Pq_pre X hR) rfl ?_ hL.1 ?_ ?_ hd ⟨by omega, by omega⟩) K
  · rw [List.length_map, List.length_reverse, List.length_take, ← hnp]; omega
  · show st.map (cv ρ) = _
    rw [List.map_reverse, List.reverse_reverse, ← List.map_append, hsp]
  · exact lv_room (by rw [cats_sum]; exact hcat)
set_option maxHeartbeats 1000000 in
theorem zc_virtual {f k : Nat} {q : CF × (Nat × Nat × LV × List AV)} {r1 : RS} (X : CX P p R s mm args meth c y) (hd : decode (mt y).2.1 pc = .ok (.invokevirtual k, 3)) (hx : xi (.invokevirtual k) y pc ls st m = some (.inr (.inr q))) (hS : SS P ρ m H ls lsA (mt y).2.2.2.1 st locs)
    (hf : SND f) (hex : ex f q.1 = some r1) (hc1 : cells + mT r1.2 ≤ R.cells + mT m) (hc2 : slots + mS r1.2 ≤ R.slots + mS m) (K : KT P p l e R s mm args below meth c Q ρ m cells slots (bk q.2 r1)) : W p l e R s mm args below meth c H locs cells slots Q (F0 mm pc lsA (st.map (cv ρ))) := by
  obtain ⟨q0, hq0, hx⟩ := Option.bind_eq_some_iff.mp hx
  obtain ⟨hlen, hx⟩ := if_inv hx
  obtain ⟨t, n, rest, hdrop, hx⟩ := pA_inv hx
  obtain ⟨⟨ht, ht8, ht1, hkd, hent, hcat, hfr, hlo2⟩, hx⟩ := if_inv hx
  obtain rfl := Sum.inr.inj (Sum.inr.inj (Option.some.inj hx))
  have hS0 := hS
  obtain ⟨hR, hL, hls, hst, hlo⟩ := hS
  have hne : q0.1 ≠ 9999 := fun z => by rw [z] at hkd; cases hkd
  obtain ⟨hy, hnp⟩ := vM_ok _ (lk_mem hq0) hne (kd_ne hkd (by decide))
  simp only at hy hnp
  obtain ⟨k1, k2, k3, k4, k5⟩ := mt_ok q0.1 hy
  have hsp : st.take q0.2 ++ st.drop q0.2 = st := List.take_append_drop _ _
  rw [hdrop] at hsp
  rw [← hsp] at hst
  obtain ⟨hst1, hst2⟩ := la_app.mp hst
  have hts := X.2.2.2.2.2.2.2.1
  have hm := ex_mle f _ _ hex
  have hM := met_of hf l (ρ := ρ) (P := P) hy hex ⟨hst2.1, la_rev hst1⟩ hent
  have hl := hts _ (gw_M (lk_mem hq0))
  unfold wM yt at hl
  simp only [hne, if_false] at hl
  have hini : (Cond.initialized (mt q0.1).1.cls).before args s = true := by rw [k2]; exact hts _ (gw_Z k4)
  have hG : GoodIn gw (wK q0.1 :: gw) := fun w hw => by
    rcases List.mem_cons.mp hw with rfl | hw
    · exact gw_good _ (gw_K k3)
    · exact gw_good _ hw
  have hm1 : mT m ≤ mT r1.2 := hm.1
  have hm2 : mS m ≤ mS r1.2 := hm.2.1
  have h10 := X.2.2.2.2.2.2.2.2.2.1
  have h11 := X.2.2.2.2.2.2.2.2.2.2
  obtain ⟨kI, kS⟩ := mt_kd0 q0.1 hy hkd
  have hsel : (Cond.selects (mt q0.1).1.cls (mt q0.1).1 (mt q0.1).1).before args s = true := hts _ (kS.elim gw_S gw_P)
  obtain ⟨cellB, b1, b2, b3, -⟩ := ob_get hR ht1 ht8 hst2.1
  have hKn := (X.2.2.2.2.2.2.2.2.1.1 (t - 1) (by omega)).2.1
  have hcls : (mt q0.1).1.cls = cn (t - 1) := by rw [k2]; congr 1; omega
  refine call_back (y := y) (as := .inr (.inr (t, some n)) :: (st.take q0.2).reverse) rfl hS0 hst2.2 hm (va_runV (C := (mt q0.1).1.cls) (b := ρ t n) (rm := rmq q0.1 m r1.2) (bytes := (mt q0.1).2.1) (maxL := (mt q0.1).2.2.2.1) (ret := (mt q0.1).2.2.2.2.1) (nL := (mt y).2.2.2.1) (Ts := gw) (As := ((st.take q0.2).reverse).map (cv ρ)) ⟨X.1, X.2.1, X.2.2.1, X.2.2.2.2.2.2.1, hts⟩ hM
    ⟨callB_of (np q0.1) hts hG rfl rfl rfl hini hl ⟨k5.1, k5.2, mt_np q0.1 hy⟩ ⟨Nat.le_trans hfr h10, Nat.le_trans hlo2 h11⟩, hts _ (gw_I kI), hsel⟩ ⟨(Pq_pre (as := .inr (.inr (t, some n)) :: (st.take q0.2).reverse) X hR).1, ⟨cellB, b1, by rw [b3]; rfl, by rw [b2, hcls]; exact hKn⟩, (Pq_pre (as := .inr (.inr (t, some n)) :: (st.take q0.2).reverse) X hR).2⟩ rfl ?_ hL.1 ?_ ?_ hd ⟨by omega, by omega⟩) K
  · rw [List.length_map, List.length_reverse, List.length_take, ← hnp]; omega
  · show st.map (cv ρ) = _
    rw [List.map_reverse, List.reverse_reverse]
    show _ = (st.take q0.2).map (cv ρ) ++ ([.inr (.inr (t, some n))].map (cv ρ) ++ rest.map (cv ρ))
    rw [← List.map_append, ← List.map_append]
    exact congrArg _ hsp.symm
  · exact lv_room (by rw [cats_sum]; exact hcat)
set_option maxHeartbeats 1000000 in
theorem sp_inv {k : Nat} {q : CF × (Nat × Nat × LV × List AV)} (X : CX P p R s mm args meth c y) (hx : xi (.invokespecial k) y pc ls st m = some (.inr (.inr q))) : ∃ (q0 : Nat × Nat) (t n : Nat) (rest : List AV), ((Cond.methodLink (cn (mt y).2.2.1) k (mt q0.1).1).before args s = true ∨ va_Nw (.methodLinkNest (cn (mt y).2.2.1) k (mt q0.1).1 "OrderedPeers") s) ∧ q0.1 < 167 ∧ q0.2 = np q0.1 ∧ q0.2 ≤ st.length ∧ st.drop q0.2 = .inr (.inr (t, some n)) :: rest ∧
      (kd q0.1 = 2 ∧ (ent (.inr (.inr (t, some n)) :: (st.take q0.2).reverse)).length ≤ (mt q0.1).2.2.2.1 ∧ cats rest ≤ 8 ∧ (mt q0.1).2.2.2.2.2.1 + 1 ≤ (mt y).2.2.2.2.2.1 ∧ 8 + ((mt q0.1).2.2.2.1 + 11) + (mt q0.1).2.2.2.2.2.2 ≤ (mt y).2.2.2.2.2.2) ∧
      ((q0.1, 0, enl (mt q0.1).2.2.2.1 (.inr (.inr (t, some n)) :: (st.take q0.2).reverse), [], m), (y, pc + 3, ls, rest)) = q := by
  have hts := X.2.2.2.2.2.2.2.1
  simp only [xi] at hx
  cases hq : lk clL (mt y).2.2.1 k with
  | none =>
    rw [hq] at hx
    simp only at hx
    obtain ⟨q0, hq0, hx⟩ := Option.bind_eq_some_iff.mp hx
    obtain ⟨hlen, hx⟩ := if_inv hx
    obtain ⟨t, n, rest, hdrop, hx⟩ := pA_inv hx
    obtain ⟨hcs, hx⟩ := if_inv hx
    obtain ⟨hy, hnp⟩ := vX_ok _ (lk_mem hq0)
    have h0 : va_Nw (wX (((mt y).2.2.1, k), q0)) s := X.2.2.2.2.2.2.2.2.1.2.2.1 (((mt y).2.2.1, k), q0) (lk_mem hq0)
    exact ⟨q0, t, n, rest, Or.inr h0, hy, hnp, hlen, hdrop, hcs, Sum.inr.inj (Sum.inr.inj (Option.some.inj hx))⟩
  | some q0 =>
    rw [hq] at hx
    simp only at hx
    by_cases h9 : q0.1 = 9999
    · rw [if_pos h9] at hx
      obtain ⟨t, n, rest, hdrop, hx⟩ := pA_inv hx
      obtain ⟨hcs, hx⟩ := if_inv hx
      cases hx
    · rw [if_neg h9] at hx
      obtain ⟨hlen, hx⟩ := if_inv hx
      obtain ⟨t, n, rest, hdrop, hx⟩ := pA_inv hx
      obtain ⟨hcs, hx⟩ := if_inv hx
      obtain ⟨hy, hnp⟩ := vM_ok _ (lk_mem hq) h9 (kd_ne hcs.1 (by decide))
      have hl := hts _ (gw_M (lk_mem hq))
      unfold wM yt at hl
      simp only [h9, if_false] at hl
      exact ⟨q0, t, n, rest, Or.inl hl, hy, hnp, hlen, hdrop, hcs, Sum.inr.inj (Sum.inr.inj (Option.some.inj hx))⟩
set_option maxHeartbeats 1000000 in
theorem zc_special {f k : Nat} {q : CF × (Nat × Nat × LV × List AV)} {r1 : RS} (X : CX P p R s mm args meth c y) (hd : decode (mt y).2.1 pc = .ok (.invokespecial k, 3)) (hx : xi (.invokespecial k) y pc ls st m = some (.inr (.inr q))) (hS : SS P ρ m H ls lsA (mt y).2.2.2.1 st locs)
    (hf : SND f) (hex : ex f q.1 = some r1) (hc1 : cells + mT r1.2 ≤ R.cells + mT m) (hc2 : slots + mS r1.2 ≤ R.slots + mS m) (K : KT P p l e R s mm args below meth c Q ρ m cells slots (bk q.2 r1)) : W p l e R s mm args below meth c H locs cells slots Q (F0 mm pc lsA (st.map (cv ρ))) := by
  have hts := X.2.2.2.2.2.2.2.1
  obtain ⟨q0, t, n, rest, hlink, hy, hnp, hlen, hdrop, ⟨hkd, hent, hcat, hfr, hlo2⟩, hqe⟩ := sp_inv X hx
  clear hx
  subst hqe
  have hS0 := hS
  obtain ⟨hR, hL, hls, hst, hlo⟩ := hS
  obtain ⟨k1, k2, k3, k4, k5⟩ := mt_ok q0.1 hy
  have hsp : st.take q0.2 ++ st.drop q0.2 = st := List.take_append_drop _ _
  rw [hdrop] at hsp
  rw [← hsp] at hst
  obtain ⟨hst1, hst2⟩ := la_app.mp hst
  have hm := ex_mle f _ _ hex
  have hM := met_of hf l (ρ := ρ) (P := P) hy hex ⟨hst2.1, la_rev hst1⟩ hent
  have hini : (Cond.initialized (mt q0.1).1.cls).before args s = true := by rw [k2]; exact hts _ (gw_Z k4)
  have hG : GoodIn gw (wK q0.1 :: gw) := fun w hw => by
    rcases List.mem_cons.mp hw with rfl | hw
    · exact gw_good _ (gw_K k3)
    · exact gw_good _ hw
  have hm1 : mT m ≤ mT r1.2 := hm.1
  have hm2 : mS m ≤ mS r1.2 := hm.2.1
  have h10 := X.2.2.2.2.2.2.2.2.2.1
  have h11 := X.2.2.2.2.2.2.2.2.2.2
  obtain ⟨kI, kN⟩ := mt_kd2 q0.1 hy hkd
  have kV := mt_kd3 q0.1 hy hkd
  have hw : wK q0.1 :: gw = Cond.code (mt q0.1).1 (mt q0.1).2.1 (mt q0.1).2.2.2.1 none :: gw := by unfold wK; rw [kV]
  have hlen2 : (((st.take q0.2).reverse).map (cv ρ)).length = np q0.1 := by rw [List.length_map, List.length_reverse, List.length_take, ← hnp]; omega
  have hstk : st.map (cv ρ) = (((st.take q0.2).reverse).map (cv ρ)).reverse ++ .ref (ρ t n) :: rest.map (cv ρ) := by
    rw [List.map_reverse, List.reverse_reverse]
    show _ = (st.take q0.2).map (cv ρ) ++ ([.inr (.inr (t, some n))].map (cv ρ) ++ rest.map (cv ρ))
    rw [← List.map_append, ← List.map_append]
    exact congrArg _ hsp.symm
  have hrm : 2 * (F0 mm pc lsA (st.map (cv ρ))).monitorRoom + ((rest.map (cv ρ)).map fun v => v.category).sum ≤ 8 := lv_room (by rw [cats_sum]; exact hcat)
  rcases hlink with hl | hl
  · refine call_back (y := y) (as := .inr (.inr (t, some n)) :: (st.take q0.2).reverse) rfl hS0 hst2.2 hm (va_runI (b := ρ t n) (rm := rmq q0.1 m r1.2) (bytes := (mt q0.1).2.1) (maxL := (mt q0.1).2.2.2.1) (nL := (mt y).2.2.2.1) (Ts := gw) (As := ((st.take q0.2).reverse).map (cv ρ)) ⟨X.1, X.2.1, X.2.2.1, X.2.2.2.2.2.2.1, hts⟩ hM
      ⟨callB_of (np q0.1) hts hG hw rfl rfl hini hl ⟨k5.1, k5.2, mt_np q0.1 hy⟩ ⟨Nat.le_trans hfr h10, Nat.le_trans hlo2 h11⟩, kN, hts _ (gw_I kI)⟩ (Pq_pre (as := .inr (.inr (t, some n)) :: (st.take q0.2).reverse) X hR) rfl hlen2 hL.1 hstk hrm hd ⟨by omega, by omega⟩) K
  · refine call_back (y := y) (as := .inr (.inr (t, some n)) :: (st.take q0.2).reverse) rfl hS0 hst2.2 hm (va_runIN (b := ρ t n) (rm := rmq q0.1 m r1.2) (bytes := (mt q0.1).2.1) (maxL := (mt q0.1).2.2.2.1) (nL := (mt y).2.2.2.1) (Ts := gw) (As := ((st.take q0.2).reverse).map (cv ρ)) ⟨X.1, X.2.1, X.2.2.1, X.2.2.2.2.2.2.1, hts⟩ hM
      ⟨va_cnB (np q0.1) hts hG hw rfl rfl hl hini ⟨k5.1, k5.2, mt_np q0.1 hy⟩ ⟨Nat.le_trans hfr h10, Nat.le_trans hlo2 h11⟩, kN, hts _ (gw_I kI)⟩ (Pq_pre (as := .inr (.inr (t, some n)) :: (st.take q0.2).reverse) X hR) rfl hlen2 hL.1 hstk hrm hd ⟨by omega, by omega⟩) K
end CALL
theorem snd_all : ∀ f, SND f
  | 0 => fun P p l e R s mm args below meth c H locs cells slots Q y pc ls st m lsA ρ r m' h => by cases h
  | f + 1 => by
    intro P p l e R s mm args below meth c H locs cells slots Q y pc ls st m lsA ρ r m' h X hS hc1 hc2 K
    have ih := snd_all f
    unfold ex at h
    cases hp : ps (y, pc, ls, st, m) with
    | none => rw [hp] at h; cases h
    | some o =>
      rw [hp] at h
      obtain ⟨i, n, hd, hn, hx⟩ := ps_inv hp
      simp only at hd hx
      have hg := xi_gd i hx
      rcases o with c' | r' | q
      · obtain ⟨y', pc', ls', st', m1⟩ := c'
        have hy : y' = y := hg.1
        subst hy
        have h : ex f (y', pc', ls', st', m1) = some (r, m') := h
        have hm := ex_mle f _ _ h
        have hg2 : mle m m1 := hg.2
        have e1 : mT m ≤ mT m1 := hg2.1
        have e2 : mS m ≤ mS m1 := hg2.2.1
        have e3 : mT m1 ≤ mT m' := hm.1
        have e4 : mS m1 ≤ mS m' := hm.2.1
        refine z_all i X hd hn hx hS (by simp only; omega) (by simp only; omega) ?_
        intro ρ' H' lsA' locs' cells' slots' hS' hag q1 q2
        simp only at hS' q1 q2
        refine ih P p l e R s mm args below meth c H' locs' cells' slots' Q y' pc' ls' st' m1 lsA' ρ' r m' h X hS' (by omega) (by omega) ?_
        intro ρ2 H2 lsA2 locs2 cells2 slots2 pc2 i2 a1 a2 a3 a4 a5 a6 a7 a8
        exact K ρ2 H2 lsA2 locs2 cells2 slots2 pc2 i2 a1 a2 (fun r n hn => (a3 r n (Nat.lt_of_lt_of_le hn (hg2.2.2 r))).trans (hag r n hn)) a4 (by omega) (by omega) a7 a8
      · have h : some r' = some (r, m') := h
        cases h
        obtain ⟨b1, b2, b3, b4⟩ := xi_ret i hx
        simp only at b2 b3 b4
        subst b4
        obtain ⟨hR, hL, hls, hst, hlo⟩ := hS
        have hn1 : n = 1 := by
          rcases hn with hn | hn
          · rw [hn, b1]
          · rw [b1] at hn; cases hn
        subst hn1
        have K1 := K ρ H lsA locs cells slots pc i hR hlo (fun _ _ _ => rfl) (fun v hv => by rw [b3, hv] at hst; exact hst.1) rfl rfl hd b2
        rw [b3]
        have e1 : (r.toList).map (cv ρ) = (r.map (cv ρ)).toList := by cases r <;> rfl
        rw [e1]
        exact K1
      · simp only [fi] at h
        cases hq : ex f q.1 with
        | none => rw [hq] at h; cases h
        | some r1 =>
          rw [hq] at h
          have h : ex f (bk q.2 r1) = some (r, m') := h
          have hm0 := ex_mle f _ _ hq
          rw [hg.1] at hm0
          have hm := ex_mle f _ _ h
          have e1 : mT m ≤ mT r1.2 := hm0.1
          have e2 : mS m ≤ mS r1.2 := hm0.2.1
          have e3 : mT r1.2 ≤ mT m' := hm.1
          have e4 : mS r1.2 ≤ mS m' := hm.2.1
          have hqy : q.2.1 = y := hg.2
          have KK1 : KT P p l e R s mm args below meth c Q ρ m cells slots (bk q.2 r1) := by
            intro ρ' H' lsA' locs' cells' slots' hS' hag q1 q2
            have q1 : cells' + mT m = cells + mT r1.2 := q1
            have q2 : slots' + mS m = slots + mS r1.2 := q2
            obtain ⟨c1, y2, pc2, ls2, st2⟩ := q
            simp only at hqy
            subst hqy
            refine ih P p l e R s mm args below meth c H' locs' cells' slots' Q y2 pc2 ls2 (r1.1.toList ++ st2) r1.2 lsA' ρ' r m' h X hS' (by omega) (by omega) ?_
            intro ρ2 H2 lsA2 locs2 cells2 slots2 pc2 i2 a1 a2 a3 a4 a5 a6 a7 a8
            exact K ρ2 H2 lsA2 locs2 cells2 slots2 pc2 i2 a1 a2 (fun r n hn => (a3 r n (Nat.lt_of_lt_of_le hn (hm0.2.2 r))).trans (hag r n hn)) a4 (by omega) (by omega) a7 a8
          obtain ⟨k, hk | hk | hk⟩ := xi_call i hx
          · subst hk
            obtain rfl : n = 3 := hn.resolve_right (by simp [il])
            exact zc_virtual X hd hx hS ih hq (by omega) (by omega) KK1
          · subst hk
            obtain rfl : n = 3 := hn.resolve_right (by simp [il])
            exact zc_static X hd hx hS ih hq (by omega) (by omega) KK1
          · subst hk
            obtain rfl : n = 3 := hn.resolve_right (by simp [il])
            exact zc_special X hd hx hS ih hq (by omega) (by omega) KK1
