/-! one instruction of the small machine is one of the machine -/
theorem pI_inv {st : List AV} {k : Int32 → List AV → Option OC} {o : OC} (h : pI st k = some o) : ∃ x r, st = .inl x :: r ∧ k x r = some o := by
  unfold pI at h
  split at h
  · exact ⟨_, _, rfl, h⟩
  · cases h
theorem pL_inv {st : List AV} {k : Int64 → List AV → Option OC} {o : OC} (h : pL st k = some o) : ∃ x r, st = .inr (.inl x) :: r ∧ k x r = some o := by
  unfold pL at h
  split at h
  · exact ⟨_, _, rfl, h⟩
  · cases h
theorem pR_inv {st : List AV} {k : Nat → Option Nat → List AV → Option OC} {o : OC} (h : pR st k = some o) : ∃ t n r, st = .inr (.inr (t, n)) :: r ∧ k t n r = some o := by
  unfold pR at h
  split at h
  · exact ⟨_, _, _, rfl, h⟩
  · cases h
theorem pA_inv {st : List AV} {k : Nat → Nat → List AV → Option OC} {o : OC} (h : pA st k = some o) : ∃ t n r, st = .inr (.inr (t, some n)) :: r ∧ k t n r = some o := by
  unfold pA at h
  split at h
  · exact ⟨_, _, _, rfl, h⟩
  · cases h
theorem pop_inv {st : List AV} {k : AV → List AV → Option OC} {o : OC} (h : pop st k = some o) : ∃ v r, st = v :: r ∧ k v r = some o := by
  unfold pop at h
  split at h
  · exact ⟨_, _, rfl, h⟩
  · cases h
theorem onI_inv {v : Option AV} {k : Int32 → Option OC} {o : OC} (h : onI v k = some o) : ∃ x, v = some (.inl x) ∧ k x = some o := by
  unfold onI at h
  split at h
  · exact ⟨_, rfl, h⟩
  · cases h
theorem onL_inv {v : Option AV} {k : Int64 → Option OC} {o : OC} (h : onL v k = some o) : ∃ x, v = some (.inr (.inl x)) ∧ k x = some o := by
  unfold onL at h
  split at h
  · exact ⟨_, rfl, h⟩
  · cases h
theorem onR_inv {v : Option AV} {k : Nat → Option Nat → Option OC} {o : OC} (h : onR v k = some o) : ∃ t n, v = some (.inr (.inr (t, n))) ∧ k t n = some o := by
  unfold onR at h
  split at h
  · exact ⟨_, _, rfl, h⟩
  · cases h
theorem if_inv {α : Type} {q : Prop} {d : Decidable q} {a : Option α} {o : α} (h : (@ite _ q d a none) = some o) : q ∧ a = some o := by
  by_cases hq : q
  · rw [if_pos hq] at h; exact ⟨hq, h⟩
  · rw [if_neg hq] at h; cases h
theorem jm_inv {pc t : Nat} {off : Int} (h : jm pc off = some t) : (pc : Int) + off = (t : Int) := by
  unfold jm at h
  obtain ⟨h1, h2⟩ := if_inv h
  cases h2
  omega
theorem ix_inv {i : Int32} {n j : Nat} (h : ix i n = some j) : ¬ (i < 0 ∨ n ≤ i.toNatClampNeg) ∧ j = i.toNatClampNeg ∧ j < n := by
  unfold ix at h
  obtain ⟨h1, h2⟩ := if_inv h
  cases h2
  exact ⟨h1, rfl, Nat.not_le.mp fun q => h1 (Or.inr q)⟩
def SS (P : PP) (ρ : AM) (m : MM) (H : Heap) (ls : LV) (lsA : Array Slot) (nL : Nat) (st : List AV) (locs : List Loc) : Prop :=
  Rl P ρ m H ∧ lv_has lsA nL (pv ρ 0 ls) ∧ (∀ j v, lg ls j = some v → lvq m v) ∧ la m st ∧ ∀ q ∈ locs, qB P ≤ q.base
def CX (P : PP) (p : Program) (R : Room) (s : State) (mm : MethodId) (args : Array Value) (meth : Method) (c : Code) (y : Nat) : Prop :=
  p.tables.exec = Jvm.exec ∧ c.code = (mt y).2.1 ∧ c.maxLocals = (mt y).2.2.2.1 ∧ meth.sig.returnType = (mt y).2.2.2.2.1 ∧ meth.locks = false ∧ ((mt y).1.name = "<init>" → meth.name = "<init>") ∧
  s.vm.findClass (cn (mt y).2.2.1) = some mm.cls ∧ (∀ w ∈ gw, w.before args s = true) ∧ KK P s ∧ (mt y).2.2.2.2.2.1 ≤ R.frames ∧ (mt y).2.2.2.2.2.2 ≤ R.locals
def KT (P : PP) (p : Program) (l : Launch) (e : Env) (R : Room) (s : State) (mm : MethodId) (args : Array Value) (below : List Frame) (meth : Method) (c : Code) (Q : State → Prop) (ρ : AM) (m : MM) (cells slots : Nat) (c' : CF) : Prop :=
  ∀ (ρ' : AM) (H' : Heap) (lsA' : Array Slot) (locs' : List Loc) (cells' slots' : Nat), SS P ρ' c'.2.2.2.2 H' c'.2.2.1 lsA' (mt c'.1).2.2.2.1 c'.2.2.2.1 locs' → (∀ r n, n < mC m r → ρ' r n = ρ r n) →
    cells' + mT m = cells + mT c'.2.2.2.2 → slots' + mS m = slots + mS c'.2.2.2.2 → W p l e R s mm args below meth c H' locs' cells' slots' Q (F0 mm c'.2.1 lsA' (c'.2.2.2.1.map (cv ρ')))
theorem gw_oI : Cond.instanceMethod Lib.objectInit ∈ gw := gw_in (List.mem_of_getElem? (i := 16) rfl) rfl
theorem gw_oK : Cond.code Lib.objectInit ⟨#[0xb1]⟩ 1 none ∈ gw := gw_in (List.mem_of_getElem? (i := 17) rfl) rfl
theorem sg_live {ls : LV} {m : MM} {k : Nat} {v : AV} (h : ∀ j v, lg ls j = some v → lvq m v) (hv : lvq m v) : ∀ j w, lg (sg ls k v) j = some w → lvq m w := by
  intro j w hj
  by_cases e : j = k
  · subst e; rw [lg_sg_eq hj]; exact hv
  · rw [lg_sg_ne e] at hj; exact h j w hj
theorem lv_get {ρ : AM} {ls : LV} {lsA : Array Slot} {nL k : Nat} {v : AV} (h : lv_has lsA nL (pv ρ 0 ls)) (hk : lg ls k = some v) : lsA[k]? = some (.val (cv ρ v)) := h.2.2 (k, cv ρ v) (by simpa using pv_of (ρ := ρ) (k := 0) hk)
section ZZ
variable {P : PP} {p : Program} {l : Launch} {e : Env} {R : Room} {s : State} {mm : MethodId} {args : Array Value} {below : List Frame} {meth : Method} {c : Code} {H : Heap} {locs : List Loc} {cells slots : Nat} {Q : State → Prop}
variable {y pc : Nat} {ls : LV} {st : List AV} {m : MM} {lsA : Array Slot} {ρ : AM} {c' : CF}
theorem z_iconst {k : Int} (X : CX P p R s mm args meth c y) (hd : decode (mt y).2.1 pc = .ok (.iconst k, 1)) (hx : xi (.iconst k) y pc ls st m = some (.inl c')) (hS : SS P ρ m H ls lsA (mt y).2.2.2.1 st locs) (K : KT P p l e R s mm args below meth c Q ρ m cells slots c') :
    W p l e R s mm args below meth c H locs cells slots Q (F0 mm pc lsA (st.map (cv ρ))) := by
  obtain rfl := Sum.inl.inj (Option.some.inj hx)
  obtain ⟨hR, hL, hls, hst, hlo⟩ := hS
  exact lv_iconst X.1 X.2.1 hd rfl (K ρ H lsA locs cells slots ⟨hR, hL, hls, ⟨trivial, hst⟩, hlo⟩ (fun _ _ _ => rfl) rfl rfl)
theorem z_bipush {k : Int} (X : CX P p R s mm args meth c y) (hd : decode (mt y).2.1 pc = .ok (.bipush k, 2)) (hx : xi (.bipush k) y pc ls st m = some (.inl c')) (hS : SS P ρ m H ls lsA (mt y).2.2.2.1 st locs) (K : KT P p l e R s mm args below meth c Q ρ m cells slots c') :
    W p l e R s mm args below meth c H locs cells slots Q (F0 mm pc lsA (st.map (cv ρ))) := by
  obtain rfl := Sum.inl.inj (Option.some.inj hx)
  obtain ⟨hR, hL, hls, hst, hlo⟩ := hS
  exact lv_bipush X.1 X.2.1 hd rfl (K ρ H lsA locs cells slots ⟨hR, hL, hls, ⟨trivial, hst⟩, hlo⟩ (fun _ _ _ => rfl) rfl rfl)
theorem z_sipush {k : Int} (X : CX P p R s mm args meth c y) (hd : decode (mt y).2.1 pc = .ok (.sipush k, 3)) (hx : xi (.sipush k) y pc ls st m = some (.inl c')) (hS : SS P ρ m H ls lsA (mt y).2.2.2.1 st locs) (K : KT P p l e R s mm args below meth c Q ρ m cells slots c') :
    W p l e R s mm args below meth c H locs cells slots Q (F0 mm pc lsA (st.map (cv ρ))) := by
  obtain rfl := Sum.inl.inj (Option.some.inj hx)
  obtain ⟨hR, hL, hls, hst, hlo⟩ := hS
  exact lv_sipush X.1 X.2.1 hd rfl (K ρ H lsA locs cells slots ⟨hR, hL, hls, ⟨trivial, hst⟩, hlo⟩ (fun _ _ _ => rfl) rfl rfl)
theorem z_lconst {k : Fin 2} (X : CX P p R s mm args meth c y) (hd : decode (mt y).2.1 pc = .ok (.lconst k, 1)) (hx : xi (.lconst k) y pc ls st m = some (.inl c')) (hS : SS P ρ m H ls lsA (mt y).2.2.2.1 st locs) (K : KT P p l e R s mm args below meth c Q ρ m cells slots c') :
    W p l e R s mm args below meth c H locs cells slots Q (F0 mm pc lsA (st.map (cv ρ))) := by
  obtain rfl := Sum.inl.inj (Option.some.inj hx)
  obtain ⟨hR, hL, hls, hst, hlo⟩ := hS
  exact lv_lconst X.1 X.2.1 hd rfl (K ρ H lsA locs cells slots ⟨hR, hL, hls, ⟨trivial, hst⟩, hlo⟩ (fun _ _ _ => rfl) rfl rfl)
theorem z_null (X : CX P p R s mm args meth c y) (hd : decode (mt y).2.1 pc = .ok (.aconst_null, 1)) (hx : xi (.aconst_null) y pc ls st m = some (.inl c')) (hS : SS P ρ m H ls lsA (mt y).2.2.2.1 st locs) (K : KT P p l e R s mm args below meth c Q ρ m cells slots c') :
    W p l e R s mm args below meth c H locs cells slots Q (F0 mm pc lsA (st.map (cv ρ))) := by
  obtain rfl := Sum.inl.inj (Option.some.inj hx)
  obtain ⟨hR, hL, hls, hst, hlo⟩ := hS
  exact lv_null X.1 X.2.1 hd (K ρ H lsA locs cells slots ⟨hR, hL, hls, ⟨trivial, hst⟩, hlo⟩ (fun _ _ _ => rfl) rfl rfl)
theorem z_ldc {k : Nat} (X : CX P p R s mm args meth c y) (hd : decode (mt y).2.1 pc = .ok (.ldc k, 2)) (hx : xi (.ldc k) y pc ls st m = some (.inl c')) (hS : SS P ρ m H ls lsA (mt y).2.2.2.1 st locs) (K : KT P p l e R s mm args below meth c Q ρ m cells slots c') :
    W p l e R s mm args below meth c H locs cells slots Q (F0 mm pc lsA (st.map (cv ρ))) := by
  obtain ⟨v, hv, hx⟩ := Option.bind_eq_some_iff.mp hx
  obtain rfl := Sum.inl.inj (Option.some.inj hx)
  obtain ⟨hR, hL, hls, hst, hlo⟩ := hS
  exact lv_ldc X.1 X.2.1 X.2.2.2.2.2.2.1 (X.2.2.2.2.2.2.2.1 _ (gw_c (lk_mem hv))) hd (K ρ H lsA locs cells slots ⟨hR, hL, hls, ⟨trivial, hst⟩, hlo⟩ (fun _ _ _ => rfl) rfl rfl)
theorem z_ldc2 {k : Nat} (X : CX P p R s mm args meth c y) (hd : decode (mt y).2.1 pc = .ok (.ldc2_w k, 3)) (hx : xi (.ldc2_w k) y pc ls st m = some (.inl c')) (hS : SS P ρ m H ls lsA (mt y).2.2.2.1 st locs) (K : KT P p l e R s mm args below meth c Q ρ m cells slots c') :
    W p l e R s mm args below meth c H locs cells slots Q (F0 mm pc lsA (st.map (cv ρ))) := by
  obtain ⟨v, hv, hx⟩ := Option.bind_eq_some_iff.mp hx
  obtain rfl := Sum.inl.inj (Option.some.inj hx)
  obtain ⟨hR, hL, hls, hst, hlo⟩ := hS
  exact lv_ldc2 X.1 X.2.1 X.2.2.2.2.2.2.1 (X.2.2.2.2.2.2.2.1 _ (gw_L (lk_mem hv))) hd (K ρ H lsA locs cells slots ⟨hR, hL, hls, ⟨trivial, hst⟩, hlo⟩ (fun _ _ _ => rfl) rfl rfl)
theorem z_iload {k : Nat} (X : CX P p R s mm args meth c y) (hd : decode (mt y).2.1 pc = .ok (.iload k, 2)) (hx : xi (.iload k) y pc ls st m = some (.inl c')) (hS : SS P ρ m H ls lsA (mt y).2.2.2.1 st locs) (K : KT P p l e R s mm args below meth c Q ρ m cells slots c') :
    W p l e R s mm args below meth c H locs cells slots Q (F0 mm pc lsA (st.map (cv ρ))) := by
  obtain ⟨x, hk, hx⟩ := onI_inv hx
  obtain rfl := Sum.inl.inj (Option.some.inj hx)
  obtain ⟨hR, hL, hls, hst, hlo⟩ := hS
  exact lv_iload X.1 X.2.1 hd (lv_get hL hk) (K ρ H lsA locs cells slots ⟨hR, hL, hls, ⟨trivial, hst⟩, hlo⟩ (fun _ _ _ => rfl) rfl rfl)
theorem z_iload_n {k : Fin 4} (X : CX P p R s mm args meth c y) (hd : decode (mt y).2.1 pc = .ok (.iload_n k, 1)) (hx : xi (.iload_n k) y pc ls st m = some (.inl c')) (hS : SS P ρ m H ls lsA (mt y).2.2.2.1 st locs) (K : KT P p l e R s mm args below meth c Q ρ m cells slots c') :
    W p l e R s mm args below meth c H locs cells slots Q (F0 mm pc lsA (st.map (cv ρ))) := by
  obtain ⟨x, hk, hx⟩ := onI_inv hx
  obtain rfl := Sum.inl.inj (Option.some.inj hx)
  obtain ⟨hR, hL, hls, hst, hlo⟩ := hS
  exact lv_iload_n X.1 X.2.1 hd rfl (lv_get hL hk) (K ρ H lsA locs cells slots ⟨hR, hL, hls, ⟨trivial, hst⟩, hlo⟩ (fun _ _ _ => rfl) rfl rfl)
theorem z_lload {k : Nat} (X : CX P p R s mm args meth c y) (hd : decode (mt y).2.1 pc = .ok (.lload k, 2)) (hx : xi (.lload k) y pc ls st m = some (.inl c')) (hS : SS P ρ m H ls lsA (mt y).2.2.2.1 st locs) (K : KT P p l e R s mm args below meth c Q ρ m cells slots c') :
    W p l e R s mm args below meth c H locs cells slots Q (F0 mm pc lsA (st.map (cv ρ))) := by
  obtain ⟨x, hk, hx⟩ := onL_inv hx
  obtain rfl := Sum.inl.inj (Option.some.inj hx)
  obtain ⟨hR, hL, hls, hst, hlo⟩ := hS
  exact lv_lload X.1 X.2.1 hd (lv_get hL hk) (K ρ H lsA locs cells slots ⟨hR, hL, hls, ⟨trivial, hst⟩, hlo⟩ (fun _ _ _ => rfl) rfl rfl)
theorem z_lload_n {k : Fin 4} (X : CX P p R s mm args meth c y) (hd : decode (mt y).2.1 pc = .ok (.lload_n k, 1)) (hx : xi (.lload_n k) y pc ls st m = some (.inl c')) (hS : SS P ρ m H ls lsA (mt y).2.2.2.1 st locs) (K : KT P p l e R s mm args below meth c Q ρ m cells slots c') :
    W p l e R s mm args below meth c H locs cells slots Q (F0 mm pc lsA (st.map (cv ρ))) := by
  obtain ⟨x, hk, hx⟩ := onL_inv hx
  obtain rfl := Sum.inl.inj (Option.some.inj hx)
  obtain ⟨hR, hL, hls, hst, hlo⟩ := hS
  exact lv_lload_n X.1 X.2.1 hd rfl (lv_get hL hk) (K ρ H lsA locs cells slots ⟨hR, hL, hls, ⟨trivial, hst⟩, hlo⟩ (fun _ _ _ => rfl) rfl rfl)
theorem z_aload {k : Nat} (X : CX P p R s mm args meth c y) (hd : decode (mt y).2.1 pc = .ok (.aload k, 2)) (hx : xi (.aload k) y pc ls st m = some (.inl c')) (hS : SS P ρ m H ls lsA (mt y).2.2.2.1 st locs) (K : KT P p l e R s mm args below meth c Q ρ m cells slots c') :
    W p l e R s mm args below meth c H locs cells slots Q (F0 mm pc lsA (st.map (cv ρ))) := by
  simp only [xi] at hx
  obtain ⟨t, o, hk, hx⟩ := onR_inv hx
  obtain rfl := Sum.inl.inj (Option.some.inj hx)
  obtain ⟨hR, hL, hls, hst, hlo⟩ := hS
  cases o with
  | none => exact lv_aloadN X.1 X.2.1 hd (lv_get hL hk) (K ρ H lsA locs cells slots ⟨hR, hL, hls, ⟨hls _ _ hk, hst⟩, hlo⟩ (fun _ _ _ => rfl) rfl rfl)
  | some n => exact lv_aload X.1 X.2.1 hd (lv_get hL hk) (K ρ H lsA locs cells slots ⟨hR, hL, hls, ⟨hls _ _ hk, hst⟩, hlo⟩ (fun _ _ _ => rfl) rfl rfl)
theorem z_aload_n {k : Fin 4} (X : CX P p R s mm args meth c y) (hd : decode (mt y).2.1 pc = .ok (.aload_n k, 1)) (hx : xi (.aload_n k) y pc ls st m = some (.inl c')) (hS : SS P ρ m H ls lsA (mt y).2.2.2.1 st locs) (K : KT P p l e R s mm args below meth c Q ρ m cells slots c') :
    W p l e R s mm args below meth c H locs cells slots Q (F0 mm pc lsA (st.map (cv ρ))) := by
  simp only [xi] at hx
  obtain ⟨t, o, hk, hx⟩ := onR_inv hx
  obtain rfl := Sum.inl.inj (Option.some.inj hx)
  obtain ⟨hR, hL, hls, hst, hlo⟩ := hS
  cases o with
  | none => exact lv_aload_nN X.1 X.2.1 hd rfl (lv_get hL hk) (K ρ H lsA locs cells slots ⟨hR, hL, hls, ⟨hls _ _ hk, hst⟩, hlo⟩ (fun _ _ _ => rfl) rfl rfl)
  | some n => exact lv_aload_n X.1 X.2.1 hd rfl (lv_get hL hk) (K ρ H lsA locs cells slots ⟨hR, hL, hls, ⟨hls _ _ hk, hst⟩, hlo⟩ (fun _ _ _ => rfl) rfl rfl)
theorem z_istore {k : Nat} (X : CX P p R s mm args meth c y) (hd : decode (mt y).2.1 pc = .ok (.istore k, 2)) (hx : xi (.istore k) y pc ls st m = some (.inl c')) (hS : SS P ρ m H ls lsA (mt y).2.2.2.1 st locs) (K : KT P p l e R s mm args below meth c Q ρ m cells slots c') :
    W p l e R s mm args below meth c H locs cells slots Q (F0 mm pc lsA (st.map (cv ρ))) := by
  obtain ⟨x0, r0, rfl, hx⟩ := pI_inv hx
  obtain ⟨hk, hx⟩ := if_inv hx
  simp only [Bool.and_eq_true, decide_eq_true_eq] at hk
  obtain rfl := Sum.inl.inj (Option.some.inj hx)
  obtain ⟨hR, hL, hls, hst, hlo⟩ := hS
  exact lv_istore X.1 X.2.1 hd hL hk.2 rfl (fun lsA1 hL1 => K ρ H lsA1 locs cells slots ⟨hR, st_has (v := .inl x0) hL1 hk.1, sg_live hls trivial, hst.2, hlo⟩ (fun _ _ _ => rfl) rfl rfl)
theorem z_istore_n {k : Fin 4} (X : CX P p R s mm args meth c y) (hd : decode (mt y).2.1 pc = .ok (.istore_n k, 1)) (hx : xi (.istore_n k) y pc ls st m = some (.inl c')) (hS : SS P ρ m H ls lsA (mt y).2.2.2.1 st locs) (K : KT P p l e R s mm args below meth c Q ρ m cells slots c') :
    W p l e R s mm args below meth c H locs cells slots Q (F0 mm pc lsA (st.map (cv ρ))) := by
  obtain ⟨x0, r0, rfl, hx⟩ := pI_inv hx
  obtain ⟨hk, hx⟩ := if_inv hx
  simp only [Bool.and_eq_true, decide_eq_true_eq] at hk
  obtain rfl := Sum.inl.inj (Option.some.inj hx)
  obtain ⟨hR, hL, hls, hst, hlo⟩ := hS
  exact lv_istore_n X.1 X.2.1 hd rfl hL hk.2 rfl (fun lsA1 hL1 => K ρ H lsA1 locs cells slots ⟨hR, st_has (v := .inl x0) hL1 hk.1, sg_live hls trivial, hst.2, hlo⟩ (fun _ _ _ => rfl) rfl rfl)
theorem z_astore {k : Nat} (X : CX P p R s mm args meth c y) (hd : decode (mt y).2.1 pc = .ok (.astore k, 2)) (hx : xi (.astore k) y pc ls st m = some (.inl c')) (hS : SS P ρ m H ls lsA (mt y).2.2.2.1 st locs) (K : KT P p l e R s mm args below meth c Q ρ m cells slots c') :
    W p l e R s mm args below meth c H locs cells slots Q (F0 mm pc lsA (st.map (cv ρ))) := by
  simp only [xi] at hx
  obtain ⟨t0, o0, r0, rfl, hx⟩ := pR_inv hx
  obtain ⟨hk, hx⟩ := if_inv hx
  simp only [Bool.and_eq_true, decide_eq_true_eq] at hk
  obtain rfl := Sum.inl.inj (Option.some.inj hx)
  obtain ⟨hR, hL, hls, hst, hlo⟩ := hS
  cases o0 with
  | none => exact lv_astoreN X.1 X.2.1 hd hL hk.2 rfl (fun lsA1 hL1 => K ρ H lsA1 locs cells slots ⟨hR, st_has (v := .inr (.inr (t0, none))) hL1 hk.1, sg_live hls hst.1, hst.2, hlo⟩ (fun _ _ _ => rfl) rfl rfl)
  | some n => exact lv_astore X.1 X.2.1 hd hL hk.2 rfl (fun lsA1 hL1 => K ρ H lsA1 locs cells slots ⟨hR, st_has (v := .inr (.inr (t0, some n))) hL1 hk.1, sg_live hls hst.1, hst.2, hlo⟩ (fun _ _ _ => rfl) rfl rfl)
theorem z_astore_n {k : Fin 4} (X : CX P p R s mm args meth c y) (hd : decode (mt y).2.1 pc = .ok (.astore_n k, 1)) (hx : xi (.astore_n k) y pc ls st m = some (.inl c')) (hS : SS P ρ m H ls lsA (mt y).2.2.2.1 st locs) (K : KT P p l e R s mm args below meth c Q ρ m cells slots c') :
    W p l e R s mm args below meth c H locs cells slots Q (F0 mm pc lsA (st.map (cv ρ))) := by
  simp only [xi] at hx
  obtain ⟨t0, o0, r0, rfl, hx⟩ := pR_inv hx
  obtain ⟨hk, hx⟩ := if_inv hx
  simp only [Bool.and_eq_true, decide_eq_true_eq] at hk
  obtain rfl := Sum.inl.inj (Option.some.inj hx)
  obtain ⟨hR, hL, hls, hst, hlo⟩ := hS
  cases o0 with
  | none => exact lv_astore_nN X.1 X.2.1 hd rfl hL hk.2 rfl (fun lsA1 hL1 => K ρ H lsA1 locs cells slots ⟨hR, st_has (v := .inr (.inr (t0, none))) hL1 hk.1, sg_live hls hst.1, hst.2, hlo⟩ (fun _ _ _ => rfl) rfl rfl)
  | some n => exact lv_astore_n X.1 X.2.1 hd rfl hL hk.2 rfl (fun lsA1 hL1 => K ρ H lsA1 locs cells slots ⟨hR, st_has (v := .inr (.inr (t0, some n))) hL1 hk.1, sg_live hls hst.1, hst.2, hlo⟩ (fun _ _ _ => rfl) rfl rfl)
theorem z_iinc {k : Nat} {n : Int} (X : CX P p R s mm args meth c y) (hd : decode (mt y).2.1 pc = .ok (.iinc k n, 3)) (hx : xi (.iinc k n) y pc ls st m = some (.inl c')) (hS : SS P ρ m H ls lsA (mt y).2.2.2.1 st locs) (K : KT P p l e R s mm args below meth c Q ρ m cells slots c') :
    W p l e R s mm args below meth c H locs cells slots Q (F0 mm pc lsA (st.map (cv ρ))) := by
  obtain ⟨x, hx1, hx⟩ := onI_inv hx
  obtain ⟨hk, hx⟩ := if_inv hx
  simp only [Bool.and_eq_true, decide_eq_true_eq] at hk
  obtain rfl := Sum.inl.inj (Option.some.inj hx)
  obtain ⟨hR, hL, hls, hst, hlo⟩ := hS
  obtain ⟨i, hi⟩ := List.getElem?_of_mem (show (k, Value.int x) ∈ pv ρ 0 ls by have h7 := pv_of (ρ := ρ) (k := 0) hx1; rw [Nat.zero_add] at h7; exact h7)
  exact lv_iinc X.1 X.2.1 hd hL hi rfl hk.2 rfl (fun lsA1 hL1 => K ρ H lsA1 locs cells slots ⟨hR, st_has (v := .inl (x + Int32.ofInt n)) hL1 hk.1, sg_live hls trivial, hst, hlo⟩ (fun _ _ _ => rfl) rfl rfl)
theorem z_iadd (X : CX P p R s mm args meth c y) (hd : decode (mt y).2.1 pc = .ok (.iadd, 1)) (hx : xi (.iadd) y pc ls st m = some (.inl c')) (hS : SS P ρ m H ls lsA (mt y).2.2.2.1 st locs) (K : KT P p l e R s mm args below meth c Q ρ m cells slots c') :
    W p l e R s mm args below meth c H locs cells slots Q (F0 mm pc lsA (st.map (cv ρ))) := by
  obtain ⟨x0, r0, rfl, hx⟩ := pI_inv hx
  obtain ⟨x1, r1, rfl, hx⟩ := pI_inv hx
  obtain rfl := Sum.inl.inj (Option.some.inj hx)
  obtain ⟨hR, hL, hls, hst, hlo⟩ := hS
  exact lv_iadd X.1 X.2.1 hd (K ρ H lsA locs cells slots ⟨hR, hL, hls, ⟨trivial, hst.2.2⟩, hlo⟩ (fun _ _ _ => rfl) rfl rfl)
theorem z_isub (X : CX P p R s mm args meth c y) (hd : decode (mt y).2.1 pc = .ok (.isub, 1)) (hx : xi (.isub) y pc ls st m = some (.inl c')) (hS : SS P ρ m H ls lsA (mt y).2.2.2.1 st locs) (K : KT P p l e R s mm args below meth c Q ρ m cells slots c') :
    W p l e R s mm args below meth c H locs cells slots Q (F0 mm pc lsA (st.map (cv ρ))) := by
  obtain ⟨x0, r0, rfl, hx⟩ := pI_inv hx
  obtain ⟨x1, r1, rfl, hx⟩ := pI_inv hx
  obtain rfl := Sum.inl.inj (Option.some.inj hx)
  obtain ⟨hR, hL, hls, hst, hlo⟩ := hS
  exact lv_isub X.1 X.2.1 hd (K ρ H lsA locs cells slots ⟨hR, hL, hls, ⟨trivial, hst.2.2⟩, hlo⟩ (fun _ _ _ => rfl) rfl rfl)
theorem z_imul (X : CX P p R s mm args meth c y) (hd : decode (mt y).2.1 pc = .ok (.imul, 1)) (hx : xi (.imul) y pc ls st m = some (.inl c')) (hS : SS P ρ m H ls lsA (mt y).2.2.2.1 st locs) (K : KT P p l e R s mm args below meth c Q ρ m cells slots c') :
    W p l e R s mm args below meth c H locs cells slots Q (F0 mm pc lsA (st.map (cv ρ))) := by
  obtain ⟨x0, r0, rfl, hx⟩ := pI_inv hx
  obtain ⟨x1, r1, rfl, hx⟩ := pI_inv hx
  obtain rfl := Sum.inl.inj (Option.some.inj hx)
  obtain ⟨hR, hL, hls, hst, hlo⟩ := hS
  exact lv_imul X.1 X.2.1 hd (K ρ H lsA locs cells slots ⟨hR, hL, hls, ⟨trivial, hst.2.2⟩, hlo⟩ (fun _ _ _ => rfl) rfl rfl)
theorem z_iand (X : CX P p R s mm args meth c y) (hd : decode (mt y).2.1 pc = .ok (.iand, 1)) (hx : xi (.iand) y pc ls st m = some (.inl c')) (hS : SS P ρ m H ls lsA (mt y).2.2.2.1 st locs) (K : KT P p l e R s mm args below meth c Q ρ m cells slots c') :
    W p l e R s mm args below meth c H locs cells slots Q (F0 mm pc lsA (st.map (cv ρ))) := by
  obtain ⟨x0, r0, rfl, hx⟩ := pI_inv hx
  obtain ⟨x1, r1, rfl, hx⟩ := pI_inv hx
  obtain rfl := Sum.inl.inj (Option.some.inj hx)
  obtain ⟨hR, hL, hls, hst, hlo⟩ := hS
  exact lv_iand X.1 X.2.1 hd (K ρ H lsA locs cells slots ⟨hR, hL, hls, ⟨trivial, hst.2.2⟩, hlo⟩ (fun _ _ _ => rfl) rfl rfl)
theorem z_ixor (X : CX P p R s mm args meth c y) (hd : decode (mt y).2.1 pc = .ok (.ixor, 1)) (hx : xi (.ixor) y pc ls st m = some (.inl c')) (hS : SS P ρ m H ls lsA (mt y).2.2.2.1 st locs) (K : KT P p l e R s mm args below meth c Q ρ m cells slots c') :
    W p l e R s mm args below meth c H locs cells slots Q (F0 mm pc lsA (st.map (cv ρ))) := by
  obtain ⟨x0, r0, rfl, hx⟩ := pI_inv hx
  obtain ⟨x1, r1, rfl, hx⟩ := pI_inv hx
  obtain rfl := Sum.inl.inj (Option.some.inj hx)
  obtain ⟨hR, hL, hls, hst, hlo⟩ := hS
  exact lv_ixor X.1 X.2.1 hd (K ρ H lsA locs cells slots ⟨hR, hL, hls, ⟨trivial, hst.2.2⟩, hlo⟩ (fun _ _ _ => rfl) rfl rfl)
theorem z_ishl (X : CX P p R s mm args meth c y) (hd : decode (mt y).2.1 pc = .ok (.ishl, 1)) (hx : xi (.ishl) y pc ls st m = some (.inl c')) (hS : SS P ρ m H ls lsA (mt y).2.2.2.1 st locs) (K : KT P p l e R s mm args below meth c Q ρ m cells slots c') :
    W p l e R s mm args below meth c H locs cells slots Q (F0 mm pc lsA (st.map (cv ρ))) := by
  obtain ⟨x0, r0, rfl, hx⟩ := pI_inv hx
  obtain ⟨x1, r1, rfl, hx⟩ := pI_inv hx
  obtain rfl := Sum.inl.inj (Option.some.inj hx)
  obtain ⟨hR, hL, hls, hst, hlo⟩ := hS
  exact lv_ishl X.1 X.2.1 hd (K ρ H lsA locs cells slots ⟨hR, hL, hls, ⟨trivial, hst.2.2⟩, hlo⟩ (fun _ _ _ => rfl) rfl rfl)
theorem z_ishr (X : CX P p R s mm args meth c y) (hd : decode (mt y).2.1 pc = .ok (.ishr, 1)) (hx : xi (.ishr) y pc ls st m = some (.inl c')) (hS : SS P ρ m H ls lsA (mt y).2.2.2.1 st locs) (K : KT P p l e R s mm args below meth c Q ρ m cells slots c') :
    W p l e R s mm args below meth c H locs cells slots Q (F0 mm pc lsA (st.map (cv ρ))) := by
  obtain ⟨x0, r0, rfl, hx⟩ := pI_inv hx
  obtain ⟨x1, r1, rfl, hx⟩ := pI_inv hx
  obtain rfl := Sum.inl.inj (Option.some.inj hx)
  obtain ⟨hR, hL, hls, hst, hlo⟩ := hS
  exact lv_ishr X.1 X.2.1 hd (K ρ H lsA locs cells slots ⟨hR, hL, hls, ⟨trivial, hst.2.2⟩, hlo⟩ (fun _ _ _ => rfl) rfl rfl)
theorem z_i2l (X : CX P p R s mm args meth c y) (hd : decode (mt y).2.1 pc = .ok (.i2l, 1)) (hx : xi (.i2l) y pc ls st m = some (.inl c')) (hS : SS P ρ m H ls lsA (mt y).2.2.2.1 st locs) (K : KT P p l e R s mm args below meth c Q ρ m cells slots c') :
    W p l e R s mm args below meth c H locs cells slots Q (F0 mm pc lsA (st.map (cv ρ))) := by
  obtain ⟨x0, r0, rfl, hx⟩ := pI_inv hx
  obtain rfl := Sum.inl.inj (Option.some.inj hx)
  obtain ⟨hR, hL, hls, hst, hlo⟩ := hS
  exact lv_i2l X.1 X.2.1 hd rfl (K ρ H lsA locs cells slots ⟨hR, hL, hls, ⟨trivial, hst.2⟩, hlo⟩ (fun _ _ _ => rfl) rfl rfl)
theorem z_i2b (X : CX P p R s mm args meth c y) (hd : decode (mt y).2.1 pc = .ok (.i2b, 1)) (hx : xi (.i2b) y pc ls st m = some (.inl c')) (hS : SS P ρ m H ls lsA (mt y).2.2.2.1 st locs) (K : KT P p l e R s mm args below meth c Q ρ m cells slots c') :
    W p l e R s mm args below meth c H locs cells slots Q (F0 mm pc lsA (st.map (cv ρ))) := by
  obtain ⟨x0, r0, rfl, hx⟩ := pI_inv hx
  obtain rfl := Sum.inl.inj (Option.some.inj hx)
  obtain ⟨hR, hL, hls, hst, hlo⟩ := hS
  exact lv_i2b X.1 X.2.1 hd rfl (K ρ H lsA locs cells slots ⟨hR, hL, hls, ⟨trivial, hst.2⟩, hlo⟩ (fun _ _ _ => rfl) rfl rfl)
theorem z_lcmp (X : CX P p R s mm args meth c y) (hd : decode (mt y).2.1 pc = .ok (.lcmp, 1)) (hx : xi (.lcmp) y pc ls st m = some (.inl c')) (hS : SS P ρ m H ls lsA (mt y).2.2.2.1 st locs) (K : KT P p l e R s mm args below meth c Q ρ m cells slots c') :
    W p l e R s mm args below meth c H locs cells slots Q (F0 mm pc lsA (st.map (cv ρ))) := by
  obtain ⟨x0, r0, rfl, hx⟩ := pL_inv hx
  obtain ⟨x1, r1, rfl, hx⟩ := pL_inv hx
  obtain rfl := Sum.inl.inj (Option.some.inj hx)
  obtain ⟨hR, hL, hls, hst, hlo⟩ := hS
  exact W.lcmp X.1 X.2.1 hd (K ρ H lsA locs cells slots ⟨hR, hL, hls, ⟨trivial, hst.2.2⟩, hlo⟩ (fun _ _ _ => rfl) rfl rfl)
theorem z_land (X : CX P p R s mm args meth c y) (hd : decode (mt y).2.1 pc = .ok (.land, 1)) (hx : xi (.land) y pc ls st m = some (.inl c')) (hS : SS P ρ m H ls lsA (mt y).2.2.2.1 st locs) (K : KT P p l e R s mm args below meth c Q ρ m cells slots c') :
    W p l e R s mm args below meth c H locs cells slots Q (F0 mm pc lsA (st.map (cv ρ))) := by
  obtain ⟨x0, r0, rfl, hx⟩ := pL_inv hx
  obtain ⟨x1, r1, rfl, hx⟩ := pL_inv hx
  obtain rfl := Sum.inl.inj (Option.some.inj hx)
  obtain ⟨hR, hL, hls, hst, hlo⟩ := hS
  exact lv_land X.1 X.2.1 hd (K ρ H lsA locs cells slots ⟨hR, hL, hls, ⟨trivial, hst.2.2⟩, hlo⟩ (fun _ _ _ => rfl) rfl rfl)
theorem z_lor (X : CX P p R s mm args meth c y) (hd : decode (mt y).2.1 pc = .ok (.lor, 1)) (hx : xi (.lor) y pc ls st m = some (.inl c')) (hS : SS P ρ m H ls lsA (mt y).2.2.2.1 st locs) (K : KT P p l e R s mm args below meth c Q ρ m cells slots c') :
    W p l e R s mm args below meth c H locs cells slots Q (F0 mm pc lsA (st.map (cv ρ))) := by
  obtain ⟨x0, r0, rfl, hx⟩ := pL_inv hx
  obtain ⟨x1, r1, rfl, hx⟩ := pL_inv hx
  obtain rfl := Sum.inl.inj (Option.some.inj hx)
  obtain ⟨hR, hL, hls, hst, hlo⟩ := hS
  exact lv_lor X.1 X.2.1 hd (K ρ H lsA locs cells slots ⟨hR, hL, hls, ⟨trivial, hst.2.2⟩, hlo⟩ (fun _ _ _ => rfl) rfl rfl)
theorem z_lshl (X : CX P p R s mm args meth c y) (hd : decode (mt y).2.1 pc = .ok (.lshl, 1)) (hx : xi (.lshl) y pc ls st m = some (.inl c')) (hS : SS P ρ m H ls lsA (mt y).2.2.2.1 st locs) (K : KT P p l e R s mm args below meth c Q ρ m cells slots c') :
    W p l e R s mm args below meth c H locs cells slots Q (F0 mm pc lsA (st.map (cv ρ))) := by
  obtain ⟨x0, r0, rfl, hx⟩ := pI_inv hx
  obtain ⟨x1, r1, rfl, hx⟩ := pL_inv hx
  obtain rfl := Sum.inl.inj (Option.some.inj hx)
  obtain ⟨hR, hL, hls, hst, hlo⟩ := hS
  exact lv_lshl X.1 X.2.1 hd rfl (K ρ H lsA locs cells slots ⟨hR, hL, hls, ⟨trivial, hst.2.2⟩, hlo⟩ (fun _ _ _ => rfl) rfl rfl)
theorem z_dup (X : CX P p R s mm args meth c y) (hd : decode (mt y).2.1 pc = .ok (.dup, 1)) (hx : xi (.dup) y pc ls st m = some (.inl c')) (hS : SS P ρ m H ls lsA (mt y).2.2.2.1 st locs) (K : KT P p l e R s mm args below meth c Q ρ m cells slots c') :
    W p l e R s mm args below meth c H locs cells slots Q (F0 mm pc lsA (st.map (cv ρ))) := by
  obtain ⟨v0, r0, rfl, hx⟩ := pop_inv hx
  obtain ⟨hc, hx⟩ := if_inv hx
  obtain rfl := Sum.inl.inj (Option.some.inj hx)
  obtain ⟨hR, hL, hls, hst, hlo⟩ := hS
  exact lv_dup X.1 X.2.1 hd (by rw [cv_cat]; exact hc) (K ρ H lsA locs cells slots ⟨hR, hL, hls, ⟨hst.1, hst.1, hst.2⟩, hlo⟩ (fun _ _ _ => rfl) rfl rfl)
theorem z_dup2 (X : CX P p R s mm args meth c y) (hd : decode (mt y).2.1 pc = .ok (.dup2, 1)) (hx : xi (.dup2) y pc ls st m = some (.inl c')) (hS : SS P ρ m H ls lsA (mt y).2.2.2.1 st locs) (K : KT P p l e R s mm args below meth c Q ρ m cells slots c') :
    W p l e R s mm args below meth c H locs cells slots Q (F0 mm pc lsA (st.map (cv ρ))) := by
  obtain ⟨v0, r0, rfl, hx⟩ := pop_inv hx
  obtain ⟨v1, r1, rfl, hx⟩ := pop_inv hx
  obtain ⟨hc, hx⟩ := if_inv hx
  obtain rfl := Sum.inl.inj (Option.some.inj hx)
  obtain ⟨hR, hL, hls, hst, hlo⟩ := hS
  exact lv_dup2_11 X.1 X.2.1 hd (by rw [cv_cat]; exact hc.1) (by rw [cv_cat]; exact hc.2) (K ρ H lsA locs cells slots ⟨hR, hL, hls, ⟨hst.1, hst.2.1, hst.1, hst.2.1, hst.2.2⟩, hlo⟩ (fun _ _ _ => rfl) rfl rfl)
theorem z_pop (X : CX P p R s mm args meth c y) (hd : decode (mt y).2.1 pc = .ok (.pop, 1)) (hx : xi (.pop) y pc ls st m = some (.inl c')) (hS : SS P ρ m H ls lsA (mt y).2.2.2.1 st locs) (K : KT P p l e R s mm args below meth c Q ρ m cells slots c') :
    W p l e R s mm args below meth c H locs cells slots Q (F0 mm pc lsA (st.map (cv ρ))) := by
  obtain ⟨v0, r0, rfl, hx⟩ := pop_inv hx
  obtain ⟨hc, hx⟩ := if_inv hx
  obtain rfl := Sum.inl.inj (Option.some.inj hx)
  obtain ⟨hR, hL, hls, hst, hlo⟩ := hS
  exact lv_pop X.1 X.2.1 hd (by rw [cv_cat]; exact hc) (K ρ H lsA locs cells slots ⟨hR, hL, hls, hst.2, hlo⟩ (fun _ _ _ => rfl) rfl rfl)
theorem z_goto {off : Int} (X : CX P p R s mm args meth c y) (hd : decode (mt y).2.1 pc = .ok (.goto off, 3)) (hx : xi (.goto off) y pc ls st m = some (.inl c')) (hS : SS P ρ m H ls lsA (mt y).2.2.2.1 st locs) (K : KT P p l e R s mm args below meth c Q ρ m cells slots c') :
    W p l e R s mm args below meth c H locs cells slots Q (F0 mm pc lsA (st.map (cv ρ))) := by
  obtain ⟨t, ht, hx⟩ := Option.bind_eq_some_iff.mp hx
  obtain rfl := Sum.inl.inj (Option.some.inj hx)
  obtain ⟨hR, hL, hls, hst, hlo⟩ := hS
  exact lv_goto X.1 X.2.1 hd (jm_inv ht) (K ρ H lsA locs cells slots ⟨hR, hL, hls, hst, hlo⟩ (fun _ _ _ => rfl) rfl rfl)
theorem z_icmp_eq {off : Int} (X : CX P p R s mm args meth c y) (hd : decode (mt y).2.1 pc = .ok (.if_icmp .eq off, 3)) (hx : xi (.if_icmp .eq off) y pc ls st m = some (.inl c')) (hS : SS P ρ m H ls lsA (mt y).2.2.2.1 st locs) (K : KT P p l e R s mm args below meth c Q ρ m cells slots c') :
    W p l e R s mm args below meth c H locs cells slots Q (F0 mm pc lsA (st.map (cv ρ))) := by
  obtain ⟨x0, r0, rfl, hx⟩ := pI_inv hx
  obtain ⟨x1, r1, rfl, hx⟩ := pI_inv hx
  obtain ⟨t, ht, hx⟩ := Option.bind_eq_some_iff.mp hx
  obtain rfl := Sum.inl.inj (Option.some.inj hx)
  obtain ⟨hR, hL, hls, hst, hlo⟩ := hS
  have K1 := K ρ H lsA locs cells slots ⟨hR, hL, hls, hst.2.2, hlo⟩ (fun _ _ _ => rfl) rfl rfl
  refine lv_icmp_eq X.1 X.2.1 hd (jm_inv ht) (fun h => ?_) (fun h => ?_)
  · rw [show (y, (if hc .eq x1 x0 = true then t else pc + 3), ls, r1, m) = (y, t, ls, r1, m) by rw [if_pos (by simp [hc, h])]] at K1; exact K1
  · rw [show (y, (if hc .eq x1 x0 = true then t else pc + 3), ls, r1, m) = (y, pc + 3, ls, r1, m) by rw [if_neg (by simp [hc, h])]] at K1; exact K1
theorem z_if_eq {off : Int} (X : CX P p R s mm args meth c y) (hd : decode (mt y).2.1 pc = .ok (.ifCond .eq off, 3)) (hx : xi (.ifCond .eq off) y pc ls st m = some (.inl c')) (hS : SS P ρ m H ls lsA (mt y).2.2.2.1 st locs) (K : KT P p l e R s mm args below meth c Q ρ m cells slots c') :
    W p l e R s mm args below meth c H locs cells slots Q (F0 mm pc lsA (st.map (cv ρ))) := by
  obtain ⟨x0, r0, rfl, hx⟩ := pI_inv hx
  obtain ⟨t, ht, hx⟩ := Option.bind_eq_some_iff.mp hx
  obtain rfl := Sum.inl.inj (Option.some.inj hx)
  obtain ⟨hR, hL, hls, hst, hlo⟩ := hS
  have K1 := K ρ H lsA locs cells slots ⟨hR, hL, hls, hst.2, hlo⟩ (fun _ _ _ => rfl) rfl rfl
  refine lv_if_eq X.1 X.2.1 hd (jm_inv ht) (fun h => ?_) (fun h => ?_)
  · rw [show (y, (if hc .eq x0 0 = true then t else pc + 3), ls, r0, m) = (y, t, ls, r0, m) by rw [if_pos (by simp [hc, h])]] at K1; exact K1
  · rw [show (y, (if hc .eq x0 0 = true then t else pc + 3), ls, r0, m) = (y, pc + 3, ls, r0, m) by rw [if_neg (by simp [hc, h])]] at K1; exact K1
theorem z_icmp_ne {off : Int} (X : CX P p R s mm args meth c y) (hd : decode (mt y).2.1 pc = .ok (.if_icmp .ne off, 3)) (hx : xi (.if_icmp .ne off) y pc ls st m = some (.inl c')) (hS : SS P ρ m H ls lsA (mt y).2.2.2.1 st locs) (K : KT P p l e R s mm args below meth c Q ρ m cells slots c') :
    W p l e R s mm args below meth c H locs cells slots Q (F0 mm pc lsA (st.map (cv ρ))) := by
  obtain ⟨x0, r0, rfl, hx⟩ := pI_inv hx
  obtain ⟨x1, r1, rfl, hx⟩ := pI_inv hx
  obtain ⟨t, ht, hx⟩ := Option.bind_eq_some_iff.mp hx
  obtain rfl := Sum.inl.inj (Option.some.inj hx)
  obtain ⟨hR, hL, hls, hst, hlo⟩ := hS
  have K1 := K ρ H lsA locs cells slots ⟨hR, hL, hls, hst.2.2, hlo⟩ (fun _ _ _ => rfl) rfl rfl
  refine lv_icmp_ne X.1 X.2.1 hd (jm_inv ht) (fun h => ?_) (fun h => ?_)
  · rw [show (y, (if hc .ne x1 x0 = true then t else pc + 3), ls, r1, m) = (y, t, ls, r1, m) by rw [if_pos (by simp [hc, h])]] at K1; exact K1
  · rw [show (y, (if hc .ne x1 x0 = true then t else pc + 3), ls, r1, m) = (y, pc + 3, ls, r1, m) by rw [if_neg (by simp [hc, h])]] at K1; exact K1
theorem z_if_ne {off : Int} (X : CX P p R s mm args meth c y) (hd : decode (mt y).2.1 pc = .ok (.ifCond .ne off, 3)) (hx : xi (.ifCond .ne off) y pc ls st m = some (.inl c')) (hS : SS P ρ m H ls lsA (mt y).2.2.2.1 st locs) (K : KT P p l e R s mm args below meth c Q ρ m cells slots c') :
    W p l e R s mm args below meth c H locs cells slots Q (F0 mm pc lsA (st.map (cv ρ))) := by
  obtain ⟨x0, r0, rfl, hx⟩ := pI_inv hx
  obtain ⟨t, ht, hx⟩ := Option.bind_eq_some_iff.mp hx
  obtain rfl := Sum.inl.inj (Option.some.inj hx)
  obtain ⟨hR, hL, hls, hst, hlo⟩ := hS
  have K1 := K ρ H lsA locs cells slots ⟨hR, hL, hls, hst.2, hlo⟩ (fun _ _ _ => rfl) rfl rfl
  refine lv_if_ne X.1 X.2.1 hd (jm_inv ht) (fun h => ?_) (fun h => ?_)
  · rw [show (y, (if hc .ne x0 0 = true then t else pc + 3), ls, r0, m) = (y, t, ls, r0, m) by rw [if_pos (by simp [hc, h])]] at K1; exact K1
  · rw [show (y, (if hc .ne x0 0 = true then t else pc + 3), ls, r0, m) = (y, pc + 3, ls, r0, m) by rw [if_neg (by simp [hc, h])]] at K1; exact K1
theorem z_icmp_lt {off : Int} (X : CX P p R s mm args meth c y) (hd : decode (mt y).2.1 pc = .ok (.if_icmp .lt off, 3)) (hx : xi (.if_icmp .lt off) y pc ls st m = some (.inl c')) (hS : SS P ρ m H ls lsA (mt y).2.2.2.1 st locs) (K : KT P p l e R s mm args below meth c Q ρ m cells slots c') :
    W p l e R s mm args below meth c H locs cells slots Q (F0 mm pc lsA (st.map (cv ρ))) := by
  obtain ⟨x0, r0, rfl, hx⟩ := pI_inv hx
  obtain ⟨x1, r1, rfl, hx⟩ := pI_inv hx
  obtain ⟨t, ht, hx⟩ := Option.bind_eq_some_iff.mp hx
  obtain rfl := Sum.inl.inj (Option.some.inj hx)
  obtain ⟨hR, hL, hls, hst, hlo⟩ := hS
  have K1 := K ρ H lsA locs cells slots ⟨hR, hL, hls, hst.2.2, hlo⟩ (fun _ _ _ => rfl) rfl rfl
  refine lv_icmp_lt X.1 X.2.1 hd (jm_inv ht) (fun h => ?_) (fun h => ?_)
  · rw [show (y, (if hc .lt x1 x0 = true then t else pc + 3), ls, r1, m) = (y, t, ls, r1, m) by rw [if_pos (by simp [hc, h])]] at K1; exact K1
  · rw [show (y, (if hc .lt x1 x0 = true then t else pc + 3), ls, r1, m) = (y, pc + 3, ls, r1, m) by rw [if_neg (by simp [hc, h])]] at K1; exact K1
theorem z_if_lt {off : Int} (X : CX P p R s mm args meth c y) (hd : decode (mt y).2.1 pc = .ok (.ifCond .lt off, 3)) (hx : xi (.ifCond .lt off) y pc ls st m = some (.inl c')) (hS : SS P ρ m H ls lsA (mt y).2.2.2.1 st locs) (K : KT P p l e R s mm args below meth c Q ρ m cells slots c') :
    W p l e R s mm args below meth c H locs cells slots Q (F0 mm pc lsA (st.map (cv ρ))) := by
  obtain ⟨x0, r0, rfl, hx⟩ := pI_inv hx
  obtain ⟨t, ht, hx⟩ := Option.bind_eq_some_iff.mp hx
  obtain rfl := Sum.inl.inj (Option.some.inj hx)
  obtain ⟨hR, hL, hls, hst, hlo⟩ := hS
  have K1 := K ρ H lsA locs cells slots ⟨hR, hL, hls, hst.2, hlo⟩ (fun _ _ _ => rfl) rfl rfl
  refine lv_if_lt X.1 X.2.1 hd (jm_inv ht) (fun h => ?_) (fun h => ?_)
  · rw [show (y, (if hc .lt x0 0 = true then t else pc + 3), ls, r0, m) = (y, t, ls, r0, m) by rw [if_pos (by simp [hc, h])]] at K1; exact K1
  · rw [show (y, (if hc .lt x0 0 = true then t else pc + 3), ls, r0, m) = (y, pc + 3, ls, r0, m) by rw [if_neg (by simp [hc, h])]] at K1; exact K1
theorem z_icmp_ge {off : Int} (X : CX P p R s mm args meth c y) (hd : decode (mt y).2.1 pc = .ok (.if_icmp .ge off, 3)) (hx : xi (.if_icmp .ge off) y pc ls st m = some (.inl c')) (hS : SS P ρ m H ls lsA (mt y).2.2.2.1 st locs) (K : KT P p l e R s mm args below meth c Q ρ m cells slots c') :
    W p l e R s mm args below meth c H locs cells slots Q (F0 mm pc lsA (st.map (cv ρ))) := by
  obtain ⟨x0, r0, rfl, hx⟩ := pI_inv hx
  obtain ⟨x1, r1, rfl, hx⟩ := pI_inv hx
  obtain ⟨t, ht, hx⟩ := Option.bind_eq_some_iff.mp hx
  obtain rfl := Sum.inl.inj (Option.some.inj hx)
  obtain ⟨hR, hL, hls, hst, hlo⟩ := hS
  have K1 := K ρ H lsA locs cells slots ⟨hR, hL, hls, hst.2.2, hlo⟩ (fun _ _ _ => rfl) rfl rfl
  refine lv_icmp_ge X.1 X.2.1 hd (jm_inv ht) (fun h => ?_) (fun h => ?_)
  · rw [show (y, (if hc .ge x1 x0 = true then t else pc + 3), ls, r1, m) = (y, t, ls, r1, m) by rw [if_pos (by simp [hc, h])]] at K1; exact K1
  · rw [show (y, (if hc .ge x1 x0 = true then t else pc + 3), ls, r1, m) = (y, pc + 3, ls, r1, m) by rw [if_neg (by simp [hc, h])]] at K1; exact K1
theorem z_if_ge {off : Int} (X : CX P p R s mm args meth c y) (hd : decode (mt y).2.1 pc = .ok (.ifCond .ge off, 3)) (hx : xi (.ifCond .ge off) y pc ls st m = some (.inl c')) (hS : SS P ρ m H ls lsA (mt y).2.2.2.1 st locs) (K : KT P p l e R s mm args below meth c Q ρ m cells slots c') :
    W p l e R s mm args below meth c H locs cells slots Q (F0 mm pc lsA (st.map (cv ρ))) := by
  obtain ⟨x0, r0, rfl, hx⟩ := pI_inv hx
  obtain ⟨t, ht, hx⟩ := Option.bind_eq_some_iff.mp hx
  obtain rfl := Sum.inl.inj (Option.some.inj hx)
  obtain ⟨hR, hL, hls, hst, hlo⟩ := hS
  have K1 := K ρ H lsA locs cells slots ⟨hR, hL, hls, hst.2, hlo⟩ (fun _ _ _ => rfl) rfl rfl
  refine lv_if_ge X.1 X.2.1 hd (jm_inv ht) (fun h => ?_) (fun h => ?_)
  · rw [show (y, (if hc .ge x0 0 = true then t else pc + 3), ls, r0, m) = (y, t, ls, r0, m) by rw [if_pos (by simp [hc, h])]] at K1; exact K1
  · rw [show (y, (if hc .ge x0 0 = true then t else pc + 3), ls, r0, m) = (y, pc + 3, ls, r0, m) by rw [if_neg (by simp [hc, h])]] at K1; exact K1
theorem z_icmp_gt {off : Int} (X : CX P p R s mm args meth c y) (hd : decode (mt y).2.1 pc = .ok (.if_icmp .gt off, 3)) (hx : xi (.if_icmp .gt off) y pc ls st m = some (.inl c')) (hS : SS P ρ m H ls lsA (mt y).2.2.2.1 st locs) (K : KT P p l e R s mm args below meth c Q ρ m cells slots c') :
    W p l e R s mm args below meth c H locs cells slots Q (F0 mm pc lsA (st.map (cv ρ))) := by
  obtain ⟨x0, r0, rfl, hx⟩ := pI_inv hx
  obtain ⟨x1, r1, rfl, hx⟩ := pI_inv hx
  obtain ⟨t, ht, hx⟩ := Option.bind_eq_some_iff.mp hx
  obtain rfl := Sum.inl.inj (Option.some.inj hx)
  obtain ⟨hR, hL, hls, hst, hlo⟩ := hS
  have K1 := K ρ H lsA locs cells slots ⟨hR, hL, hls, hst.2.2, hlo⟩ (fun _ _ _ => rfl) rfl rfl
  refine lv_icmp_gt X.1 X.2.1 hd (jm_inv ht) (fun h => ?_) (fun h => ?_)
  · rw [show (y, (if hc .gt x1 x0 = true then t else pc + 3), ls, r1, m) = (y, t, ls, r1, m) by rw [if_pos (by simp [hc, h])]] at K1; exact K1
  · rw [show (y, (if hc .gt x1 x0 = true then t else pc + 3), ls, r1, m) = (y, pc + 3, ls, r1, m) by rw [if_neg (by simp [hc, h])]] at K1; exact K1
theorem z_if_gt {off : Int} (X : CX P p R s mm args meth c y) (hd : decode (mt y).2.1 pc = .ok (.ifCond .gt off, 3)) (hx : xi (.ifCond .gt off) y pc ls st m = some (.inl c')) (hS : SS P ρ m H ls lsA (mt y).2.2.2.1 st locs) (K : KT P p l e R s mm args below meth c Q ρ m cells slots c') :
    W p l e R s mm args below meth c H locs cells slots Q (F0 mm pc lsA (st.map (cv ρ))) := by
  obtain ⟨x0, r0, rfl, hx⟩ := pI_inv hx
  obtain ⟨t, ht, hx⟩ := Option.bind_eq_some_iff.mp hx
  obtain rfl := Sum.inl.inj (Option.some.inj hx)
  obtain ⟨hR, hL, hls, hst, hlo⟩ := hS
  have K1 := K ρ H lsA locs cells slots ⟨hR, hL, hls, hst.2, hlo⟩ (fun _ _ _ => rfl) rfl rfl
  refine lv_if_gt X.1 X.2.1 hd (jm_inv ht) (fun h => ?_) (fun h => ?_)
  · rw [show (y, (if hc .gt x0 0 = true then t else pc + 3), ls, r0, m) = (y, t, ls, r0, m) by rw [if_pos (by simp [hc, h])]] at K1; exact K1
  · rw [show (y, (if hc .gt x0 0 = true then t else pc + 3), ls, r0, m) = (y, pc + 3, ls, r0, m) by rw [if_neg (by simp [hc, h])]] at K1; exact K1
theorem z_icmp_le {off : Int} (X : CX P p R s mm args meth c y) (hd : decode (mt y).2.1 pc = .ok (.if_icmp .le off, 3)) (hx : xi (.if_icmp .le off) y pc ls st m = some (.inl c')) (hS : SS P ρ m H ls lsA (mt y).2.2.2.1 st locs) (K : KT P p l e R s mm args below meth c Q ρ m cells slots c') :
    W p l e R s mm args below meth c H locs cells slots Q (F0 mm pc lsA (st.map (cv ρ))) := by
  obtain ⟨x0, r0, rfl, hx⟩ := pI_inv hx
  obtain ⟨x1, r1, rfl, hx⟩ := pI_inv hx
  obtain ⟨t, ht, hx⟩ := Option.bind_eq_some_iff.mp hx
  obtain rfl := Sum.inl.inj (Option.some.inj hx)
  obtain ⟨hR, hL, hls, hst, hlo⟩ := hS
  have K1 := K ρ H lsA locs cells slots ⟨hR, hL, hls, hst.2.2, hlo⟩ (fun _ _ _ => rfl) rfl rfl
  refine lv_icmp_le X.1 X.2.1 hd (jm_inv ht) (fun h => ?_) (fun h => ?_)
  · rw [show (y, (if hc .le x1 x0 = true then t else pc + 3), ls, r1, m) = (y, t, ls, r1, m) by rw [if_pos (by simp [hc, h])]] at K1; exact K1
  · rw [show (y, (if hc .le x1 x0 = true then t else pc + 3), ls, r1, m) = (y, pc + 3, ls, r1, m) by rw [if_neg (by simp [hc, h])]] at K1; exact K1
theorem z_if_le {off : Int} (X : CX P p R s mm args meth c y) (hd : decode (mt y).2.1 pc = .ok (.ifCond .le off, 3)) (hx : xi (.ifCond .le off) y pc ls st m = some (.inl c')) (hS : SS P ρ m H ls lsA (mt y).2.2.2.1 st locs) (K : KT P p l e R s mm args below meth c Q ρ m cells slots c') :
    W p l e R s mm args below meth c H locs cells slots Q (F0 mm pc lsA (st.map (cv ρ))) := by
  obtain ⟨x0, r0, rfl, hx⟩ := pI_inv hx
  obtain ⟨t, ht, hx⟩ := Option.bind_eq_some_iff.mp hx
  obtain rfl := Sum.inl.inj (Option.some.inj hx)
  obtain ⟨hR, hL, hls, hst, hlo⟩ := hS
  have K1 := K ρ H lsA locs cells slots ⟨hR, hL, hls, hst.2, hlo⟩ (fun _ _ _ => rfl) rfl rfl
  refine lv_if_le X.1 X.2.1 hd (jm_inv ht) (fun h => ?_) (fun h => ?_)
  · rw [show (y, (if hc .le x0 0 = true then t else pc + 3), ls, r0, m) = (y, t, ls, r0, m) by rw [if_pos (by simp [hc, h])]] at K1; exact K1
  · rw [show (y, (if hc .le x0 0 = true then t else pc + 3), ls, r0, m) = (y, pc + 3, ls, r0, m) by rw [if_neg (by simp [hc, h])]] at K1; exact K1
theorem z_ifnull {off : Int} (X : CX P p R s mm args meth c y) (hd : decode (mt y).2.1 pc = .ok (.ifnull off, 3)) (hx : xi (.ifnull off) y pc ls st m = some (.inl c')) (hS : SS P ρ m H ls lsA (mt y).2.2.2.1 st locs) (K : KT P p l e R s mm args below meth c Q ρ m cells slots c') :
    W p l e R s mm args below meth c H locs cells slots Q (F0 mm pc lsA (st.map (cv ρ))) := by
  simp only [xi] at hx
  obtain ⟨t0, o0, r0, rfl, hx⟩ := pR_inv hx
  obtain ⟨t, ht, hx⟩ := Option.bind_eq_some_iff.mp hx
  obtain rfl := Sum.inl.inj (Option.some.inj hx)
  obtain ⟨hR, hL, hls, hst, hlo⟩ := hS
  have K1 := K ρ H lsA locs cells slots ⟨hR, hL, hls, hst.2, hlo⟩ (fun _ _ _ => rfl) rfl rfl
  cases o0 with
  | none => exact lv_ifnullN X.1 X.2.1 hd (jm_inv ht) K1
  | some n => exact lv_ifnull X.1 X.2.1 hd K1
theorem z_ifnonnull {off : Int} (X : CX P p R s mm args meth c y) (hd : decode (mt y).2.1 pc = .ok (.ifnonnull off, 3)) (hx : xi (.ifnonnull off) y pc ls st m = some (.inl c')) (hS : SS P ρ m H ls lsA (mt y).2.2.2.1 st locs) (K : KT P p l e R s mm args below meth c Q ρ m cells slots c') :
    W p l e R s mm args below meth c H locs cells slots Q (F0 mm pc lsA (st.map (cv ρ))) := by
  simp only [xi] at hx
  obtain ⟨t0, o0, r0, rfl, hx⟩ := pR_inv hx
  obtain ⟨t, ht, hx⟩ := Option.bind_eq_some_iff.mp hx
  obtain rfl := Sum.inl.inj (Option.some.inj hx)
  obtain ⟨hR, hL, hls, hst, hlo⟩ := hS
  have K1 := K ρ H lsA locs cells slots ⟨hR, hL, hls, hst.2, hlo⟩ (fun _ _ _ => rfl) rfl rfl
  cases o0 with
  | none => exact lv_ifnonnullN X.1 X.2.1 hd K1
  | some n => exact lv_ifnonnull X.1 X.2.1 hd (jm_inv ht) K1
theorem ra_iff {P : PP} {ρ : AM} {m : MM} {H : Heap} (hR : Rl P ρ m H) {t1 t2 : Nat} {o1 o2 : Option Nat} (h1 : lvq m (.inr (.inr (t1, o1)))) (h2 : lvq m (.inr (.inr (t2, o2)))) : ra (t1, o1) (t2, o2) = true ↔ o1.map (ρ t1) = o2.map (ρ t2) := by
  cases o1 with
  | none => cases o2 with
    | none => simp [ra]
    | some b => simp [ra]
  | some a => cases o2 with
    | none => simp [ra]
    | some b =>
      simp only [ra, decide_eq_true_eq, Option.map_some, Option.some.injEq]
      exact ⟨fun q => by rw [q.1, q.2], fun q => hR.2.1 t1 a t2 b h1 h2 q⟩
theorem cv_rf (ρ : AM) (t : Nat) (o : Option Nat) : cv ρ (.inr (.inr (t, o))) = va_rf (o.map (ρ t)) := by
  cases o <;> rfl
theorem z_acmp_eq {off : Int} (X : CX P p R s mm args meth c y) (hd : decode (mt y).2.1 pc = .ok (.if_acmp .eq off, 3)) (hx : xi (.if_acmp .eq off) y pc ls st m = some (.inl c')) (hS : SS P ρ m H ls lsA (mt y).2.2.2.1 st locs) (K : KT P p l e R s mm args below meth c Q ρ m cells slots c') :
    W p l e R s mm args below meth c H locs cells slots Q (F0 mm pc lsA (st.map (cv ρ))) := by
  simp only [xi] at hx
  obtain ⟨t0, o0, r0, h9, hy⟩ := pR_inv hx
  clear hx
  subst h9
  obtain ⟨t1, o1, r1, h8, hx⟩ := pR_inv hy
  clear hy
  subst h8
  obtain ⟨t, ht, hx⟩ := Option.bind_eq_some_iff.mp hx
  obtain rfl := Sum.inl.inj (Option.some.inj hx)
  obtain ⟨hR, hL, hls, hst, hlo⟩ := hS
  have K1 := K ρ H lsA locs cells slots ⟨hR, hL, hls, hst.2.2, hlo⟩ (fun _ _ _ => rfl) rfl rfl
  have hq := ra_iff hR hst.2.1 hst.1
  show W p l e R s mm args below meth c H locs cells slots Q (F0 mm pc lsA (cv ρ (.inr (.inr (t0, o0))) :: cv ρ (.inr (.inr (t1, o1))) :: r1.map (cv ρ)))
  rw [cv_rf, cv_rf]
  refine lv_acmp_eq X.1 X.2.1 hd (jm_inv ht) (fun h => ?_) (fun h => ?_)
  · rw [show (y, (if ra (t1, o1) (t0, o0) = true then t else pc + 3), ls, r1, m) = (y, t, ls, r1, m) by rw [if_pos (hq.mpr h)]] at K1; exact K1
  · rw [show (y, (if ra (t1, o1) (t0, o0) = true then t else pc + 3), ls, r1, m) = (y, pc + 3, ls, r1, m) by rw [if_neg (fun z => h (hq.mp z))]] at K1; exact K1
theorem z_acmp_ne {off : Int} (X : CX P p R s mm args meth c y) (hd : decode (mt y).2.1 pc = .ok (.if_acmp .ne off, 3)) (hx : xi (.if_acmp .ne off) y pc ls st m = some (.inl c')) (hS : SS P ρ m H ls lsA (mt y).2.2.2.1 st locs) (K : KT P p l e R s mm args below meth c Q ρ m cells slots c') :
    W p l e R s mm args below meth c H locs cells slots Q (F0 mm pc lsA (st.map (cv ρ))) := by
  simp only [xi] at hx
  obtain ⟨t0, o0, r0, h9, hy⟩ := pR_inv hx
  clear hx
  subst h9
  obtain ⟨t1, o1, r1, h8, hx⟩ := pR_inv hy
  clear hy
  subst h8
  obtain ⟨t, ht, hx⟩ := Option.bind_eq_some_iff.mp hx
  obtain rfl := Sum.inl.inj (Option.some.inj hx)
  obtain ⟨hR, hL, hls, hst, hlo⟩ := hS
  have K1 := K ρ H lsA locs cells slots ⟨hR, hL, hls, hst.2.2, hlo⟩ (fun _ _ _ => rfl) rfl rfl
  have hq := ra_iff hR hst.2.1 hst.1
  show W p l e R s mm args below meth c H locs cells slots Q (F0 mm pc lsA (cv ρ (.inr (.inr (t0, o0))) :: cv ρ (.inr (.inr (t1, o1))) :: r1.map (cv ρ)))
  rw [cv_rf, cv_rf]
  refine lv_acmp_ne X.1 X.2.1 hd (jm_inv ht) (fun h => ?_) (fun h => ?_)
  · rw [show (y, (if ra (t1, o1) (t0, o0) = true then pc + 3 else t), ls, r1, m) = (y, t, ls, r1, m) by rw [if_neg (fun z => h (hq.mp z))]] at K1; exact K1
  · rw [show (y, (if ra (t1, o1) (t0, o0) = true then pc + 3 else t), ls, r1, m) = (y, pc + 3, ls, r1, m) by rw [if_pos (hq.mpr h)]] at K1; exact K1
theorem z_tsw {n : Nat} {d lo hi : Int} {offs : Array Int} (X : CX P p R s mm args meth c y) (hd : decode (mt y).2.1 pc = .ok (.tableswitch d lo hi offs, n)) (hx : xi (.tableswitch d lo hi offs) y pc ls st m = some (.inl c')) (hS : SS P ρ m H ls lsA (mt y).2.2.2.1 st locs) (K : KT P p l e R s mm args below meth c Q ρ m cells slots c') :
    W p l e R s mm args below meth c H locs cells slots Q (F0 mm pc lsA (st.map (cv ρ))) := by
  obtain ⟨x0, r0, rfl, hx⟩ := pI_inv hx
  obtain ⟨t, ht, hx⟩ := Option.bind_eq_some_iff.mp hx
  obtain ⟨hk, hx⟩ := if_inv hx
  obtain rfl := Sum.inl.inj (Option.some.inj hx)
  obtain ⟨hR, hL, hls, hst, hlo⟩ := hS
  have K1 := K ρ H lsA locs cells slots ⟨hR, hL, hls, hst.2, hlo⟩ (fun _ _ _ => rfl) rfl rfl
  by_cases ho : x0.toInt < lo ∨ hi < x0.toInt
  · rw [if_pos ho] at ht; exact lv_tableOut X.1 X.2.1 hd ho (jm_inv ht) K1
  · rw [if_neg ho] at ht
    have hsz : (x0.toInt - lo).toNat < offs.size := by omega
    refine lv_tableIn X.1 X.2.1 hd (fun q => ho (Or.inl q)) (fun q => ho (Or.inr q)) (off := offs.getD (x0.toInt - lo).toNat 0) ?_ (jm_inv ht) K1
    rw [Array.getElem?_eq_getElem hsz]
    simp [Array.getD, hsz]
theorem ob_get {P : PP} {ρ : AM} {m : MM} {H : Heap} (hR : Rl P ρ m H) {t n : Nat} (h1 : 1 ≤ t) (h2 : t ≤ 8) (hn : n < mC m t) : t_OB (ρ t n) ((qD P).1 (t - 1)) (NN (t - 1)) ((qD P).2 (t - 1)) H (fun k => cv ρ (xg m t n k)) := by
  have h := hR.1 t n h1 hn
  unfold ce at h
  rw [ek_obj t h1 h2] at h
  exact h
theorem ar_get {P : PP} {ρ : AM} {m : MM} {H : Heap} (hR : Rl P ρ m H) {t n e : Nat} (h1 : 1 ≤ t) (hn : n < mC m t) (he : ek t = some e) : H[ρ t n]? = some (arrV (qA P e) (mN m t n) (fun j => cv ρ (xg m t n j))) := by
  have h := hR.1 t n h1 hn
  unfold ce at h
  rw [he] at h
  exact h
theorem xg_arr {m : MM} {t n j e : Nat} (he : ek t = some e) : xg m t n j = xc m t n j e := by
  unfold xg tk
  rw [he]
theorem z_getfield {k : Nat} (X : CX P p R s mm args meth c y) (hd : decode (mt y).2.1 pc = .ok (.getfield k, 3)) (hx : xi (.getfield k) y pc ls st m = some (.inl c')) (hS : SS P ρ m H ls lsA (mt y).2.2.2.1 st locs) (K : KT P p l e R s mm args below meth c Q ρ m cells slots c') :
    W p l e R s mm args below meth c H locs cells slots Q (F0 mm pc lsA (st.map (cv ρ))) := by
  obtain ⟨t0, n0, r0, rfl, hx⟩ := pA_inv hx
  obtain ⟨q, hq, hx⟩ := Option.bind_eq_some_iff.mp hx
  obtain ⟨hk, hx⟩ := if_inv hx
  obtain rfl := Sum.inl.inj (Option.some.inj hx)
  obtain ⟨hR, hL, hls, hst, hlo⟩ := hS
  subst hk
  obtain ⟨g1, g2, g3⟩ := vF_ok _ (lk_mem hq)
  simp only at g1 g2 g3
  have hc : q.1 - 1 < 8 := by omega
  obtain ⟨hSl, hfc, kC, hkC, hkind⟩ := X.2.2.2.2.2.2.2.2.1.1 (q.1 - 1) hc
  obtain ⟨cf, kf, fi, f, hi, hsl⟩ := hSl q.2 g3
  obtain ⟨cell, q1, q2, q3, q4⟩ := ob_get hR g1 g2 hst.1
  have hlink := X.2.2.2.2.2.2.2.1 _ (gw_F (lk_mem hq))
  have hrf := TT_own (q.1 - 1) hc q.2 g3
  rw [hrf] at hi
  refine W.getf X.1 X.2.1 X.2.2.2.2.2.2.1 hlink hi (u_facts hfc hkC (u_lays X.2.2.2.2.2.2.2.1 (u_ws_gw hc) g3) (by rw [hrf]; exact hi)).1 q1 (by rw [q3]; exact fun h => by cases h) (v := cv ρ (xg m q.1 n0 q.2)) (by rw [hsl]; exact q4 q.2 g3) rfl rfl hd ?_
  exact K ρ H lsA locs cells slots ⟨hR, hL, hls, ⟨hR.2.2.2.2.2 q.1 n0 q.2 g1 hst.1, hst.2⟩, hlo⟩ (fun _ _ _ => rfl) rfl rfl
theorem z_putfield {k : Nat} (X : CX P p R s mm args meth c y) (hd : decode (mt y).2.1 pc = .ok (.putfield k, 3)) (hx : xi (.putfield k) y pc ls st m = some (.inl c')) (hS : SS P ρ m H ls lsA (mt y).2.2.2.1 st locs) (K : KT P p l e R s mm args below meth c Q ρ m cells slots c') :
    W p l e R s mm args below meth c H locs cells slots Q (F0 mm pc lsA (st.map (cv ρ))) := by
  obtain ⟨v, r0, rfl, hx⟩ := pop_inv hx
  obtain ⟨t0, n0, r1, rfl, hx⟩ := pA_inv hx
  obtain ⟨q, hq, hx⟩ := Option.bind_eq_some_iff.mp hx
  obtain ⟨⟨hk, hf, hfin⟩, hx⟩ := if_inv hx
  obtain rfl := Sum.inl.inj (Option.some.inj hx)
  obtain ⟨hR, hL, hls, hst, hlo⟩ := hS
  subst hk
  obtain ⟨g1, g2, g3⟩ := vF_ok _ (lk_mem hq)
  simp only at g1 g2 g3
  have hc : q.1 - 1 < 8 := by omega
  have hn : n0 < mC m q.1 := hst.2.1
  have hKn := X.2.2.2.2.2.2.2.2.1.1 (q.1 - 1) hc
  obtain ⟨hSl, hfc, kC, hkC, hkind⟩ := hKn
  obtain ⟨cf, kf, fi, f, hi, hsl⟩ := hSl q.2 g3
  obtain ⟨cell, q1, q2, q3, q4⟩ := ob_get hR g1 g2 hn
  have hts := X.2.2.2.2.2.2.2.1
  have hlink := hts _ (gw_F (lk_mem hq))
  have hrf := TT_own (q.1 - 1) hc q.2 g3
  have hi0 := hi
  rw [hrf] at hi
  have hst0 := (u_facts hfc hkC (u_lays hts (u_ws_gw hc) g3) hi0).1
  have hfo := fo_ok (q.1 - 1) hc q.2 g3
  rw [show q.1 - 1 + 1 = q.1 by omega, ← tk_obj g1 g2] at hfo
  obtain ⟨hnar, hfit⟩ := fo_fits ρ hfo hf
  have hd0 := tyT_ok (q.1 - 1) hc q.2 g3
  have hfits := u_fits hfc hkC hkind (u_lays hts (u_ws_gw hc) g3) hi0 hd0 hnar hfit
  have hap : ∀ a b, a < NN (q.1 - 1) → b < NN (q.1 - 1) → a ≠ b → (qD P).2 (q.1 - 1) a ≠ (qD P).2 (q.1 - 1) b := by
    intro a b ha hb hne
    obtain ⟨_, _, _, fa, hia, ea⟩ := hSl a ha
    obtain ⟨_, _, _, fb, hib, eb⟩ := hSl b hb
    rw [← ea, ← eb]
    refine u_apart (u_lays hts (u_ws_gw hc) ha) (u_lays hts (u_ws_gw hc) hb) hia hib ?_
    rw [(State.fieldFound?_type hia (tyT_ok _ hc a ha)).1, (State.fieldFound?_type hib (tyT_ok _ hc b hb)).1]
    exact nmT _ hc a ha b hb hne
  have hKK : ∀ H1 : Heap, H1[ρ q.1 n0]? = some (cell.setSlot f.slot (cv ρ v)) → H1.size = H.size → (∀ a, a ≠ ρ q.1 n0 → H1[a]? = H[a]?) → W p l e R s mm args below meth c H1 (locs ++ [⟨ρ q.1 n0, f.slot⟩]) cells slots Q (F0 mm (pc + 3) lsA (r1.map (cv ρ))) := by
    intro H1 e1 e2 e3
    have hcell : ce P ρ (wr m q.1 n0 q.2 v) q.1 n0 H1 := by
      unfold ce
      rw [ek_obj q.1 g1 g2]
      rw [hsl] at e1
      refine t_OB.to (V := updV (fun k => cv ρ (xg m q.1 n0 k)) q.2 (cv ρ v)) ⟨_, e1, q2, q3, t_set q4 hap g3 (cv ρ v)⟩ (fun j hj => ?_)
      by_cases e : j = q.2
      · subst e; simp only [updV, if_pos]; exact ((xg_wr_eq ρ hf).1).symm
      · simp only [updV, if_neg e]; rw [xg_wr_ne (fun z => e z.2.2)]
    have hR1 := rl_wr hR g1 hn hf hst.1 hcell e2 e3
    refine K ρ H1 lsA (locs ++ [⟨ρ q.1 n0, f.slot⟩]) cells slots ⟨hR1, hL, fun j w hj => lvq_wr (hls j w hj), la_le (fun r => by rw [mC_wr]; exact Nat.le_refl _) hst.2.2, fun z hz => ?_⟩ (fun _ _ _ => rfl) (by rw [mT_wr]) (by rw [mS_wr])
    rcases List.mem_append.mp hz with hz | hz
    · exact hlo z hz
    · rw [List.mem_singleton.mp hz]; exact hR.2.2.1 q.1 n0 g1 hn
  have hlt : f.slot < cell.slots.size := by rw [hsl]; exact k2_hasslot (q4 q.2 g3)
  by_cases hfb : (TT (q.1 - 1) q.2).2.2.2 = false
  · have hlay := hts _ (u_ws_gw hc _ (u_in_lay g3))
    unfold u_lay at hlay
    rw [if_neg (by rw [hfb]; decide)] at hlay
    have h6 := u_store hfc hkC hkind hlay hi0 hd0 hnar hfit
    exact W.putK X.1 X.2.1 (f := f) ⟨X.2.2.2.2.2.2.1, hlink, ⟨_, _, _, hi⟩, hst0⟩ (by rw [q2]; exact h6) q1 q3 hlt rfl rfl hd hKK
  · have hfb2 : (TT (q.1 - 1) q.2).2.2.2 = true := by simpa using hfb
    obtain ⟨hin, hcl⟩ := hfin.resolve_left hfb
    have hlay := hts _ (u_ws_gw hc _ (u_in_lay g3))
    unfold u_lay at hlay
    rw [if_pos hfb2] at hlay
    have hcf : mm.cls = cf := by
      obtain ⟨_, _, c2, _, _, _, -, -, hf2, -, -, -, hown2, -⟩ := Cond.laysFinal_spec hlay
      have e1 : c2 = cf := by have := hi0.symm.trans hf2; simp at this; exact this.1.symm
      rw [hrf, ← hcl] at hown2
      rw [← e1]; exact Option.some.inj (X.2.2.2.2.2.2.1.symm.trans hown2)
    exact W.putFinK X.1 X.2.1 X.2.2.2.2.2.2.1 hlink hi hst0 hcf (X.2.2.2.2.2.1 hin) (by rw [q2]; exact hfits) q1 q3 hlt rfl rfl hd hKK
theorem vp_in_sz {cA : ClassId} {N : Nat} {f : Nat → Value} {i : Int32} (h : ¬ (i < 0 ∨ N ≤ i.toNatClampNeg)) : ¬ (i < 0 ∨ (arrV cA N f).slots.size ≤ i.toNatClampNeg) := by rw [arrV_size]; exact h
theorem ek_tys : ∀ t e, ek t = some e → e ∈ [0, 1, 2, 3, 5, 8, 10] := by
  intro t e h
  by_cases ht : t < 52
  · have := (by decide +kernel : ∀ t, t < 52 → ∀ e, ek t = some e → e ∈ [0, 1, 2, 3, 5, 8, 10])
    exact this t ht e h
  · have : ek t = none := by
      unfold ek
      rw [List.getD_eq_getElem?_getD, List.getElem?_eq_none (by show 52 ≤ t; omega)]
      rfl
    rw [this] at h; cases h
theorem z_alen (X : CX P p R s mm args meth c y) (hd : decode (mt y).2.1 pc = .ok (.arraylength, 1)) (hx : xi (.arraylength) y pc ls st m = some (.inl c')) (hS : SS P ρ m H ls lsA (mt y).2.2.2.1 st locs) (K : KT P p l e R s mm args below meth c Q ρ m cells slots c') :
    W p l e R s mm args below meth c H locs cells slots Q (F0 mm pc lsA (st.map (cv ρ))) := by
  obtain ⟨t0, n0, r0, rfl, hx⟩ := pA_inv hx
  obtain ⟨hk, hx⟩ := if_inv hx
  obtain rfl := Sum.inl.inj (Option.some.inj hx)
  obtain ⟨hR, hL, hls, hst, hlo⟩ := hS
  obtain ⟨e, he⟩ := Option.isSome_iff_exists.mp hk
  by_cases h0 : t0 = 0
  · subst h0
    obtain ⟨scr, w1, w2, w3, w4, w5⟩ := X.2.2.2.2.2.2.2.2.1.2.2.2.2
    obtain ⟨b1, b2, b3, b4, b5⟩ := hR.2.2.2.2.1
    have hn0 : n0 = 0 := by have : n0 < mC m 0 := hst.1; omega
    subst hn0
    have hh : H[ρ 0 0]? = some scr := by rw [b2, hR.2.2.2.1.2 _ b1]; exact w1
    refine W.alen (n := Int32.ofNat (mN m 0 0)) X.1 X.2.1 hh w2 (by rw [w4, b4] <;> rfl) rfl rfl hd ?_
    exact K ρ H lsA locs cells slots ⟨hR, hL, hls, ⟨trivial, hst.2⟩, hlo⟩ (fun _ _ _ => rfl) rfl rfl
  · refine W.alen (n := Int32.ofNat (mN m t0 n0)) X.1 X.2.1 (ar_get hR (by omega) hst.1 he) ((X.2.2.2.2.2.2.2.2.1.2.1 e (ek_tys t0 e he)).1 _ _) (by rw [arrV_size] <;> rfl) rfl rfl hd ?_
    exact K ρ H lsA locs cells slots ⟨hR, hL, hls, ⟨trivial, hst.2⟩, hlo⟩ (fun _ _ _ => rfl) rfl rfl
theorem z_iaload (X : CX P p R s mm args meth c y) (hd : decode (mt y).2.1 pc = .ok (.iaload, 1)) (hx : xi (.iaload) y pc ls st m = some (.inl c')) (hS : SS P ρ m H ls lsA (mt y).2.2.2.1 st locs) (K : KT P p l e R s mm args below meth c Q ρ m cells slots c') :
    W p l e R s mm args below meth c H locs cells slots Q (F0 mm pc lsA (st.map (cv ρ))) := by
  obtain ⟨x0, r0, rfl, hx⟩ := pI_inv hx
  obtain ⟨t1, n1, r1, rfl, hx⟩ := pA_inv hx
  obtain ⟨j, hj, hx⟩ := Option.bind_eq_some_iff.mp hx
  obtain ⟨he, hx⟩ := if_inv hx
  obtain rfl := Sum.inl.inj (Option.some.inj hx)
  obtain ⟨hR, hL, hls, hst, hlo⟩ := hS
  obtain ⟨j1, rfl, j3⟩ := ix_inv hj
  by_cases h0 : t1 = 0
  · subst h0
    obtain ⟨scr, w1, w2, w3, w4, w5⟩ := X.2.2.2.2.2.2.2.2.1.2.2.2.2
    obtain ⟨b1, b2, b3, b4, b5⟩ := hR.2.2.2.2.1
    have hn0 : n1 = 0 := by have : n1 < mC m 0 := hst.2.1; omega
    subst hn0
    have hh : H[ρ 0 0]? = some scr := by rw [b2, hR.2.2.2.1.2 _ b1]; exact w1
    refine W.iald (v := .int (mI m 0 0 x0.toNatClampNeg)) X.1 X.2.1 hh w2 w3 (by rw [w4, ← b4]; exact j1) (by rw [b5 _ (by omega)]; exact w5 _ (by omega)) rfl rfl hd ?_
    exact K ρ H lsA locs cells slots ⟨hR, hL, hls, ⟨trivial, hst.2.2⟩, hlo⟩ (fun _ _ _ => rfl) rfl rfl
  · refine W.iald (v := .int (mI m t1 n1 x0.toNatClampNeg)) X.1 X.2.1 (ar_get hR (by omega) hst.2.1 he) ((X.2.2.2.2.2.2.2.2.1.2.1 0 (by simp)).1 _ _) (fun q => by cases q) (vp_in_sz j1) (by rw [arrV_read _ _ j3, xg_arr he]; rfl) rfl rfl hd ?_
    exact K ρ H lsA locs cells slots ⟨hR, hL, hls, ⟨trivial, hst.2.2⟩, hlo⟩ (fun _ _ _ => rfl) rfl rfl
theorem z_baload (X : CX P p R s mm args meth c y) (hd : decode (mt y).2.1 pc = .ok (.baload, 1)) (hx : xi (.baload) y pc ls st m = some (.inl c')) (hS : SS P ρ m H ls lsA (mt y).2.2.2.1 st locs) (K : KT P p l e R s mm args below meth c Q ρ m cells slots c') :
    W p l e R s mm args below meth c H locs cells slots Q (F0 mm pc lsA (st.map (cv ρ))) := by
  obtain ⟨x0, r0, rfl, hx⟩ := pI_inv hx
  obtain ⟨t1, n1, r1, rfl, hx⟩ := pA_inv hx
  obtain ⟨j, hj, hx⟩ := Option.bind_eq_some_iff.mp hx
  obtain ⟨he, hx⟩ := if_inv hx
  obtain rfl := Sum.inl.inj (Option.some.inj hx)
  obtain ⟨hR, hL, hls, hst, hlo⟩ := hS
  obtain ⟨j1, rfl, j3⟩ := ix_inv hj
  have h0 : t1 ≠ 0 := fun z => by subst z; rcases he with he | he <;> cases he
  rcases he with he | he
  · refine W.zald (v := .int (mI m t1 n1 x0.toNatClampNeg)) X.1 X.2.1 (ar_get hR (by omega) hst.2.1 he) ((X.2.2.2.2.2.2.2.2.1.2.1 1 (by simp)).1 _ _) (fun q => by cases q) (vp_in_sz j1) (by rw [arrV_read _ _ j3, xg_arr he]; rfl) rfl rfl hd ?_
    exact K ρ H lsA locs cells slots ⟨hR, hL, hls, ⟨trivial, hst.2.2⟩, hlo⟩ (fun _ _ _ => rfl) rfl rfl
  · refine W.bald (v := .int (mI m t1 n1 x0.toNatClampNeg)) X.1 X.2.1 (ar_get hR (by omega) hst.2.1 he) ((X.2.2.2.2.2.2.2.2.1.2.1 2 (by simp)).1 _ _) (fun q => by cases q) (vp_in_sz j1) (by rw [arrV_read _ _ j3, xg_arr he]; rfl) rfl rfl hd ?_
    exact K ρ H lsA locs cells slots ⟨hR, hL, hls, ⟨trivial, hst.2.2⟩, hlo⟩ (fun _ _ _ => rfl) rfl rfl
theorem z_laload (X : CX P p R s mm args meth c y) (hd : decode (mt y).2.1 pc = .ok (.laload, 1)) (hx : xi (.laload) y pc ls st m = some (.inl c')) (hS : SS P ρ m H ls lsA (mt y).2.2.2.1 st locs) (K : KT P p l e R s mm args below meth c Q ρ m cells slots c') :
    W p l e R s mm args below meth c H locs cells slots Q (F0 mm pc lsA (st.map (cv ρ))) := by
  obtain ⟨x0, r0, rfl, hx⟩ := pI_inv hx
  obtain ⟨t1, n1, r1, rfl, hx⟩ := pA_inv hx
  obtain ⟨j, hj, hx⟩ := Option.bind_eq_some_iff.mp hx
  obtain ⟨he, hx⟩ := if_inv hx
  obtain rfl := Sum.inl.inj (Option.some.inj hx)
  obtain ⟨hR, hL, hls, hst, hlo⟩ := hS
  obtain ⟨j1, rfl, j3⟩ := ix_inv hj
  have h0 : t1 ≠ 0 := fun z => by subst z; cases he
  refine W.lald (v := .long (mL m t1 n1 x0.toNatClampNeg)) X.1 X.2.1 (ar_get hR (by omega) hst.2.1 he) ((X.2.2.2.2.2.2.2.2.1.2.1 3 (by simp)).1 _ _) (fun q => by cases q) (vp_in_sz j1) (by rw [arrV_read _ _ j3, xg_arr he]; rfl) rfl rfl hd ?_
  exact K ρ H lsA locs cells slots ⟨hR, hL, hls, ⟨trivial, hst.2.2⟩, hlo⟩ (fun _ _ _ => rfl) rfl rfl
theorem z_aaload (X : CX P p R s mm args meth c y) (hd : decode (mt y).2.1 pc = .ok (.aaload, 1)) (hx : xi (.aaload) y pc ls st m = some (.inl c')) (hS : SS P ρ m H ls lsA (mt y).2.2.2.1 st locs) (K : KT P p l e R s mm args below meth c Q ρ m cells slots c') :
    W p l e R s mm args below meth c H locs cells slots Q (F0 mm pc lsA (st.map (cv ρ))) := by
  obtain ⟨x0, r0, rfl, hx⟩ := pI_inv hx
  obtain ⟨t1, n1, r1, rfl, hx⟩ := pA_inv hx
  obtain ⟨j, hj, hx⟩ := Option.bind_eq_some_iff.mp hx
  obtain ⟨j1, rfl, j3⟩ := ix_inv hj
  split at hx
  · rename_i u he
    obtain rfl := Sum.inl.inj (Option.some.inj hx)
    obtain ⟨hR, hL, hls, hst, hlo⟩ := hS
    have h0 : t1 ≠ 0 := fun z => by subst z; cases he
    refine W.aald (ty := ft (u + 4)) (v := cv ρ (.inr (.inr (u, mR m t1 n1 x0.toNatClampNeg)))) X.1 X.2.1 (ar_get hR (by omega) hst.2.1 he) ((X.2.2.2.2.2.2.2.2.1.2.1 _ (ek_tys _ _ he)).1 _ _) rfl (fun q => by cases q) (vp_in_sz j1) (by rw [arrV_read _ _ j3, xg_arr he]; rfl) rfl rfl hd ?_
    have hlv := hR.2.2.2.2.2 t1 n1 x0.toNatClampNeg (by omega) hst.2.1
    rw [xg_arr he] at hlv
    exact K ρ H lsA locs cells slots ⟨hR, hL, hls, ⟨hlv, hst.2.2⟩, hlo⟩ (fun _ _ _ => rfl) rfl rfl
  · cases hx
theorem arr_put {P : PP} {ρ : AM} {m : MM} {H H1 : Heap} (hR : Rl P ρ m H) {t n e j : Nat} {v : AV} (h1 : 1 ≤ t) (hn : n < mC m t) (he : ek t = some e) (hf : fc e v = true) (hv : lvq m v)
    (e1 : H1[ρ t n]? = some ((arrV (qA P e) (mN m t n) (fun j => cv ρ (xg m t n j))).setSlot j (cv ρ v))) (e2 : H1.size = H.size) (e3 : ∀ q : Nat, q ≠ ρ t n → H1[q]? = H[q]?) : Rl P ρ (wr m t n j v) H1 := by
  have htk : tk t j = e := by unfold tk; rw [he]
  rw [← htk] at hf
  refine rl_wr hR h1 hn hf hv ?_ e2 e3
  unfold ce
  rw [he]
  simp only
  rw [e1, arrV_store, mN_wr]
  congr 2
  funext q
  by_cases hq : q = j
  · subst hq
    simp only [updV, if_pos]
    exact ((xg_wr_eq ρ hf).1).symm
  · simp only [updV, if_neg hq]
    rw [xg_wr_ne (fun z => hq z.2.2)]
theorem locs_ok {P : PP} {ρ : AM} {m : MM} {H : Heap} (hR : Rl P ρ m H) {t n k : Nat} (h1 : 1 ≤ t) (hn : n < mC m t) {locs : List Loc} (hlo : ∀ q ∈ locs, qB P ≤ q.base) : ∀ q ∈ locs ++ [⟨ρ t n, k⟩], qB P ≤ q.base := by
  intro z hz
  rcases List.mem_append.mp hz with hz | hz
  · exact hlo z hz
  · rw [List.mem_singleton.mp hz]; exact hR.2.2.1 t n h1 hn
theorem z_iastore (X : CX P p R s mm args meth c y) (hd : decode (mt y).2.1 pc = .ok (.iastore, 1)) (hx : xi (.iastore) y pc ls st m = some (.inl c')) (hS : SS P ρ m H ls lsA (mt y).2.2.2.1 st locs) (K : KT P p l e R s mm args below meth c Q ρ m cells slots c') :
    W p l e R s mm args below meth c H locs cells slots Q (F0 mm pc lsA (st.map (cv ρ))) := by
  obtain ⟨x0, r0, rfl, hx⟩ := pI_inv hx
  obtain ⟨x1, r1, rfl, hx⟩ := pI_inv hx
  obtain ⟨t2, n2, r2, rfl, hx⟩ := pA_inv hx
  obtain ⟨j, hj, hx⟩ := Option.bind_eq_some_iff.mp hx
  obtain ⟨⟨he, h0⟩, hx⟩ := if_inv hx
  obtain rfl := Sum.inl.inj (Option.some.inj hx)
  obtain ⟨hR, hL, hls, hst, hlo⟩ := hS
  obtain ⟨j1, rfl, j3⟩ := ix_inv hj
  exact W.iast X.1 X.2.1 (ar_get hR (by omega) hst.2.2.1 he) ((X.2.2.2.2.2.2.2.2.1.2.1 0 (by simp)).1 _ _) (fun q => by cases q) (vp_in_sz j1) rfl rfl hd (fun H1 e1 e2 e3 => K ρ H1 lsA _ cells slots ⟨arr_put (v := .inl x0) hR (by omega) hst.2.2.1 he rfl trivial e1 e2 e3, hL, fun j w hj => lvq_wr (v := .inl x0) (hls j w hj), la_le (fun r => Nat.le_of_eq (mC_wr m t2 n2 x1.toNatClampNeg (.inl x0) r).symm) hst.2.2.2, locs_ok hR (by omega) hst.2.2.1 hlo⟩ (fun _ _ _ => rfl) rfl rfl)
theorem z_lastore (X : CX P p R s mm args meth c y) (hd : decode (mt y).2.1 pc = .ok (.lastore, 1)) (hx : xi (.lastore) y pc ls st m = some (.inl c')) (hS : SS P ρ m H ls lsA (mt y).2.2.2.1 st locs) (K : KT P p l e R s mm args below meth c Q ρ m cells slots c') :
    W p l e R s mm args below meth c H locs cells slots Q (F0 mm pc lsA (st.map (cv ρ))) := by
  obtain ⟨x0, r0, rfl, hx⟩ := pL_inv hx
  obtain ⟨x1, r1, rfl, hx⟩ := pI_inv hx
  obtain ⟨t2, n2, r2, rfl, hx⟩ := pA_inv hx
  obtain ⟨j, hj, hx⟩ := Option.bind_eq_some_iff.mp hx
  obtain ⟨he, hx⟩ := if_inv hx
  obtain rfl := Sum.inl.inj (Option.some.inj hx)
  obtain ⟨hR, hL, hls, hst, hlo⟩ := hS
  obtain ⟨j1, rfl, j3⟩ := ix_inv hj
  have h0 : t2 ≠ 0 := fun z => by subst z; cases he
  exact W.last X.1 X.2.1 (ar_get hR (by omega) hst.2.2.1 he) ((X.2.2.2.2.2.2.2.2.1.2.1 3 (by simp)).1 _ _) (fun q => by cases q) (vp_in_sz j1) rfl rfl hd (fun H1 e1 e2 e3 => K ρ H1 lsA _ cells slots ⟨arr_put (v := .inr (.inl x0)) hR (by omega) hst.2.2.1 he rfl trivial e1 e2 e3, hL, fun j w hj => lvq_wr (v := .inr (.inl x0)) (hls j w hj), la_le (fun r => Nat.le_of_eq (mC_wr m t2 n2 x1.toNatClampNeg (.inr (.inl x0)) r).symm) hst.2.2.2, locs_ok hR (by omega) hst.2.2.1 hlo⟩ (fun _ _ _ => rfl) rfl rfl)
theorem z_bastore (X : CX P p R s mm args meth c y) (hd : decode (mt y).2.1 pc = .ok (.bastore, 1)) (hx : xi (.bastore) y pc ls st m = some (.inl c')) (hS : SS P ρ m H ls lsA (mt y).2.2.2.1 st locs) (K : KT P p l e R s mm args below meth c Q ρ m cells slots c') :
    W p l e R s mm args below meth c H locs cells slots Q (F0 mm pc lsA (st.map (cv ρ))) := by
  obtain ⟨x0, r0, rfl, hx⟩ := pI_inv hx
  obtain ⟨x1, r1, rfl, hx⟩ := pI_inv hx
  obtain ⟨t2, n2, r2, rfl, hx⟩ := pA_inv hx
  obtain ⟨j, hj, hx⟩ := Option.bind_eq_some_iff.mp hx
  obtain ⟨he, hx⟩ := if_inv hx
  obtain rfl := Sum.inl.inj (Option.some.inj hx)
  obtain ⟨hR, hL, hls, hst, hlo⟩ := hS
  obtain ⟨j1, rfl, j3⟩ := ix_inv hj
  have h0 : t2 ≠ 0 := fun z => by subst z; rcases he with he | he <;> cases he.1
  rcases he with ⟨he, hb⟩ | ⟨he, hb⟩
  · have hnar : narrow .boolean (.int x0) = .int x0 := by rcases hb with hb | hb <;> subst hb <;> rfl
    exact W.zast X.1 X.2.1 (ar_get hR (by omega) hst.2.2.1 he) ((X.2.2.2.2.2.2.2.2.1.2.1 1 (by simp)).1 _ _) (fun q => by cases q) (vp_in_sz j1) rfl rfl hd (fun H1 e1 e2 e3 => K ρ H1 lsA _ cells slots ⟨arr_put (v := .inl x0) hR (by omega) hst.2.2.1 he (by simp [fc]; exact hb) trivial (by rw [e1, hnar]; rfl) e2 e3, hL, fun j w hj => lvq_wr (v := .inl x0) (hls j w hj), la_le (fun r => Nat.le_of_eq (mC_wr m t2 n2 x1.toNatClampNeg (.inl x0) r).symm) hst.2.2.2, locs_ok hR (by omega) hst.2.2.1 hlo⟩ (fun _ _ _ => rfl) rfl rfl)
  · have hnar : narrow .byte (.int x0) = .int x0 := by rw [narrow_byte, hb]
    exact W.bast X.1 X.2.1 (ar_get hR (by omega) hst.2.2.1 he) ((X.2.2.2.2.2.2.2.2.1.2.1 2 (by simp)).1 _ _) (fun q => by cases q) (vp_in_sz j1) rfl rfl hd (fun H1 e1 e2 e3 => K ρ H1 lsA _ cells slots ⟨arr_put (v := .inl x0) hR (by omega) hst.2.2.1 he (by simp [fc, hb]) trivial (by rw [e1, hnar]; rfl) e2 e3, hL, fun j w hj => lvq_wr (v := .inl x0) (hls j w hj), la_le (fun r => Nat.le_of_eq (mC_wr m t2 n2 x1.toNatClampNeg (.inl x0) r).symm) hst.2.2.2, locs_ok hR (by omega) hst.2.2.1 hlo⟩ (fun _ _ _ => rfl) rfl rfl)
theorem z_aastore (X : CX P p R s mm args meth c y) (hd : decode (mt y).2.1 pc = .ok (.aastore, 1)) (hx : xi (.aastore) y pc ls st m = some (.inl c')) (hS : SS P ρ m H ls lsA (mt y).2.2.2.1 st locs) (K : KT P p l e R s mm args below meth c Q ρ m cells slots c') :
    W p l e R s mm args below meth c H locs cells slots Q (F0 mm pc lsA (st.map (cv ρ))) := by
  simp only [xi] at hx
  obtain ⟨u, o, r0, rfl, hx⟩ := pR_inv hx
  obtain ⟨x1, r1, rfl, hx⟩ := pI_inv hx
  obtain ⟨t2, n2, r2, rfl, hx⟩ := pA_inv hx
  obtain ⟨j, hj, hx⟩ := Option.bind_eq_some_iff.mp hx
  obtain ⟨hk, hx⟩ := if_inv hx
  obtain rfl := Sum.inl.inj (Option.some.inj hx)
  obtain ⟨hR, hL, hls, hst, hlo⟩ := hS
  obtain ⟨j1, rfl, j3⟩ := ix_inv hj
  obtain ⟨e, he, he4, hf⟩ : ∃ e, ek t2 = some e ∧ 4 ≤ e ∧ fc e (.inr (.inr (u, o))) = true := by
    rcases hk with hk | ⟨rfl, hk⟩
    · exact ⟨u + 4, hk, by omega, by simp [fc]⟩
    · cases hq : ek t2 with
      | none => rw [hq] at hk; simp at hk
      | some e => rw [hq] at hk; exact ⟨e, rfl, hk, by simp [fc]; left; exact hk⟩
  obtain ⟨w, rfl⟩ : ∃ w, e = w + 4 := ⟨e - 4, by omega⟩
  have h0 : t2 ≠ 0 := fun z => by subst z; cases he
  have hKA := X.2.2.2.2.2.2.2.2.1.2.1 _ (ek_tys _ _ he)
  have hKK : ∀ H1 : Heap, H1[ρ t2 n2]? = some ((arrV (qA P (w + 4)) (mN m t2 n2) (fun j => cv ρ (xg m t2 n2 j))).setSlot x1.toNatClampNeg (cv ρ (.inr (.inr (u, o))))) → H1.size = H.size → (∀ q, q ≠ ρ t2 n2 → H1[q]? = H[q]?) → W p l e R s mm args below meth c H1 (locs ++ [⟨ρ t2 n2, x1.toNatClampNeg⟩]) cells slots Q (F0 mm (pc + 1) lsA (r2.map (cv ρ))) :=
    fun H1 e1 e2 e3 => K ρ H1 lsA _ cells slots ⟨arr_put (v := .inr (.inr (u, o))) hR (by omega) hst.2.2.1 he hf hst.1 e1 e2 e3, hL, fun j w hj => lvq_wr (v := .inr (.inr (u, o))) (hls j w hj), la_le (fun r => Nat.le_of_eq (mC_wr m t2 n2 x1.toNatClampNeg (.inr (.inr (u, o))) r).symm) hst.2.2.2, locs_ok hR (by omega) hst.2.2.1 hlo⟩ (fun _ _ _ => rfl) rfl rfl
  cases o with
  | none => exact va_WaastN (C := cn (w - 1)) X.1 X.2.1 (ar_get hR (by omega) hst.2.2.1 he) (hKA.1 _ _) (fun q => by cases q) (vp_in_sz j1) rfl rfl hd hKK
  | some i =>
    have huw : u = w := by simp [fc] at hf; omega
    subst huw
    have hu := (by decide +kernel : ∀ e ∈ [0, 1, 2, 3, 5, 8, 10], 4 ≤ e → 1 ≤ e - 4 ∧ e - 4 ≤ 8) (u + 4) (ek_tys _ _ he) (by omega)
    have hu1 : 1 ≤ u := by omega
    have hu2 : u ≤ 8 := by omega
    obtain ⟨cellV, g1, g2, g3, -⟩ := ob_get hR hu1 hu2 hst.1
    have hcls := (X.2.2.2.2.2.2.2.2.1.1 (u - 1) (by omega)).2
    obtain ⟨kA, comp, k1, k2, k3, -⟩ := hKA.2
    have hcomp : comp = (qD P).1 (u - 1) := Option.some.inj (k3.symm.trans hcls.1)
    subst hcomp
    obtain ⟨kC, hkC, -⟩ := hcls.2
    exact W.aast X.1 X.2.1 (ar_get hR (by omega) hst.2.2.1 he) (fun q h => by cases h) (fun h => by cases h) k1 k2 rfl hkC ⟨fun q => j1 (Or.inl q), by rw [arrV_size]; exact j3⟩ g1 (fun q h => by rw [g3] at h; cases h) (by rw [g2]; exact hkC) (by rw [g2]; exact va_assign hcls) rfl rfl hd hKK
theorem vC_ok : ∀ q ∈ vC, 1 ≤ q.2 ∧ q.2 ≤ 8 ∧ (q.2 - 1) ∈ vN ∧ (q.2 - 1) ∈ vZ := by decide +kernel
theorem naL_ok : ∀ q ∈ naL, 9 ≤ q.2 := by decide +kernel
theorem al_live {m : MM} {t len sz : Nat} {ls : LV} (h : ∀ j v, lg ls j = some v → lvq m v) : ∀ j v, lg ls j = some v → lvq (al m t len sz) v := fun j v hj => lvq_le (mC_al_le m t len sz) (h j v hj)
theorem ua_ag (ρ : AM) (m : MM) (t a : Nat) : ∀ r n, n < mC m r → ua ρ t (mC m t) a r n = ρ r n := fun r n hn => if_neg (fun e => by rw [e.1, e.2] at hn; omega)
theorem z_new {k : Nat} (X : CX P p R s mm args meth c y) (hd : decode (mt y).2.1 pc = .ok (.new k, 3)) (hx : xi (.new k) y pc ls st m = some (.inl c')) (hS : SS P ρ m H ls lsA (mt y).2.2.2.1 st locs) (hc1 : cells + mT c'.2.2.2.2 ≤ R.cells + mT m) (hc2 : slots + mS c'.2.2.2.2 ≤ R.slots + mS m) (K : KT P p l e R s mm args below meth c Q ρ m cells slots c') :
    W p l e R s mm args below meth c H locs cells slots Q (F0 mm pc lsA (st.map (cv ρ))) := by
  obtain ⟨t, ht, hx⟩ := Option.bind_eq_some_iff.mp hx
  obtain rfl := Sum.inl.inj (Option.some.inj hx)
  obtain ⟨hR, hL, hls, hst, hlo⟩ := hS
  obtain ⟨g1, g2, g3, g4⟩ := vC_ok _ (lk_mem ht)
  simp only at g1 g2 g3 g4
  have hc : t - 1 < 8 := by omega
  have hts := X.2.2.2.2.2.2.2.1
  have hKn := X.2.2.2.2.2.2.2.2.1.1 (t - 1) hc
  rw [mT_al] at hc1
  rw [mS_al] at hc2
  have hins : (Cond.instantiable (cn (t - 1)) (NN (t - 1))).before args s = true := hts _ (gw_N g3)
  refine W.newcK X.1 X.2.1 X.2.2.2.2.2.2.1 (hts _ (gw_C (lk_mem ht))) hins (hts _ (gw_Z g4)) rfl hd (by omega) (by omega) hKn.2.1 rfl fun H1 kC hkC e1 z1 o1 => ?_
  have hcell : ce P (ua ρ t (mC m t) H.size) (al m t 0 (NN (t - 1))) t (mC m t) H1 := by
    unfold ce
    rw [ek_obj t g1 g2]
    have hb := u_born (tyT (t - 1)) hts (u_ws_gw hc) hKn hkC e1 (tyT_ok (t - 1) hc)
    have hu : ua ρ t (mC m t) H.size t (mC m t) = H.size := if_pos ⟨rfl, rfl⟩
    simp only [hu]
    refine t_OB.to hb (fun k hk => ?_)
    have hfo := fo_ok (t - 1) hc k hk
    rw [show t - 1 + 1 = t by omega, ← tk_obj g1 g2] at hfo
    rw [xg_al_eq]
    exact fo_zero _ hfo
  have hag := ua_ag ρ m t H.size
  have K1 := K (ua ρ t (mC m t) H.size) H1 lsA locs (cells + 1) (slots + NN (t - 1)) ⟨rl_al hR g1 z1 o1 hcell, by rw [pv_ag hag hls]; exact hL, al_live hls, ⟨by show mC m t < mC (al m t 0 (NN (t - 1))) t; rw [mC_al, if_pos rfl]; omega, la_le (mC_al_le _ _ _ _) hst⟩, hlo⟩ hag (by rw [mT_al]; omega) (by rw [mS_al]; omega)
  simp only [List.map_cons] at K1
  rw [map_ag hag hst] at K1
  rw [show cv (ua ρ t (mC m t) H.size) (.inr (.inr (t, some (mC m t)))) = .ref H.size from congrArg Value.ref (if_pos ⟨rfl, rfl⟩)] at K1
  exact K1
theorem ft_zero (ρ : AM) : ∀ e, defaultValue (ft e) = cv ρ (za e) := by
  intro e
  match e with
  | 0 => rfl
  | 1 => rfl
  | 2 => rfl
  | 3 => rfl
  | t + 4 => rfl
theorem arr_new {P : PP} {ρ : AM} {m : MM} {H H1 : Heap} (hR : Rl P ρ m H) {t e N : Nat} (h1 : 1 ≤ t) (he : ek t = some e) (z1 : H1.size = H.size + 1) (o1 : ∀ q : Nat, q < H.size → H1[q]? = H[q]?)
    (e1 : H1[H.size]? = some (arrV (qA P e) N (fun _ => defaultValue (ft e)))) : Rl P (ua ρ t (mC m t) H.size) (al m t N N) H1 := by
  refine rl_al hR h1 z1 o1 ?_
  unfold ce
  rw [he]
  have hu : ua ρ t (mC m t) H.size t (mC m t) = H.size := if_pos ⟨rfl, rfl⟩
  simp only [hu]
  rw [e1, mN_al, if_pos ⟨rfl, rfl⟩]
  congr 2
  funext j
  rw [xg_al_eq, ft_zero (ua ρ t (mC m t) H.size), show tk t j = e by unfold tk; rw [he]]
theorem z_newarray {a : ArrayType} (X : CX P p R s mm args meth c y) (hd : decode (mt y).2.1 pc = .ok (.newarray a, 2)) (hx : xi (.newarray a) y pc ls st m = some (.inl c')) (hS : SS P ρ m H ls lsA (mt y).2.2.2.1 st locs) (hc1 : cells + mT c'.2.2.2.2 ≤ R.cells + mT m) (hc2 : slots + mS c'.2.2.2.2 ≤ R.slots + mS m) (K : KT P p l e R s mm args below meth c Q ρ m cells slots c') :
    W p l e R s mm args below meth c H locs cells slots Q (F0 mm pc lsA (st.map (cv ρ))) := by
  obtain ⟨x0, r0, rfl, hx⟩ := pI_inv hx
  obtain ⟨t, ht, hx⟩ := Option.bind_eq_some_iff.mp hx
  obtain ⟨⟨he, ha, hn, hb⟩, hx⟩ := if_inv hx
  obtain rfl := Sum.inl.inj (Option.some.inj hx)
  obtain ⟨hR, hL, hls, hst, hlo⟩ := hS
  have g1 := naL_ok _ (lk_mem ht)
  simp only at g1
  have hts := X.2.2.2.2.2.2.2.1
  rw [mT_al] at hc1
  rw [mS_al] at hc2
  have hty : newarray.typeOf a = ft (atc a) := by cases a <;> first | rfl | (simp [atc] at ha)
  have hav : atc a ∈ vA := (by decide +kernel : ∀ e, e < 4 → e ∈ vA) _ ha
  have hbytes : x0.toNatClampNeg * componentBytes (newarray.typeOf a) ≤ 536870912 := by
    have h8 : componentBytes (newarray.typeOf a) ≤ 8 := by cases a <;> decide
    calc _ ≤ 10000 * 8 := Nat.mul_le_mul hb h8
      _ ≤ _ := by decide
  refine va_newaK X.1 X.2.1 (by rw [hty]; exact hts _ (gw_A hav)) rfl hd rfl hn rfl hbytes (by omega) (by omega) rfl fun H1 cA e1 z1 o1 hAr hNm => ?_
  have hKA := X.2.2.2.2.2.2.2.2.1.2.1 _ (ek_tys _ _ he)
  have hcA : cA = qA P (atc a) := by
    have h9 := hKA.2
    rw [hty] at hNm
    have h10 : s.vm.findClass ("[" ++ (ft (atc a)).toString) = some (qA P (atc a)) := by
      revert h9; generalize hz : atc a = z at ha ⊢
      match z, ha with
      | 0, _ => exact id
      | 1, _ => exact id
      | 2, _ => exact id
      | 3, _ => exact id
    exact Option.some.inj (hNm.symm.trans h10)
  subst hcA
  have hag := ua_ag ρ m t H.size
  have K1 := K (ua ρ t (mC m t) H.size) H1 lsA locs (cells + 1) (slots + x0.toNatClampNeg) ⟨arr_new hR (by omega) he z1 o1 (by rw [e1]; rw [hty]), by rw [pv_ag hag hls]; exact hL, al_live hls, ⟨by show mC m t < mC (al m t x0.toNatClampNeg x0.toNatClampNeg) t; rw [mC_al, if_pos rfl]; omega, la_le (mC_al_le _ _ _ _) hst.2⟩, hlo⟩ hag (by rw [mT_al]; omega) (by rw [mS_al]; omega)
  simp only [List.map_cons] at K1
  rw [map_ag hag hst.2] at K1
  rw [show cv (ua ρ t (mC m t) H.size) (.inr (.inr (t, some (mC m t)))) = .ref H.size from congrArg Value.ref (if_pos ⟨rfl, rfl⟩)] at K1
  exact K1
theorem z_anewarray {k : Nat} (X : CX P p R s mm args meth c y) (hd : decode (mt y).2.1 pc = .ok (.anewarray k, 3)) (hx : xi (.anewarray k) y pc ls st m = some (.inl c')) (hS : SS P ρ m H ls lsA (mt y).2.2.2.1 st locs) (hc1 : cells + mT c'.2.2.2.2 ≤ R.cells + mT m) (hc2 : slots + mS c'.2.2.2.2 ≤ R.slots + mS m) (K : KT P p l e R s mm args below meth c Q ρ m cells slots c') :
    W p l e R s mm args below meth c H locs cells slots Q (F0 mm pc lsA (st.map (cv ρ))) := by
  obtain ⟨x0, r0, rfl, hx⟩ := pI_inv hx
  obtain ⟨t, ht, hx⟩ := Option.bind_eq_some_iff.mp hx
  obtain ⟨u, hu, hx⟩ := Option.bind_eq_some_iff.mp hx
  obtain ⟨⟨he, hn, hb⟩, hx⟩ := if_inv hx
  obtain rfl := Sum.inl.inj (Option.some.inj hx)
  obtain ⟨hR, hL, hls, hst, hlo⟩ := hS
  have g1 := naL_ok _ (lk_mem ht)
  simp only at g1
  have hts := X.2.2.2.2.2.2.2.1
  rw [mT_al] at hc1
  rw [mS_al] at hc2
  have hKA := X.2.2.2.2.2.2.2.2.1.2.1 _ (ek_tys _ _ he)
  have huo : u ∈ vO := (by decide +kernel : ∀ e ∈ [0, 1, 2, 3, 5, 8, 10], 4 ≤ e → (e - 4) ∈ vO) (u + 4) (ek_tys _ _ he) (by omega)
  refine W.anew X.1 X.2.1 X.2.2.2.2.2.2.1 (hts _ (gw_C (lk_mem hu))) (va_AO.use (X.2.2.2.2.2.2.2.2.1.2.2.2.1 u huo)) rfl hd rfl hn (by omega) (by omega) (by omega) fun cA kA comp f1 f2 f3 f4 => ?_
  have hcA : cA = qA P (u + 4) := by
    obtain ⟨_, _, _, _, _, h9⟩ := hKA.2
    exact Option.some.inj (f1.symm.trans h9)
  subst hcA
  generalize hH1 : H.push ({ cls := qA P (u + 4), slots := Array.replicate x0.toNatClampNeg .null, vm := .none } : Cell) = H1
  have z1 : H1.size = H.size + 1 := by rw [← hH1, Array.size_push]
  have e1 : H1[H.size]? = some (arrV (qA P (u + 4)) x0.toNatClampNeg (fun _ => .null)) := by rw [← hH1, Array.getElem?_push_size, ← arrV_new]
  have o1 : ∀ q : Nat, q < H.size → H1[q]? = H[q]? := fun q hq => by rw [← hH1, Array.getElem?_push, if_neg (Nat.ne_of_lt hq)]
  have hag := ua_ag ρ m t H.size
  have K1 := K (ua ρ t (mC m t) H.size) H1 lsA locs (cells + 1) (slots + x0.toNatClampNeg) ⟨arr_new hR (by omega) he z1 o1 (by rw [e1]; rfl), by rw [pv_ag hag hls]; exact hL, al_live hls, ⟨by show mC m t < mC (al m t x0.toNatClampNeg x0.toNatClampNeg) t; rw [mC_al, if_pos rfl]; omega, la_le (mC_al_le _ _ _ _) hst.2⟩, hlo⟩ hag (by rw [mT_al]; omega) (by rw [mS_al]; omega)
  simp only [List.map_cons] at K1
  rw [map_ag hag hst.2] at K1
  rw [show cv (ua ρ t (mC m t) H.size) (.inr (.inr (t, some (mC m t)))) = .ref H.size from congrArg Value.ref (if_pos ⟨rfl, rfl⟩)] at K1
  exact K1
theorem z_objinit {k : Nat} (X : CX P p R s mm args meth c y) (hd : decode (mt y).2.1 pc = .ok (.invokespecial k, 3)) (hx : xi (.invokespecial k) y pc ls st m = some (.inl c')) (hS : SS P ρ m H ls lsA (mt y).2.2.2.1 st locs) (K : KT P p l e R s mm args below meth c Q ρ m cells slots c') :
    W p l e R s mm args below meth c H locs cells slots Q (F0 mm pc lsA (st.map (cv ρ))) := by
  cases hq : lk clL (mt y).2.2.1 k with
  | none =>
    simp only [xi, hq] at hx
    obtain ⟨q, -, hx⟩ := Option.bind_eq_some_iff.mp hx
    obtain ⟨-, hx⟩ := if_inv hx
    obtain ⟨t, n, r, -, hx⟩ := pA_inv hx
    obtain ⟨-, hx⟩ := if_inv hx
    cases hx
  | some q =>
    simp only [xi, hq] at hx
    by_cases h9 : q.1 = 9999
    · rw [if_pos h9] at hx
      obtain ⟨t, n, r, rfl, hx⟩ := pA_inv hx
      obtain ⟨⟨hc, hfr, hlo1⟩, hx⟩ := if_inv hx
      obtain rfl := Sum.inl.inj (Option.some.inj hx)
      obtain ⟨hR, hL, hls, hst, hlo⟩ := hS
      have hts := X.2.2.2.2.2.2.2.1
      have hlink := hts _ (gw_M (lk_mem hq))
      unfold wM yt at hlink
      simp only [h9, if_true] at hlink
      have hsum : ∀ st : List AV, ((st.map (cv ρ)).map fun v => v.category).sum = cats st := by
        intro st
        induction st with
        | nil => rfl
        | cons v r ih => simp only [List.map_cons, List.sum_cons, ih, cats, cv_cat]
      refine W.objInit X.1 X.2.1 X.2.2.2.2.2.2.1 hlink (hts _ gw_oI) (hts _ gw_oK) rfl (by rw [X.2.2.1]; exact hL.1) rfl hd (Nat.le_trans hfr X.2.2.2.2.2.2.2.2.2.1) ?_ ?_
      · have h8 := lv_room (m := mm) (pc := pc) (ls := lsA) (rest := cv ρ (.inr (.inr (t, some n))) :: r.map (cv ρ)) (st := r.map (cv ρ)) (by rw [hsum]; exact hc)
        have h20 := X.2.2.2.2.2.2.2.2.2.2
        exact Nat.le_trans (Nat.add_le_add_right h8 12) (Nat.le_trans hlo1 h20)
      · exact K ρ H lsA locs cells slots ⟨hR, hL, hls, hst.2, hlo⟩ (fun _ _ _ => rfl) rfl rfl
    · rw [if_neg h9] at hx
      obtain ⟨-, hx⟩ := if_inv hx
      obtain ⟨t, n, r, -, hx⟩ := pA_inv hx
      obtain ⟨-, hx⟩ := if_inv hx
      cases hx
theorem gw_max : Cond.static Lib.Math.max.name ∈ gw ∧ Cond.initialized "java/lang/Math" ∈ gw ∧ Cond.code Lib.Math.max.name Lib.Math.max.code 2 (some .int) ∈ gw := ⟨gw_T (q := iMax) (by decide), gw_Z (q := 9) (by decide), gw_K (q := iMax) (by decide)⟩
theorem gw_min : Cond.static Lib.Math.min.name ∈ gw ∧ Cond.initialized "java/lang/Math" ∈ gw ∧ Cond.code Lib.Math.min.name Lib.Math.min.code 2 (some .int) ∈ gw := ⟨gw_T (q := iMin) (by decide), gw_Z (q := 9) (by decide), gw_K (q := iMin) (by decide)⟩
theorem cats_sum0 (ρ : AM) : ∀ st : List AV, ((st.map (cv ρ)).map fun v => v.category).sum = cats st
  | [] => rfl
  | v :: r => by simp only [List.map_cons, List.sum_cons, cats_sum0 ρ r, cats, cv_cat]
theorem z_math {k : Nat} (X : CX P p R s mm args meth c y) (hd : decode (mt y).2.1 pc = .ok (.invokestatic k, 3)) (hx : xi (.invokestatic k) y pc ls st m = some (.inl c')) (hS : SS P ρ m H ls lsA (mt y).2.2.2.1 st locs) (hc1 : cells + mT c'.2.2.2.2 ≤ R.cells + mT m) (hc2 : slots + mS c'.2.2.2.2 ≤ R.slots + mS m) (K : KT P p l e R s mm args below meth c Q ρ m cells slots c') :
    W p l e R s mm args below meth c H locs cells slots Q (F0 mm pc lsA (st.map (cv ρ))) := by
  obtain ⟨q, hq, hz⟩ := Option.bind_eq_some_iff.mp hx
  clear hx
  by_cases h9 : q.1 = iMax ∨ q.1 = iMin
  · rw [if_pos h9] at hz
    obtain ⟨b, r0, e0, hy⟩ := pI_inv hz
    clear hz
    subst e0
    obtain ⟨a, r1, e1, hx⟩ := pI_inv hy
    clear hy
    subst e1
    obtain ⟨⟨hc, hfr, hlo1⟩, hx⟩ := if_inv hx
    obtain rfl := Sum.inl.inj (Option.some.inj hx)
    obtain ⟨hR, hL, hls, hst, hlo⟩ := hS
    have hts := X.2.2.2.2.2.2.2.1
    have hlink := hts _ (gw_M (lk_mem hq))
    have hsum := cats_sum0 ρ r1
    have h10 := X.2.2.2.2.2.2.2.2.2.1
    have h11 := X.2.2.2.2.2.2.2.2.2.2
    have hc1 : cells + mT m ≤ R.cells + mT m := hc1
    have hc2 : slots + mS m ≤ R.slots + mS m := hc2
    have K1 := K ρ H lsA locs cells slots ⟨hR, hL, hls, ⟨trivial, hst.2.2⟩, hlo⟩ (fun _ _ _ => rfl) rfl rfl
    unfold wM yt at hlink
    by_cases hm : q.1 = iMax
    · simp only [hm, if_true] at K1
      simp only [hm] at hlink
      exact va_mmax X.1 X.2.1 (by rw [X.2.2.1]; exact hL.1.symm) X.2.2.2.2.2.2.1 hlink (hts _ gw_max.1) (hts _ gw_max.2.1) (hts _ gw_max.2.2) (by omega) (by rw [hsum]; omega) (by omega) (by omega) hd K1
    · have hm2 : q.1 = iMin := h9.resolve_left hm
      simp only [hm, if_false] at K1
      simp only [hm2] at hlink
      exact va_mmin X.1 X.2.1 (by rw [X.2.2.1]; exact hL.1.symm) X.2.2.2.2.2.2.1 hlink (hts _ gw_min.1) (hts _ gw_min.2.1) (hts _ gw_min.2.2) (by omega) (by rw [hsum]; omega) (by omega) (by omega) hd K1
  · rw [if_neg h9] at hz
    obtain ⟨-, hx⟩ := if_inv hz
    obtain ⟨-, hx⟩ := if_inv hx
    cases hx
end ZZ
