/-! a run of the small machine is a run of the machine -/
def mle (m m' : MM) : Prop := mT m ≤ mT m' ∧ mS m ≤ mS m' ∧ ∀ r, mC m r ≤ mC m' r
theorem mle_rf (m : MM) : mle m m := ⟨Nat.le_refl _, Nat.le_refl _, fun _ => Nat.le_refl _⟩
theorem mle_tr {a b c : MM} (h : mle a b) (g : mle b c) : mle a c := ⟨Nat.le_trans h.1 g.1, Nat.le_trans h.2.1 g.2.1, fun r => Nat.le_trans (h.2.2 r) (g.2.2 r)⟩
theorem mle_al (m : MM) (t len sz : Nat) : mle m (al m t len sz) := ⟨by rw [mT_al]; omega, by rw [mS_al]; omega, mC_al_le m t len sz⟩
theorem mle_wr (m : MM) (r n k : Nat) (v : AV) : mle m (wr m r n k v) := ⟨Nat.le_of_eq (mT_wr _ _ _ _ _).symm, Nat.le_of_eq (mS_wr _ _ _ _ _).symm, fun a => Nat.le_of_eq (mC_wr _ _ _ _ _ a).symm⟩
def gd (y : Nat) (m : MM) (o : OC) : Prop := match o with
  | .inl c => c.1 = y ∧ mle m c.2.2.2.2
  | .inr (.inl r) => r.2 = m
  | .inr (.inr q) => q.1.2.2.2.2 = m ∧ q.2.1 = y
theorem pI_imp {C : Prop} {st : List AV} {k : Int32 → List AV → Option OC} {o : OC} (h : pI st k = some o) (g : ∀ x r, k x r = some o → C) : C := by
  obtain ⟨x, r, -, h⟩ := pI_inv h; exact g x r h
theorem pL_imp {C : Prop} {st : List AV} {k : Int64 → List AV → Option OC} {o : OC} (h : pL st k = some o) (g : ∀ x r, k x r = some o → C) : C := by
  obtain ⟨x, r, -, h⟩ := pL_inv h; exact g x r h
theorem pR_imp {C : Prop} {st : List AV} {k : Nat → Option Nat → List AV → Option OC} {o : OC} (h : pR st k = some o) (g : ∀ t n r, k t n r = some o → C) : C := by
  obtain ⟨t, n, r, -, h⟩ := pR_inv h; exact g t n r h
theorem pA_imp {C : Prop} {st : List AV} {k : Nat → Nat → List AV → Option OC} {o : OC} (h : pA st k = some o) (g : ∀ t n r, k t n r = some o → C) : C := by
  obtain ⟨t, n, r, -, h⟩ := pA_inv h; exact g t n r h
theorem pop_imp {C : Prop} {st : List AV} {k : AV → List AV → Option OC} {o : OC} (h : pop st k = some o) (g : ∀ v r, k v r = some o → C) : C := by
  obtain ⟨v, r, -, h⟩ := pop_inv h; exact g v r h
theorem onI_imp {C : Prop} {v : Option AV} {k : Int32 → Option OC} {o : OC} (h : onI v k = some o) (g : ∀ x, k x = some o → C) : C := by
  obtain ⟨x, -, h⟩ := onI_inv h; exact g x h
theorem onL_imp {C : Prop} {v : Option AV} {k : Int64 → Option OC} {o : OC} (h : onL v k = some o) (g : ∀ x, k x = some o → C) : C := by
  obtain ⟨x, -, h⟩ := onL_inv h; exact g x h
theorem onR_imp {C : Prop} {v : Option AV} {k : Nat → Option Nat → Option OC} {o : OC} (h : onR v k = some o) (g : ∀ t n, k t n = some o → C) : C := by
  obtain ⟨t, n, -, h⟩ := onR_inv h; exact g t n h
theorem bd_imp {C : Prop} {α : Type} {v : Option α} {k : α → Option OC} {o : OC} (h : v.bind k = some o) (g : ∀ x, v = some x → k x = some o → C) : C := by
  obtain ⟨x, h1, h⟩ := Option.bind_eq_some_iff.mp h; exact g x h1 h
theorem if_imp {C : Prop} {q : Prop} {d : Decidable q} {a : Option OC} {o : OC} (h : (@ite _ q d a none) = some o) (g : q → a = some o → C) : C := by
  obtain ⟨h1, h⟩ := if_inv h; exact g h1 h
set_option maxHeartbeats 4000000 in
theorem xi_gd (i : Instr) {y pc : Nat} {ls : LV} {st : List AV} {m : MM} {o : OC} (h : xi i y pc ls st m = some o) : gd y m o := by
  cases i <;> simp only [xi] at h <;> (try (cases h; done)) <;>
  (repeat' (first
    | with_reducible refine pI_imp h (fun _ _ h => ?_)
    | with_reducible refine pL_imp h (fun _ _ h => ?_)
    | with_reducible refine pR_imp h (fun _ _ _ h => ?_)
    | with_reducible refine pA_imp h (fun _ _ _ h => ?_)
    | with_reducible refine pop_imp h (fun _ _ h => ?_)
    | with_reducible refine onI_imp h (fun _ h => ?_)
    | with_reducible refine onL_imp h (fun _ h => ?_)
    | with_reducible refine onR_imp h (fun _ _ h => ?_)
    | with_reducible refine bd_imp h (fun _ _ h => ?_)
    | with_reducible refine if_imp h (fun _ h => ?_)
    | split at h)) <;>
  first
    | (cases h; exact ⟨rfl, mle_rf _⟩)
    | (cases h; exact ⟨rfl, mle_al _ _ _ _⟩)
    | (cases h; exact ⟨rfl, mle_wr _ _ _ _ _⟩)
    | (cases h; exact ⟨rfl, rfl⟩)
    | (cases h; rfl)
    | (cases h; done)
theorem ps_inv {c : CF} {o : OC} (h : ps c = some o) : ∃ i n, decode (mt c.1).2.1 c.2.1 = .ok (i, n) ∧ (n = il i ∨ il i = 0) ∧ xi i c.1 c.2.1 c.2.2.1 c.2.2.2.1 c.2.2.2.2 = some o := by
  unfold ps at h
  split at h
  · rename_i i n hd
    obtain ⟨h1, h2⟩ := if_inv h
    exact ⟨i, n, hd, h1, h2⟩
  · cases h
theorem ex_mle : ∀ (f : Nat) (c : CF) (r : RS), ex f c = some r → mle c.2.2.2.2 r.2
  | 0, _, _, h => by cases h
  | f + 1, c, r, h => by
    unfold ex at h
    cases hp : ps c with
    | none => rw [hp] at h; cases h
    | some o =>
      rw [hp] at h
      obtain ⟨i, n, -, -, hx⟩ := ps_inv hp
      have hg := xi_gd i hx
      rcases o with c' | r' | q
      · exact mle_tr hg.2 (ex_mle f c' r h)
      · have h : some r' = some r := h
        have hg : r'.2 = _ := hg
        rw [← Option.some.inj h, hg]; exact mle_rf _
      · simp only [fi] at h
        cases hq : ex f q.1 with
        | none => rw [hq] at h; cases h
        | some r1 =>
          rw [hq] at h
          have h1 := ex_mle f _ _ hq
          have h2 := ex_mle f _ _ h
          rw [hg.1] at h1
          exact mle_tr h1 h2
section SND
variable {P : PP} {p : Program} {l : Launch} {e : Env} {R : Room} {s : State} {mm : MethodId} {args : Array Value} {below : List Frame} {meth : Method} {c : Code} {H : Heap} {locs : List Loc} {cells slots : Nat} {Q : State → Prop}
variable {y pc : Nat} {ls : LV} {st : List AV} {m : MM} {lsA : Array Slot} {ρ : AM} {c' : CF}
set_option maxHeartbeats 4000000 in
theorem z_all (i : Instr) {n : Nat} (X : CX P p R s mm args meth c y) (hd : decode (mt y).2.1 pc = .ok (i, n)) (hn : n = il i ∨ il i = 0) (hx : xi i y pc ls st m = some (.inl c')) (hS : SS P ρ m H ls lsA (mt y).2.2.2.1 st locs)
    (hc1 : cells + mT c'.2.2.2.2 ≤ R.cells + mT m) (hc2 : slots + mS c'.2.2.2.2 ≤ R.slots + mS m) (K : KT P p l e R s mm args below meth c Q ρ m cells slots c') :
    W p l e R s mm args below meth c H locs cells slots Q (F0 mm pc lsA (st.map (cv ρ))) := by
  match i with
  | .iconst k =>
    obtain rfl : n = 1 := hn.resolve_right (by simp [il])
    exact z_iconst X hd hx hS K
  | .bipush k =>
    obtain rfl : n = 2 := hn.resolve_right (by simp [il])
    exact z_bipush X hd hx hS K
  | .sipush k =>
    obtain rfl : n = 3 := hn.resolve_right (by simp [il])
    exact z_sipush X hd hx hS K
  | .lconst k =>
    obtain rfl : n = 1 := hn.resolve_right (by simp [il])
    exact z_lconst X hd hx hS K
  | .aconst_null =>
    obtain rfl : n = 1 := hn.resolve_right (by simp [il])
    exact z_null X hd hx hS K
  | .ldc k =>
    obtain rfl : n = 2 := hn.resolve_right (by simp [il])
    exact z_ldc X hd hx hS K
  | .ldc2_w k =>
    obtain rfl : n = 3 := hn.resolve_right (by simp [il])
    exact z_ldc2 X hd hx hS K
  | .iload k =>
    obtain rfl : n = 2 := hn.resolve_right (by simp [il])
    exact z_iload X hd hx hS K
  | .iload_n k =>
    obtain rfl : n = 1 := hn.resolve_right (by simp [il])
    exact z_iload_n X hd hx hS K
  | .lload k =>
    obtain rfl : n = 2 := hn.resolve_right (by simp [il])
    exact z_lload X hd hx hS K
  | .lload_n k =>
    obtain rfl : n = 1 := hn.resolve_right (by simp [il])
    exact z_lload_n X hd hx hS K
  | .aload k =>
    obtain rfl : n = 2 := hn.resolve_right (by simp [il])
    exact z_aload X hd hx hS K
  | .aload_n k =>
    obtain rfl : n = 1 := hn.resolve_right (by simp [il])
    exact z_aload_n X hd hx hS K
  | .istore k =>
    obtain rfl : n = 2 := hn.resolve_right (by simp [il])
    exact z_istore X hd hx hS K
  | .istore_n k =>
    obtain rfl : n = 1 := hn.resolve_right (by simp [il])
    exact z_istore_n X hd hx hS K
  | .astore k =>
    obtain rfl : n = 2 := hn.resolve_right (by simp [il])
    exact z_astore X hd hx hS K
  | .astore_n k =>
    obtain rfl : n = 1 := hn.resolve_right (by simp [il])
    exact z_astore_n X hd hx hS K
  | .iinc k q =>
    obtain rfl : n = 3 := hn.resolve_right (by simp [il])
    exact z_iinc X hd hx hS K
  | .iadd =>
    obtain rfl : n = 1 := hn.resolve_right (by simp [il])
    exact z_iadd X hd hx hS K
  | .isub =>
    obtain rfl : n = 1 := hn.resolve_right (by simp [il])
    exact z_isub X hd hx hS K
  | .imul =>
    obtain rfl : n = 1 := hn.resolve_right (by simp [il])
    exact z_imul X hd hx hS K
  | .iand =>
    obtain rfl : n = 1 := hn.resolve_right (by simp [il])
    exact z_iand X hd hx hS K
  | .ixor =>
    obtain rfl : n = 1 := hn.resolve_right (by simp [il])
    exact z_ixor X hd hx hS K
  | .ishl =>
    obtain rfl : n = 1 := hn.resolve_right (by simp [il])
    exact z_ishl X hd hx hS K
  | .ishr =>
    obtain rfl : n = 1 := hn.resolve_right (by simp [il])
    exact z_ishr X hd hx hS K
  | .i2l =>
    obtain rfl : n = 1 := hn.resolve_right (by simp [il])
    exact z_i2l X hd hx hS K
  | .i2b =>
    obtain rfl : n = 1 := hn.resolve_right (by simp [il])
    exact z_i2b X hd hx hS K
  | .lcmp =>
    obtain rfl : n = 1 := hn.resolve_right (by simp [il])
    exact z_lcmp X hd hx hS K
  | .land =>
    obtain rfl : n = 1 := hn.resolve_right (by simp [il])
    exact z_land X hd hx hS K
  | .lor =>
    obtain rfl : n = 1 := hn.resolve_right (by simp [il])
    exact z_lor X hd hx hS K
  | .lshl =>
    obtain rfl : n = 1 := hn.resolve_right (by simp [il])
    exact z_lshl X hd hx hS K
  | .dup =>
    obtain rfl : n = 1 := hn.resolve_right (by simp [il])
    exact z_dup X hd hx hS K
  | .dup2 =>
    obtain rfl : n = 1 := hn.resolve_right (by simp [il])
    exact z_dup2 X hd hx hS K
  | .pop =>
    obtain rfl : n = 1 := hn.resolve_right (by simp [il])
    exact z_pop X hd hx hS K
  | .goto q =>
    obtain rfl : n = 3 := hn.resolve_right (by simp [il])
    exact z_goto X hd hx hS K
  | .ifnull q =>
    obtain rfl : n = 3 := hn.resolve_right (by simp [il])
    exact z_ifnull X hd hx hS K
  | .ifnonnull q =>
    obtain rfl : n = 3 := hn.resolve_right (by simp [il])
    exact z_ifnonnull X hd hx hS K
  | .getfield k =>
    obtain rfl : n = 3 := hn.resolve_right (by simp [il])
    exact z_getfield X hd hx hS K
  | .putfield k =>
    obtain rfl : n = 3 := hn.resolve_right (by simp [il])
    exact z_putfield X hd hx hS K
  | .arraylength =>
    obtain rfl : n = 1 := hn.resolve_right (by simp [il])
    exact z_alen X hd hx hS K
  | .iaload =>
    obtain rfl : n = 1 := hn.resolve_right (by simp [il])
    exact z_iaload X hd hx hS K
  | .baload =>
    obtain rfl : n = 1 := hn.resolve_right (by simp [il])
    exact z_baload X hd hx hS K
  | .laload =>
    obtain rfl : n = 1 := hn.resolve_right (by simp [il])
    exact z_laload X hd hx hS K
  | .aaload =>
    obtain rfl : n = 1 := hn.resolve_right (by simp [il])
    exact z_aaload X hd hx hS K
  | .iastore =>
    obtain rfl : n = 1 := hn.resolve_right (by simp [il])
    exact z_iastore X hd hx hS K
  | .bastore =>
    obtain rfl : n = 1 := hn.resolve_right (by simp [il])
    exact z_bastore X hd hx hS K
  | .lastore =>
    obtain rfl : n = 1 := hn.resolve_right (by simp [il])
    exact z_lastore X hd hx hS K
  | .aastore =>
    obtain rfl : n = 1 := hn.resolve_right (by simp [il])
    exact z_aastore X hd hx hS K
  | .new k =>
    obtain rfl : n = 3 := hn.resolve_right (by simp [il])
    exact z_new X hd hx hS hc1 hc2 K
  | .newarray k =>
    obtain rfl : n = 2 := hn.resolve_right (by simp [il])
    exact z_newarray X hd hx hS hc1 hc2 K
  | .anewarray k =>
    obtain rfl : n = 3 := hn.resolve_right (by simp [il])
    exact z_anewarray X hd hx hS hc1 hc2 K
  | .invokespecial k =>
    obtain rfl : n = 3 := hn.resolve_right (by simp [il])
    exact z_objinit X hd hx hS K
  | .invokestatic k =>
    obtain rfl : n = 3 := hn.resolve_right (by simp [il])
    exact z_math X hd hx hS hc1 hc2 K
  | .if_icmp .eq q =>
    obtain rfl : n = 3 := hn.resolve_right (by simp [il])
    exact z_icmp_eq X hd hx hS K
  | .ifCond .eq q =>
    obtain rfl : n = 3 := hn.resolve_right (by simp [il])
    exact z_if_eq X hd hx hS K
  | .if_icmp .ne q =>
    obtain rfl : n = 3 := hn.resolve_right (by simp [il])
    exact z_icmp_ne X hd hx hS K
  | .ifCond .ne q =>
    obtain rfl : n = 3 := hn.resolve_right (by simp [il])
    exact z_if_ne X hd hx hS K
  | .if_icmp .lt q =>
    obtain rfl : n = 3 := hn.resolve_right (by simp [il])
    exact z_icmp_lt X hd hx hS K
  | .ifCond .lt q =>
    obtain rfl : n = 3 := hn.resolve_right (by simp [il])
    exact z_if_lt X hd hx hS K
  | .if_icmp .ge q =>
    obtain rfl : n = 3 := hn.resolve_right (by simp [il])
    exact z_icmp_ge X hd hx hS K
  | .ifCond .ge q =>
    obtain rfl : n = 3 := hn.resolve_right (by simp [il])
    exact z_if_ge X hd hx hS K
  | .if_icmp .gt q =>
    obtain rfl : n = 3 := hn.resolve_right (by simp [il])
    exact z_icmp_gt X hd hx hS K
  | .ifCond .gt q =>
    obtain rfl : n = 3 := hn.resolve_right (by simp [il])
    exact z_if_gt X hd hx hS K
  | .if_icmp .le q =>
    obtain rfl : n = 3 := hn.resolve_right (by simp [il])
    exact z_icmp_le X hd hx hS K
  | .ifCond .le q =>
    obtain rfl : n = 3 := hn.resolve_right (by simp [il])
    exact z_if_le X hd hx hS K
  | .if_acmp .eq q =>
    obtain rfl : n = 3 := hn.resolve_right (by simp [il])
    exact z_acmp_eq X hd hx hS K
  | .if_acmp .ne q =>
    obtain rfl : n = 3 := hn.resolve_right (by simp [il])
    exact z_acmp_ne X hd hx hS K
  | .tableswitch d lo hi offs => exact z_tsw X hd hx hS K
  | .invokevirtual k =>
    exfalso
    simp only [xi] at hx
    repeat (first
      | with_reducible refine pI_imp hx (fun _ _ hx => ?_)
      | with_reducible refine pL_imp hx (fun _ _ hx => ?_)
      | with_reducible refine pR_imp hx (fun _ _ _ hx => ?_)
      | with_reducible refine pA_imp hx (fun _ _ _ hx => ?_)
      | with_reducible refine bd_imp hx (fun _ _ hx => ?_)
      | with_reducible refine if_imp hx (fun _ hx => ?_))
    cases hx
  | .ireturn =>
    exfalso
    simp only [xi] at hx
    repeat (first
      | with_reducible refine pI_imp hx (fun _ _ hx => ?_)
      | with_reducible refine pL_imp hx (fun _ _ hx => ?_)
      | with_reducible refine pR_imp hx (fun _ _ _ hx => ?_)
      | with_reducible refine pA_imp hx (fun _ _ _ hx => ?_)
      | with_reducible refine bd_imp hx (fun _ _ hx => ?_)
      | with_reducible refine if_imp hx (fun _ hx => ?_))
    cases hx
  | .lreturn =>
    exfalso
    simp only [xi] at hx
    repeat (first
      | with_reducible refine pI_imp hx (fun _ _ hx => ?_)
      | with_reducible refine pL_imp hx (fun _ _ hx => ?_)
      | with_reducible refine pR_imp hx (fun _ _ _ hx => ?_)
      | with_reducible refine pA_imp hx (fun _ _ _ hx => ?_)
      | with_reducible refine bd_imp hx (fun _ _ hx => ?_)
      | with_reducible refine if_imp hx (fun _ hx => ?_))
    cases hx
  | .areturn =>
    exfalso
    simp only [xi] at hx
    repeat (first
      | with_reducible refine pI_imp hx (fun _ _ hx => ?_)
      | with_reducible refine pL_imp hx (fun _ _ hx => ?_)
      | with_reducible refine pR_imp hx (fun _ _ _ hx => ?_)
      | with_reducible refine pA_imp hx (fun _ _ _ hx => ?_)
      | with_reducible refine bd_imp hx (fun _ _ hx => ?_)
      | with_reducible refine if_imp hx (fun _ hx => ?_))
    cases hx
  | .return_ =>
    exfalso
    simp only [xi] at hx
    repeat (first
      | with_reducible refine pI_imp hx (fun _ _ hx => ?_)
      | with_reducible refine pL_imp hx (fun _ _ hx => ?_)
      | with_reducible refine pR_imp hx (fun _ _ _ hx => ?_)
      | with_reducible refine pA_imp hx (fun _ _ _ hx => ?_)
      | with_reducible refine bd_imp hx (fun _ _ hx => ?_)
      | with_reducible refine if_imp hx (fun _ hx => ?_))
    cases hx
  | .athrow => cases hx
  | .caload => cases hx
  | .castore => cases hx
  | .d2f => cases hx
  | .d2i => cases hx
  | .d2l => cases hx
  | .dadd => cases hx
  | .daload => cases hx
  | .dastore => cases hx
  | .ddiv => cases hx
  | .dmul => cases hx
  | .dneg => cases hx
  | .drem => cases hx
  | .dreturn => cases hx
  | .dsub => cases hx
  | .dup_x1 => cases hx
  | .dup_x2 => cases hx
  | .dup2_x1 => cases hx
  | .dup2_x2 => cases hx
  | .f2d => cases hx
  | .f2i => cases hx
  | .f2l => cases hx
  | .fadd => cases hx
  | .faload => cases hx
  | .fastore => cases hx
  | .fdiv => cases hx
  | .fmul => cases hx
  | .fneg => cases hx
  | .frem => cases hx
  | .freturn => cases hx
  | .fsub => cases hx
  | .i2c => cases hx
  | .i2d => cases hx
  | .i2f => cases hx
  | .i2s => cases hx
  | .idiv => cases hx
  | .ineg => cases hx
  | .ior => cases hx
  | .irem => cases hx
  | .iushr => cases hx
  | .l2d => cases hx
  | .l2f => cases hx
  | .l2i => cases hx
  | .ladd => cases hx
  | .ldiv => cases hx
  | .lmul => cases hx
  | .lneg => cases hx
  | .lrem => cases hx
  | .lshr => cases hx
  | .lsub => cases hx
  | .lushr => cases hx
  | .lxor => cases hx
  | .monitorenter => cases hx
  | .monitorexit => cases hx
  | .nop => cases hx
  | .pop2 => cases hx
  | .saload => cases hx
  | .sastore => cases hx
  | .swap => cases hx
  | .checkcast _ => cases hx
  | .dcmp _ => cases hx
  | .dconst _ => cases hx
  | .dload _ => cases hx
  | .dload_n _ => cases hx
  | .dstore _ => cases hx
  | .dstore_n _ => cases hx
  | .fcmp _ => cases hx
  | .fconst _ => cases hx
  | .fload _ => cases hx
  | .fload_n _ => cases hx
  | .fstore _ => cases hx
  | .fstore_n _ => cases hx
  | .getstatic _ => cases hx
  | .goto_w _ => cases hx
  | .instanceof _ => cases hx
  | .invokedynamic _ => cases hx
  | .invokeinterface _ _ => cases hx
  | .jsr _ => cases hx
  | .jsr_w _ => cases hx
  | .ldc_w _ => cases hx
  | .lookupswitch _ _ => cases hx
  | .lstore _ => cases hx
  | .lstore_n _ => cases hx
  | .multianewarray _ _ => cases hx
  | .putstatic _ => cases hx
  | .ret _ => cases hx
/-- the answers -/
def ro (i : Instr) (r : Option AV) (y : Nat) : Prop :=
  (i = .ireturn ∧ ∃ x, r = some (.inl x) ∧ ((mt y).2.2.2.2.1 = some .int ∨ ((mt y).2.2.2.2.1 = some .boolean ∧ (x = 0 ∨ x = 1)))) ∨
  (i = .lreturn ∧ ∃ x, r = some (.inr (.inl x)) ∧ (mt y).2.2.2.2.1 = some .long) ∨
  (i = .areturn ∧ ∃ t n, r = some (.inr (.inr (t, n))) ∧ ∃ C, (mt y).2.2.2.2.1 = some (.object C)) ∨
  (i = .return_ ∧ r = none ∧ (mt y).2.2.2.2.1 = none)
set_option maxHeartbeats 4000000 in
theorem xi_ret (i : Instr) {r : RS} (h : xi i y pc ls st m = some (.inr (.inl r))) : il i = 1 ∧ ro i r.1 y ∧ st = r.1.toList ∧ r.2 = m := by
  have hm : r.2 = m := xi_gd i h
  refine (fun (q : il i = 1 ∧ ro i r.1 y ∧ st = r.1.toList) => ⟨q.1, q.2.1, q.2.2, hm⟩) ?_
  clear hm
  cases i with
  | ireturn =>
    obtain ⟨x, r1, e1, h2⟩ := pI_inv h
    obtain ⟨⟨e2, h1⟩, h3⟩ := if_inv h2
    cases h3
    subst e2
    subst e1
    exact ⟨rfl, Or.inl ⟨rfl, x, rfl, h1⟩, rfl⟩
  | lreturn =>
    obtain ⟨x, r1, e1, h2⟩ := pL_inv h
    obtain ⟨⟨e2, h1⟩, h3⟩ := if_inv h2
    cases h3
    subst e2
    subst e1
    exact ⟨rfl, Or.inr (Or.inl ⟨rfl, x, rfl, h1⟩), rfl⟩
  | areturn =>
    simp only [xi] at h
    obtain ⟨t, n, r1, e1, h2⟩ := pR_inv h
    obtain ⟨⟨e2, h1⟩, h3⟩ := if_inv h2
    cases h3
    subst e2
    subst e1
    refine ⟨rfl, Or.inr (Or.inr (Or.inl ⟨rfl, t, n, rfl, ?_⟩)), rfl⟩
    cases hq : (mt y).2.2.2.2.1 with
    | none => rw [hq] at h1; cases h1
    | some ty =>
      rw [hq] at h1
      cases ty <;> first | exact ⟨_, rfl⟩ | cases h1
  | return_ =>
    obtain ⟨⟨e2, h1⟩, h3⟩ := if_inv h
    cases h3
    subst e2
    exact ⟨rfl, Or.inr (Or.inr (Or.inr ⟨rfl, rfl, h1⟩)), rfl⟩
  | _ =>
    exfalso
    simp only [xi] at h
    first
      | (cases h; done)
      | (repeat' (first
          | with_reducible refine pI_imp h (fun _ _ h => ?_)
          | with_reducible refine pL_imp h (fun _ _ h => ?_)
          | with_reducible refine pR_imp h (fun _ _ _ h => ?_)
          | with_reducible refine pA_imp h (fun _ _ _ h => ?_)
          | with_reducible refine pop_imp h (fun _ _ h => ?_)
          | with_reducible refine onI_imp h (fun _ h => ?_)
          | with_reducible refine onL_imp h (fun _ h => ?_)
          | with_reducible refine onR_imp h (fun _ _ h => ?_)
          | with_reducible refine bd_imp h (fun _ _ h => ?_)
          | with_reducible refine if_imp h (fun _ h => ?_)
          | split at h)) <;> cases h
def KR (P : PP) (p : Program) (l : Launch) (e : Env) (R : Room) (s : State) (mm : MethodId) (args : Array Value) (below : List Frame) (meth : Method) (c : Code) (Q : State → Prop) (y : Nat) (ρ : AM) (m : MM) (cells slots : Nat) (r : Option AV) (m' : MM) : Prop :=
  ∀ (ρ' : AM) (H' : Heap) (lsA' : Array Slot) (locs' : List Loc) (cells' slots' pc' : Nat) (i : Instr), Rl P ρ' m' H' → (∀ q ∈ locs', qB P ≤ q.base) → (∀ r n, n < mC m r → ρ' r n = ρ r n) → (∀ v, r = some v → lvq m' v) →
    cells' + mT m = cells + mT m' → slots' + mS m = slots + mS m' → decode (mt y).2.1 pc' = .ok (i, 1) → ro i r y → W p l e R s mm args below meth c H' locs' cells' slots' Q (F0 mm pc' lsA' ((r.map (cv ρ')).toList))
def SND (f : Nat) : Prop := ∀ (P : PP) (p : Program) (l : Launch) (e : Env) (R : Room) (s : State) (mm : MethodId) (args : Array Value) (below : List Frame) (meth : Method) (c : Code) (H : Heap) (locs : List Loc) (cells slots : Nat) (Q : State → Prop)
  (y pc : Nat) (ls : LV) (st : List AV) (m : MM) (lsA : Array Slot) (ρ : AM) (r : Option AV) (m' : MM), ex f (y, pc, ls, st, m) = some (r, m') → CX P p R s mm args meth c y → SS P ρ m H ls lsA (mt y).2.2.2.1 st locs →
  cells + mT m' ≤ R.cells + mT m → slots + mS m' ≤ R.slots + mS m → KR P p l e R s mm args below meth c Q y ρ m cells slots r m' → W p l e R s mm args below meth c H locs cells slots Q (F0 mm pc lsA (st.map (cv ρ)))
end SND
set_option maxHeartbeats 1000000 in
theorem xi_call (i : Instr) {y pc : Nat} {ls : LV} {st : List AV} {m : MM} {q : CF × (Nat × Nat × LV × List AV)} (h : xi i y pc ls st m = some (.inr (.inr q))) : ∃ k, i = .invokevirtual k ∨ i = .invokestatic k ∨ i = .invokespecial k := by
  cases i with
  | invokevirtual k => exact ⟨k, Or.inl rfl⟩
  | invokestatic k => exact ⟨k, Or.inr (Or.inl rfl)⟩
  | invokespecial k => exact ⟨k, Or.inr (Or.inr rfl)⟩
  | _ =>
    exfalso
    simp only [xi] at h
    first
      | (cases h; done)
      | (repeat' (first
          | with_reducible refine pI_imp h (fun _ _ h => ?_)
          | with_reducible refine pL_imp h (fun _ _ h => ?_)
          | with_reducible refine pR_imp h (fun _ _ _ h => ?_)
          | with_reducible refine pA_imp h (fun _ _ _ h => ?_)
          | with_reducible refine pop_imp h (fun _ _ h => ?_)
          | with_reducible refine onI_imp h (fun _ h => ?_)
          | with_reducible refine onL_imp h (fun _ h => ?_)
          | with_reducible refine onR_imp h (fun _ _ h => ?_)
          | with_reducible refine bd_imp h (fun _ _ h => ?_)
          | with_reducible refine if_imp h (fun _ h => ?_)
          | split at h)) <;> cases h

