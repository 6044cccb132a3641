/-! the class: an ask ends, goes along, comes -/
def finM (m : MM) (k : Nat) (x : Int32) : MM := sI (sI m 1 k 6 1) 1 k 8 x
theorem go_finish {m : MM} {k : Nat} {x : Int32} : go 3 0 [some (vr 1 (some k)), some (vi x)] [] m = some (none, finM m k x) := by
  simp only [s3_0, s3_1, s3_2b0, s3_2b1, s3_5, s3_6, s3_7, s3_10, eq_self, ixk_some, bd_some, nl_n, nl_i, nl_r, Option.toList_some, Option.toList_none, List.cons_append, List.nil_append, finM]
theorem fin_fr (m : MM) (k : Nat) (x : Int32) : fr (QS k) m (finM m k x) := fr_tr (fr_sI m _ ⟨Or.inl rfl, rfl⟩) (fr_sI _ _ ⟨Or.inl rfl, rfl⟩)
theorem RC2_fin {a : AK} {m : MM} {k : Nat} {x : Int32} {b : Bool} (h : RC2 (a_th_ a b) m k) : RC2 (a_an_ (a_dn_ a true) x) (finM m k x) k := by
  obtain ⟨g0, g1, g2, g3, g4, g5, g6, g7, g8, g9, g10, g11, g12, g13, g14, g15, g16⟩ := h
  unfold finM
  refine ⟨?_, ?_, ?_, ?_, g4, ?_, ?_, ?_, ?_, ?_, ?_, g11, g12, g13, g14, ?_, ?_⟩
  · (simp [mI_sI]; exact g0)
  · (simp [mI_sI]; exact g1)
  · (simp [mI_sI]; exact g2)
  · (simp [mI_sI]; exact g3)
  · intro z
    exact absurd (show true = false from z) (by decide)
  · simp [mI_sI]; rfl
  · (simp [mI_sI]; exact g7)
  · simp [mI_sI]; rfl
  · (simp [mI_sI]; exact g9)
  · (simp [mI_sI]; exact g10)
  · intro i y hy
    rw [mI_sI, if_neg (by omega), mI_sI, if_neg (by omega)]
    exact g15 i y hy
  · intro z i y hy
    rw [mI_sI, if_neg (by omega), mI_sI, if_neg (by omega)]
    exact g16 z i y hy
theorem AKo_fin {a : AK} {x : Int32} (h : AKo a) : AKo (a_an_ (a_dn_ a true) x) := by
  obtain ⟨o1, o2, o3, o4, o5, o6, o7⟩ := h
  exact ⟨o1, o2, o3, o4, o5, fun _ => rfl, fun _ z => absurd (show true = false from z) (by decide)⟩
theorem RC2_th {a : AK} {m : MM} {k : Nat} (h : RC2 a m k) : RC2 (a_th_ a true) (sI m 1 k 5 1) k := by
  obtain ⟨g0, g1, g2, g3, g4, g5, g6, g7, g8, g9, g10, g11, g12, g13, g14, g15, g16⟩ := h
  refine ⟨?_, ?_, ?_, ?_, g4, ?_, ?_, ?_, ?_, ?_, ?_, g11, g12, g13, g14, ?_, ?_⟩
  · (simp [mI_sI]; exact g0)
  · (simp [mI_sI]; exact g1)
  · (simp [mI_sI]; exact g2)
  · (simp [mI_sI]; exact g3)
  · intro z; simp [mI_sI]; rfl
  · (simp [mI_sI]; exact g6)
  · (simp [mI_sI]; exact g7)
  · (simp [mI_sI]; exact g8)
  · (simp [mI_sI]; exact g9)
  · (simp [mI_sI]; exact g10)
  · intro i y hy
    rw [mI_sI, if_neg (by omega)]
    exact g15 i y hy
  · intro z i y hy
    rw [mI_sI, if_neg (by omega)]
    exact g16 z i y hy
theorem RC2_va {a : AK} {m : MM} {k : Nat} {v : Int64} (h : RC2 a m k) : RC2 (a_va_ a v) (sL m 1 k 4 v) k := by
  obtain ⟨g0, g1, g2, g3, g4, g5, g6, g7, g8, g9, g10, g11, g12, g13, g14, g15, g16⟩ := h
  refine ⟨g0, g1, g2, g3, ?_, g5, g6, g7, g8, g9, g10, g11, g12, g13, g14, g15, g16⟩
  rw [mL_sL, if_pos ⟨rfl, rfl, rfl⟩]
  rfl
theorem endA_up (s : ST) (k : Nat) (a : AK) (x : Int32) : endA (c_ak_ s (up1 (c_ak s) k a)) k x = c_ak_ s (up1 (c_ak s) k (a_an_ (a_dn_ a true) x)) := by
  show c_ak_ (c_ak_ s (up1 (c_ak s) k a)) (up1 (up1 (c_ak s) k a) k (a_an_ (a_dn_ (up1 (c_ak s) k a k) true) x)) = _
  rw [up1_up1, up1_get]
  rfl
theorem go_lose {s : ST} {m : MM} {k : Nat} (h : RC s m) (hk : k < c_na s) :
    ∃ m', go 4 0 [some (vr 1 (some k))] [] m = some (none, m') ∧ RC (endA (c_ak_ s (up1 (c_ak s) k (a_lt_ (c_ak s k) true))) k (-4)) m' ∧ fK m m' := by
  have h2 := h.2.2.2.1.2.2.2.2.2.1 k hk
  have ho := h.2.2.2.1.2.2.2.2.2.2 k hk
  have e1 : go 3 0 [some (vr 1 (some k)), some (vi (-4))] [] (sI m 1 k 7 1) = some (none, finM (sI m 1 k 7 1) k (-4)) := go_finish
  have hf : fr (QS k) m (finM (sI m 1 k 7 1) k (-4)) := fr_tr (fr_sI m _ ⟨Or.inl rfl, rfl⟩) (fin_fr _ _ _)
  refine ⟨finM (sI m 1 k 7 1) k (-4), ?_, ?_, fK_fr hf QS_K⟩
  · simp only [s4_0, s4_1, s4_2b0, s4_2b1, s4_5, s4_6, s4_8, s4_11, eq_self, ixk_some, bd_some, nl_n, nl_i, nl_r, Option.toList_some, Option.toList_none, List.cons_append, List.nil_append, e1]
  · rw [endA_up]
    refine RC_ask h hf ?_ ?_
    · have : RC2 (a_lt_ (c_ak s k) true) (sI m 1 k 7 1) k := by
        obtain ⟨g0, g1, g2, g3, g4, g5, g6, g7, g8, g9, g10, g11, g12, g13, g14, g15, g16⟩ := h2
        refine ⟨?_, ?_, ?_, ?_, g4, ?_, ?_, ?_, ?_, ?_, ?_, g11, g12, g13, g14, ?_, ?_⟩
        · (simp [mI_sI]; exact g0)
        · (simp [mI_sI]; exact g1)
        · (simp [mI_sI]; exact g2)
        · (simp [mI_sI]; exact g3)
        · intro z; (simp [mI_sI]; exact g5 z)
        · (simp [mI_sI]; exact g6)
        · simp [mI_sI]; rfl
        · (simp [mI_sI]; exact g8)
        · (simp [mI_sI]; exact g9)
        · (simp [mI_sI]; exact g10)
        · intro i y hy
          rw [mI_sI, if_neg (by omega)]
          exact g15 i y hy
        · intro z i y hy
          rw [mI_sI, if_neg (by omega)]
          exact g16 z i y hy
      exact RC2_fin (b := a_th (c_ak s k)) this
    · obtain ⟨o1, o2, o3, o4, o5, o6, o7⟩ := ho
      exact ⟨o1, o2, o3, o4, o5, fun _ => rfl, fun _ z => absurd (show true = false from z) (by decide)⟩
theorem fnd_none {key : Int32} : ∀ {L : PRS}, (∀ q ∈ L, key < q.1) → fnd L key = none
  | [], _ => rfl
  | q :: r, h => by
    have h1 := Int32.lt_iff_toInt_lt.mp (h q (List.mem_cons_self ..))
    show (if q.1 = key then some q.2 else fnd r key) = none
    rw [if_neg (fun z => by rw [z] at h1; omega)]
    exact fnd_none (fun x hx => h x (List.mem_cons_of_mem _ hx))
theorem fnd_bl (key : Int32) : ∀ L : PRS, srt L → fnd L key = if hasK key L = true then some (L.getD (bl key L) (0, 0)).2 else none
  | [], _ => rfl
  | q :: r, h => by
    obtain ⟨h1, h2⟩ := List.pairwise_cons.mp h
    have ih := fnd_bl key r h2
    show (if q.1 = key then some q.2 else fnd r key) = _
    unfold hasK at ih ⊢
    by_cases hq : q.1 < key
    · have hne : ¬ q.1 = key := fun z => by
        have := Int32.lt_iff_toInt_lt.mp hq
        rw [z] at this
        omega
      simp only [bl, if_pos hq, if_neg hne]
      rw [ih, Nat.add_comm 1]
      rfl
    · simp only [bl, if_neg hq]
      by_cases he : q.1 = key
      · rw [if_pos he]
        simp [he]
      · rw [if_neg he]
        have hlt : key < q.1 := by
          apply Int32.lt_iff_toInt_lt.mpr
          have a1 := Int32.le_iff_toInt_le.mp (i_nlt.mp hq)
          have a2 : q.1.toInt ≠ key.toInt := fun z => he (Int32.toInt_inj.mp z)
          omega
        rw [fnd_none (fun x hx => by
          have := Int32.lt_iff_toInt_lt.mp (h1 x hx)
          have := Int32.lt_iff_toInt_lt.mp hlt
          apply Int32.lt_iff_toInt_lt.mpr
          omega)]
        simp [he]
theorem go_fetch {s : ST} {m : MM} {k u : Nat} {a : AK} (h : RC (c_ak_ s (up1 (c_ak s) k (a_th_ a true))) m) (hk : k < c_na s) (hu : u < c_n s) (hs : srt (c_pr s u)) (ho : AKo a) :
    ∃ m', go 72 0 [some (vr 1 (some k)), some (vr 5 (some (u + 1)))] [] m = some (none, m') ∧ RC (match fnd (c_pr s u) (a_lo a) with
      | some v => c_ak_ s (up1 (c_ak s) k (a_an_ (a_dn_ (a_va_ a v) true) 1))
      | none => c_ak_ s (up1 (c_ak s) k (a_an_ (a_dn_ a true) (-4)))) m' ∧ fK m m' := by
  obtain ⟨h2, ho2⟩ := RC_askget h hk
  have g2 := h2.2.2.1
  have g2 : mI m 1 k 2 = a_lo a := g2
  have hq : RCl m (u + 1) (c_pr s u) := h.2.2.2.2.2.1.2 u hu
  have b1 := go_holds (key := a_lo a) hq
  have b2' := go_bl (key := a_lo a) hq
  have b3 := go_valueAt (i := nI (bl (a_lo a) (c_pr s u))) hq
  have hle := bl_le (a_lo a) (c_pr s u)
  have h16 := hq.1.2.2.2.1
  rw [fnd_bl (a_lo a) _ hs]
  cases hh : hasK (a_lo a) (c_pr s u)
  · rw [hh, b2_f] at b1
    rw [if_neg (by decide)]
    refine ⟨finM m k (-4), ?_, RC_ask2 h (fin_fr _ _ _) (RC2_fin h2) (AKo_fin ho), fK_fr (fin_fr _ _ _) QS_K⟩
    have e1 : go 3 0 [some (vr 1 (some k)), some (vi (-4))] [] m = some (none, finM m k (-4)) := go_finish
    simp [s72_0, s72_1, s72_2, s72_5, s72_8, s72_11, s72_12, s72_14, s72_17, s72_18, s72_19, s72_20, s72_21, s72_22, s72_25, s72_28, s72_31, s72_34, s72_35, s72_36, s72_39, eq_self, ixk_some, bd_some, nl_n, nl_i, nl_r, Option.toList_some, Option.toList_none, List.cons_append, List.nil_append, g2, b1, e1]
  · rw [hh, b2_t] at b1
    rw [if_pos rfl]
    have hlt : bl (a_lo a) (c_pr s u) < (c_pr s u).length := by
      unfold hasK at hh
      have hh := of_decide_eq_true hh
      rcases bl_get (key := a_lo a) (L := c_pr s u) with z | z
      · exact z.1
      · rw [z.2] at hh
        simp at hh
    rw [nI_toInt (by omega), if_pos ⟨by omega, by omega⟩] at b3
    simp only [Int.toNat_natCast] at b3
    generalize (List.getD (c_pr s u) (bl (a_lo a) (c_pr s u)) (0, 0)).2 = v at *
    have hf : fr (QS k) m (finM (sL m 1 k 4 v) k 1) := fr_tr (fr_sL m _ ⟨Or.inl rfl, rfl⟩) (fin_fr _ _ _)
    refine ⟨finM (sL m 1 k 4 v) k 1, ?_, RC_ask2 h hf (RC2_fin (b := true) (a := a_va_ a v) (RC2_va h2)) ?_, fK_fr hf QS_K⟩
    · have e1 : go 3 0 [some (vr 1 (some k)), some (vi 1)] [] (sL m 1 k 4 v) = some (none, finM (sL m 1 k 4 v) k 1) := go_finish
      simp [s72_0, s72_1, s72_2, s72_5, s72_8, s72_11, s72_12, s72_14, s72_17, s72_18, s72_19, s72_20, s72_21, s72_22, s72_25, s72_28, s72_31, s72_34, s72_35, s72_36, s72_39, eq_self, ixk_some, bd_some, nl_n, nl_i, nl_r, Option.toList_some, Option.toList_none, List.cons_append, List.nil_append, g2, b1, b2', b3, e1]
    · obtain ⟨o1, o2, o3, o4, o5, o6, o7⟩ := ho
      exact ⟨o1, o2, o3, o4, o5, fun _ => rfl, fun _ z => absurd (show true = false from z) (by decide)⟩
def noA (s : ST) (a : AK) (u : Nat) : AK := if a_lo a ≤ c_nm s u ∧ c_nm s u ≤ a_hi a then ntA a u else a
theorem noA_f (s : ST) (a : AK) (u : Nat) : a_so (noA s a u) = a_so a ∧ a_lo (noA s a u) = a_lo a ∧ a_hi (noA s a u) = a_hi a ∧ a_nt a ≤ a_nt (noA s a u) ∧ a_nt (noA s a u) ≤ a_nt a + 1 := by
  unfold noA
  by_cases h : a_lo a ≤ c_nm s u ∧ c_nm s u ≤ a_hi a
  · rw [if_pos h]
    unfold ntA
    by_cases h2 : a_nt a < 40
    · rw [if_pos h2]; exact ⟨rfl, rfl, rfl, Nat.le_succ _, Nat.le_refl _⟩
    · rw [if_neg h2]; exact ⟨rfl, rfl, rfl, Nat.le_succ _, Nat.le_refl _⟩
  · rw [if_neg h]
    exact ⟨rfl, rfl, rfl, Nat.le_refl _, Nat.le_succ _⟩
def alongR (s : ST) (k u : Nat) (a : AK) : ST × Option Nat := match lnk s u 0 1 with
  | some r => if c_nm s r ≤ a_hi a then (c_ak_ s (up1 (c_ak s) k (noA s a u)), some r) else (c_ak_ s (up1 (c_ak s) k (a_an_ (a_dn_ (noA s a u) true) (nI (a_nt (noA s a u))))), none)
  | none => (c_ak_ s (up1 (c_ak s) k (a_an_ (a_dn_ (noA s a u) true) (nI (a_nt (noA s a u))))), none)
theorem go_goAlong {s : ST} {m : MM} {k u : Nat} {a : AK} (h : RC (c_ak_ s (up1 (c_ak s) k a)) m) (hcl : CLs s) (hk : k < c_na s) (hu : u < c_n s) (hn : a_nt a + 1 < 2 ^ 30) :
    ∃ m' t, go 73 0 [some (vr 1 (some k)), some (vr 6 (some u)), none] [] m = some (some (vr t (alongR s k u a).2), m') ∧ ((alongR s k u a).2 = none ∨ t = 6) ∧ RC (alongR s k u a).1 m' ∧ fK m m' := by
  obtain ⟨h2, ho⟩ := RC_askget h hk
  have g2 := h2.2.2.1
  have g3 := h2.2.2.2.1
  have hp := h.1
  have gn := (hp.2.2.2.2.2.2 u hu).1
  have gm : mI m 6 u 1 = c_nm s u := (hp.2.2.2.2.2.2 u hu).2.1
  have hu32 : u < 32 := by
    have : c_n s ≤ 32 := hp.1
    omega
  have key : ∃ m1, (∀ r, go 73 27 [some (vr 1 (some k)), some (vr 6 (some u)), none] [] m1 = r → go 73 0 [some (vr 1 (some k)), some (vr 6 (some u)), none] [] m = r) ∧ RC (c_ak_ s (up1 (c_ak s) k (noA s a u))) m1 ∧ fK m m1 := by
    unfold noA
    by_cases h1 : a_lo a ≤ c_nm s u
    · have h1' : ¬ c_nm s u < a_lo a := i_nlt.mpr h1
      by_cases h3 : c_nm s u ≤ a_hi a
      · have h3' : ¬ a_hi a < c_nm s u := i_nlt.mpr h3
        rw [if_pos ⟨h1, h3⟩]
        obtain ⟨m1, b1, b2, b3, b4⟩ := go_note (u := u) h2 ho gn hu32 hn
        refine ⟨m1, fun r hr => ?_, RC_ask2 h b4 b2 b3, fK_fr b4 QS_K⟩
        rw [← hr]
        simp only [s73_0, s73_1, s73_4, s73_5, s73_8, s73_11, s73_12, s73_15, s73_16, s73_19, s73_22, s73_23, s73_24, eq_self, ixk_some, bd_some, nl_n, nl_i, nl_r, Option.toList_some, Option.toList_none, List.cons_append, List.nil_append, g2, g3, gm, h1', h3', if_false, b1]
      · have h3' : a_hi a < c_nm s u := i_nle.mp h3
        rw [if_neg (fun z => h3 z.2)]
        refine ⟨m, fun r hr => ?_, h, fK_rf m⟩
        rw [← hr]
        simp only [s73_0, s73_1, s73_4, s73_5, s73_8, s73_11, s73_12, s73_15, s73_16, s73_19, eq_self, ixk_some, bd_some, nl_n, nl_i, nl_r, Option.toList_some, Option.toList_none, List.cons_append, List.nil_append, g2, g3, gm, h1', h3', if_false, if_true]
    · have h1' : c_nm s u < a_lo a := i_nle.mp h1
      rw [if_neg (fun z => h1 z.1)]
      refine ⟨m, fun r hr => ?_, h, fK_rf m⟩
      rw [← hr]
      simp only [s73_0, s73_1, s73_4, s73_5, s73_8, eq_self, ixk_some, bd_some, nl_n, nl_i, nl_r, Option.toList_some, Option.toList_none, List.cons_append, List.nil_append, g2, gm, h1', if_true]
  obtain ⟨m1, k1, R1, F1⟩ := key
  obtain ⟨q1, q2, q3, q4, q5⟩ := noA_f s a u
  obtain ⟨h2', ho'⟩ := RC_askget R1 hk
  have g3' : mI m1 1 k 3 = a_hi a := by
    have := h2'.2.2.2.1
    rw [q3] at this
    exact this
  have g10' : mI m1 1 k 10 = nI (a_nt (noA s a u)) := h2'.2.2.2.2.2.2.2.2.2.2.1
  have n1 : go 27 0 [some (vr 6 (some u)), some (vi 0), some (vi 1)] [] m1 = some (some (vr (tgN s u 0) (lnk s u 0 1)), m1) := go_next (l := 0) (d := 1) R1.1 hu (by decide) (by decide)
  have t1 := tg_ok s u 0 1
  have fin : RC (c_ak_ s (up1 (c_ak s) k (a_an_ (a_dn_ (noA s a u) true) (nI (a_nt (noA s a u)))))) (finM m1 k (nI (a_nt (noA s a u)))) := RC_ask2 R1 (fin_fr _ _ _) (RC2_fin (b := a_th (noA s a u)) h2') (AKo_fin ho')
  have e1 : go 3 0 [some (vr 1 (some k)), some (vi (nI (a_nt (noA s a u))))] [] m1 = some (none, finM m1 k (nI (a_nt (noA s a u)))) := go_finish
  unfold alongR
  cases hl : lnk s u 0 1 with
  | none => 
    rw [hl] at n1
    refine ⟨_, 0, k1 _ ?_, Or.inl rfl, fin, fK_tr F1 (fK_fr (fin_fr _ _ _) QS_K)⟩
    simp only [s73_27, s73_28, s73_29, s73_30, s73_33i, s73_33r, s73_33n, s73_34, s73_35n, s73_35s, s73_51, s73_52, s73_53, s73_56, s73_59, s73_60, eq_self, ixk_some, bd_some, nl_n, nl_i, nl_r, Option.toList_some, Option.toList_none, List.cons_append, List.nil_append, n1, g10', e1]
  | some r => 
    rw [hl] at n1 t1
    have t1 : tgN s u 0 = 6 := by
      rcases t1 with z | z
      · cases z
      · exact z
    rw [t1] at n1
    have hr : r < c_n s := cls_lnk hcl hu hl
    have gr : mI m1 6 r 1 = c_nm s r := (R1.1.2.2.2.2.2.2 r hr).2.1
    by_cases h5 : c_nm s r ≤ a_hi a
    · have h5' : ¬ a_hi a < c_nm s r := i_nlt.mpr h5
      simp only [if_pos h5]
      refine ⟨m1, 6, k1 _ ?_, Or.inr rfl, R1, F1⟩
      simp only [s73_27, s73_28, s73_29, s73_30, s73_33i, s73_33r, s73_33n, s73_34, s73_35n, s73_35s, s73_38, s73_39, s73_42, s73_43, s73_46, s73_49, s73_50, eq_self, ixk_some, bd_some, nl_n, nl_i, nl_r, Option.toList_some, Option.toList_none, List.cons_append, List.nil_append, n1, gr, g3', h5', if_false]
    · have h5' : a_hi a < c_nm s r := i_nle.mp h5
      simp only [if_neg h5]
      refine ⟨_, 0, k1 _ ?_, Or.inl trivial, fin, fK_tr F1 (fK_fr (fin_fr _ _ _) QS_K)⟩
      simp only [s73_27, s73_28, s73_29, s73_30, s73_33i, s73_33r, s73_33n, s73_34, s73_35n, s73_35s, s73_38, s73_39, s73_42, s73_43, s73_46, s73_51, s73_52, s73_53, s73_56, s73_59, s73_60, eq_self, ixk_some, bd_some, nl_n, nl_i, nl_r, Option.toList_some, Option.toList_none, List.cons_append, List.nil_append, n1, gr, g3', h5', if_true, g10', e1]
