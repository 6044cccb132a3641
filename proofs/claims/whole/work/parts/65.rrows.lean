/-! the reference: keeper, next, row -/
theorem enc_n4 {o : Option Nat} {n : Nat} (h : ∀ x, o = some x → x < n) (hn : n ≤ 2 ^ 30) : enc o = -4 ↔ o = none := by
  cases o with
  | none => exact ⟨fun _ => rfl, fun _ => rfl⟩
  | some p => 
    have := h p rfl
    exact ⟨fun z => absurd z (nI_n4 (p := p) (by omega)), fun z => by cases z⟩
theorem rkeep_loop {s : ST} {m : MM} {key : Int32} (h : RRp s m) : ∀ d p (best least : Option Nat), p + d = c_n s → (∀ x, least = some x → x < c_n s) → (∀ x, best = some x → x < c_n s) →
    go 159 9 [some (vr 8 (some 0)), some (vi key), some (vi (enc best)), some (vi (enc least)), some (vi (nI p))] [] m = some (some (vi (match kpF s key d p best least with | (some b, _) => nI b | (none, q) => enc q)), m) := by
  obtain ⟨hx, hn, h3, h4, h5, h6⟩ := h
  intro d
  induction d with
  | zero => 
    intro p best least hp hl hb
    rw [s159_9]
    simp only [s159_11, s159_12, s159_15, eq_self, ixk_some, bd_some, nl_n, nl_i, nl_r, Option.toList_some, Option.toList_none, List.cons_append, List.nil_append, h4]
    rw [if_pos (nI_le (by omega) (by omega))]
    simp only [s159_104, s159_105, s159_107, eq_self, ixk_some, bd_some, nl_n, nl_i, nl_r, Option.toList_some, Option.toList_none, List.cons_append, List.nil_append, kpF]
    cases best with
    | none => 
      rw [if_neg (by simp [enc])]
      simp only [s159_110, s159_111, s159_115, eq_self, ixk_some, bd_some, nl_n, nl_i, nl_r, Option.toList_some, Option.toList_none, List.cons_append, List.nil_append]
    | some b => 
      have := hb b rfl
      rw [if_pos (by rw [enc_n4 hb (by omega)]; simp)]
      simp only [s159_114, s159_115, eq_self, ixk_some, bd_some, nl_n, nl_i, nl_r, Option.toList_some, Option.toList_none, List.cons_append, List.nil_append]
      rfl
  | succ d ih => 
    intro p best least hp hl hb
    have hp2 : p < c_n s := by omega
    obtain ⟨g1, g2, g3, -⟩ := h6 p hp2
    have i21 := ixN (FN_21 hn) (i := p) (by omega) (by decide)
    have i19 := ixN (FN_19 hn) (i := p) (by omega) (by decide)
    have s1 : nI p + 1 = nI (p + 1) := nI_1 p
    rw [s159_9]
    simp only [s159_11, s159_12, s159_15, eq_self, ixk_some, bd_some, nl_n, nl_i, nl_r, Option.toList_some, Option.toList_none, List.cons_append, List.nil_append, h4]
    rw [if_neg (nI_ge hp2 (by omega))]
    simp only [s159_18, s159_19, s159_22, s159_24, s159_25, s159_26, eq_self, ixk_some, bd_some, nl_n, nl_i, nl_r, Option.toList_some, Option.toList_none, List.cons_append, List.nil_append, FX_2 hx, FX_3 hx, FX_4 hx, FX_5 hx, FX_6 hx, FX_7 hx, FX_8 hx, FX_9 hx, FX_10 hx, FX_11 hx, FX_12 hx, FX_13 hx, FX_15 hx, FX_19 hx, FX_20 hx, FX_21 hx, FX_22 hx, FX_23 hx, FX_24 hx, FX_25 hx, FX_26 hx, FX_27 hx, FX_28 hx, FX_29 hx, FX_31 hx, FX_32 hx, FX_33 hx, FX_34 hx, FX_35 hx, FX_36 hx, FX_37 hx, FX_39 hx, FX_40 hx, i21, g3]
    have nx : ∀ best least, (∀ x, least = some x → x < c_n s) → (∀ x, best = some x → x < c_n s) → go 159 98 [some (vr 8 (some 0)), some (vi key), some (vi (enc best)), some (vi (enc least)), some (vi (nI p))] [] m = some (some (vi (match kpF s key d (p + 1) best least with | (some b, _) => nI b | (none, q) => enc q)), m) := by
      intro best least a b
      have := ih (p + 1) best least (by omega) a b
      simp only [s159_98i, s159_98r, s159_98n, s159_101, eq_self, ixk_some, bd_some, nl_n, nl_i, nl_r, Option.toList_some, Option.toList_none, List.cons_append, List.nil_append, s1, this]
    unfold kpF
    by_cases e : c_be s p = 2
    · rw [if_neg (by rw [e]; decide), if_pos e]
      simp only [s159_29, s159_30, s159_33, s159_35, s159_36, s159_37, eq_self, ixk_some, bd_some, nl_n, nl_i, nl_r, Option.toList_some, Option.toList_none, List.cons_append, List.nil_append, FX_2 hx, FX_3 hx, FX_4 hx, FX_5 hx, FX_6 hx, FX_7 hx, FX_8 hx, FX_9 hx, FX_10 hx, FX_11 hx, FX_12 hx, FX_13 hx, FX_15 hx, FX_19 hx, FX_20 hx, FX_21 hx, FX_22 hx, FX_23 hx, FX_24 hx, FX_25 hx, FX_26 hx, FX_27 hx, FX_28 hx, FX_29 hx, FX_31 hx, FX_32 hx, FX_33 hx, FX_34 hx, FX_35 hx, FX_36 hx, FX_37 hx, FX_39 hx, FX_40 hx, i19, g1]
      have second : ∀ best, (∀ x, best = some x → x < c_n s) → go 159 69 [some (vr 8 (some 0)), some (vi key), some (vi (enc best)), some (vi (enc least)), some (vi (nI p))] [] m = some (some (vi (match kpF s key d (p + 1) best (if gtO s least p = true then some p else least) with | (some b, _) => nI b | (none, q) => enc q)), m) := by
        intro best hb
        have nxp := nx best (some p) (fun x hx => by cases hx; exact hp2) hb
        have nxl := nx best least hl hb
        simp only [s159_69, s159_70, s159_72, eq_self, ixk_some, bd_some, nl_n, nl_i, nl_r, Option.toList_some, Option.toList_none, List.cons_append, List.nil_append]
        cases hls : least with
        | none => 
          rw [hls] at nxl
          have e4 : enc none = -4 := rfl
          rw [if_pos e4]
          have : gtO s none p = true := rfl
          rw [if_pos this, ← nxp]
          simp only [s159_91, s159_93, s159_97i, s159_97r, s159_97n, eq_self, ixk_some, bd_some, nl_n, nl_i, nl_r, Option.toList_some, Option.toList_none, List.cons_append, List.nil_append]
          rfl
        | some q => 
          rw [hls] at nxl
          have hq : q < c_n s := hl q hls
          have gq := (h6 q hq).1
          have iq := ixN (FN_19 hn) (i := q) (by omega) (by decide)
          have eq : enc (some q) = nI q := rfl
          rw [eq] at nxl ⊢
          rw [if_neg (nI_n4 (p := q) (by omega))]
          simp only [s159_75, s159_76, s159_79, s159_81, s159_82, s159_83, s159_86, s159_87, s159_88, eq_self, ixk_some, bd_some, nl_n, nl_i, nl_r, Option.toList_some, Option.toList_none, List.cons_append, List.nil_append, FX_2 hx, FX_3 hx, FX_4 hx, FX_5 hx, FX_6 hx, FX_7 hx, FX_8 hx, FX_9 hx, FX_10 hx, FX_11 hx, FX_12 hx, FX_13 hx, FX_15 hx, FX_19 hx, FX_20 hx, FX_21 hx, FX_22 hx, FX_23 hx, FX_24 hx, FX_25 hx, FX_26 hx, FX_27 hx, FX_28 hx, FX_29 hx, FX_31 hx, FX_32 hx, FX_33 hx, FX_34 hx, FX_35 hx, FX_36 hx, FX_37 hx, FX_39 hx, FX_40 hx, i19, g1, iq, gq]
          by_cases hlt : c_nm s p < c_nm s q
          · rw [if_neg (i_nle.mpr hlt)]
            have : gtO s (some q) p = true := decide_eq_true hlt
            rw [if_pos this, ← nxp]
            simp only [s159_91, s159_93, s159_97i, s159_97r, s159_97n, eq_self, ixk_some, bd_some, nl_n, nl_i, nl_r, Option.toList_some, Option.toList_none, List.cons_append, List.nil_append]
            rfl
          · rw [if_pos (i_nlt.mp hlt)]
            have : ¬ gtO s (some q) p = true := fun z => hlt (of_decide_eq_true z)
            rw [if_neg this, ← nxl]
            simp only [s159_96, s159_97i, s159_97r, s159_97n, eq_self, ixk_some, bd_some, nl_n, nl_i, nl_r, Option.toList_some, Option.toList_none, List.cons_append, List.nil_append]
      have sp := second (some p) (fun x hx => by cases hx; exact hp2)
      have sb := second best hb
      by_cases hk : c_nm s p ≤ key
      · rw [if_neg (i_nlt.mpr hk)]
        simp only [s159_40, s159_41, s159_43, eq_self, ixk_some, bd_some, nl_n, nl_i, nl_r, Option.toList_some, Option.toList_none, List.cons_append, List.nil_append]
        cases hbs : best with
        | none => 
          have e4 : enc none = -4 := rfl
          rw [if_pos e4]
          have : c_nm s p ≤ key ∧ ltO s none p = true := ⟨hk, rfl⟩
          rw [if_pos this, ← sp]
          simp only [s159_62, s159_64, s159_68i, s159_68r, s159_68n, eq_self, ixk_some, bd_some, nl_n, nl_i, nl_r, Option.toList_some, Option.toList_none, List.cons_append, List.nil_append]
          rfl
        | some q => 
          rw [hbs] at sb
          have hq : q < c_n s := hb q hbs
          have gq := (h6 q hq).1
          have iq := ixN (FN_19 hn) (i := q) (by omega) (by decide)
          have eq : enc (some q) = nI q := rfl
          rw [eq] at sb ⊢
          rw [if_neg (nI_n4 (p := q) (by omega))]
          simp only [s159_46, s159_47, s159_50, s159_52, s159_53, s159_54, s159_57, s159_58, s159_59, eq_self, ixk_some, bd_some, nl_n, nl_i, nl_r, Option.toList_some, Option.toList_none, List.cons_append, List.nil_append, FX_2 hx, FX_3 hx, FX_4 hx, FX_5 hx, FX_6 hx, FX_7 hx, FX_8 hx, FX_9 hx, FX_10 hx, FX_11 hx, FX_12 hx, FX_13 hx, FX_15 hx, FX_19 hx, FX_20 hx, FX_21 hx, FX_22 hx, FX_23 hx, FX_24 hx, FX_25 hx, FX_26 hx, FX_27 hx, FX_28 hx, FX_29 hx, FX_31 hx, FX_32 hx, FX_33 hx, FX_34 hx, FX_35 hx, FX_36 hx, FX_37 hx, FX_39 hx, FX_40 hx, i19, g1, iq, gq]
          by_cases hlt : c_nm s q < c_nm s p
          · rw [if_neg (i_nle.mpr hlt)]
            have : c_nm s p ≤ key ∧ ltO s (some q) p = true := ⟨hk, decide_eq_true hlt⟩
            rw [if_pos this, ← sp]
            simp only [s159_62, s159_64, s159_68i, s159_68r, s159_68n, eq_self, ixk_some, bd_some, nl_n, nl_i, nl_r, Option.toList_some, Option.toList_none, List.cons_append, List.nil_append]
            rfl
          · rw [if_pos (i_nlt.mp hlt)]
            have : ¬ (c_nm s p ≤ key ∧ ltO s (some q) p = true) := fun z => hlt (of_decide_eq_true z.2)
            rw [if_neg this, ← sb]
            simp only [s159_67, s159_68i, s159_68r, s159_68n, eq_self, ixk_some, bd_some, nl_n, nl_i, nl_r, Option.toList_some, Option.toList_none, List.cons_append, List.nil_append]
      · rw [if_pos (i_nle.mp hk), if_neg (fun z => hk z.1), ← sb]
        simp only [s159_67, s159_68i, s159_68r, s159_68n, eq_self, ixk_some, bd_some, nl_n, nl_i, nl_r, Option.toList_some, Option.toList_none, List.cons_append, List.nil_append]
    · rw [if_pos (be_ne2 (h5 p hp2) e), if_neg e]
      exact nx best least hl hb
theorem rr_keeper {s : ST} {m : MM} {key : Int32} (h : RRp s m) : go 159 0 [some (vr 8 (some 0)), some (vi key), none, none, none] [] m = some (some (vi (o_keeper s key)), m) := by
  have := rkeep_loop (key := key) h (c_n s) 0 none none (by omega) (fun x hx => by cases hx) (fun x hx => by cases hx)
  unfold o_keeper
  refine Eq.trans ?_ this
  simp only [s159_0, s159_2i, s159_2r, s159_2n, s159_3, s159_5i, s159_5r, s159_5n, s159_6, s159_7i, s159_7r, s159_7n, eq_self, ixk_some, bd_some, nl_n, nl_i, nl_r, Option.toList_some, Option.toList_none, List.cons_append, List.nil_append]
  rfl
theorem rnext_loop {s : ST} {m : MM} {u l d : Nat} (h : RRp s m) (hu : u < c_n s) (hd : d < 2) : ∀ k q (o : Option Nat), q + k = c_n s → (∀ x, o = some x → x < c_n s) →
    go 160 7 [some (vr 8 (some 0)), some (vi (nI u)), some (vi (nI l)), some (vi (nI d)), some (vi (enc o)), some (vi (nI q))] [] m = some (some (vi (enc (nxF s u l d k q o))), m) := by
  have h' := h
  obtain ⟨hx, hn, h3, h4, h5, h6⟩ := h'
  intro k
  induction k with
  | zero => 
    intro q o hq ho
    rw [s160_7]
    simp only [s160_9, s160_10, s160_13, eq_self, ixk_some, bd_some, nl_n, nl_i, nl_r, Option.toList_some, Option.toList_none, List.cons_append, List.nil_append, h4]
    rw [if_pos (nI_le (by omega) (by omega))]
    simp only [s160_141, s160_143, eq_self, ixk_some, bd_some, nl_n, nl_i, nl_r, Option.toList_some, Option.toList_none, List.cons_append, List.nil_append]
    rfl
  | succ k ih => 
    intro q o hq ho
    have hq2 : q < c_n s := by omega
    obtain ⟨g1, g2, g3, -⟩ := h6 q hq2
    have gu := (h6 u hu).1
    have i21 := ixN (FN_21 hn) (i := q) (by omega) (by decide)
    have i19 := ixN (FN_19 hn) (i := q) (by omega) (by decide)
    have iu := ixN (FN_19 hn) (i := u) (by omega) (by decide)
    have s1 : nI q + 1 = nI (q + 1) := nI_1 q
    have lk := rr_like (i := u) (j := q) (l := l) h hu hq2
    rw [s160_7]
    simp only [s160_9, s160_10, s160_13, eq_self, ixk_some, bd_some, nl_n, nl_i, nl_r, Option.toList_some, Option.toList_none, List.cons_append, List.nil_append, h4]
    rw [if_neg (nI_ge hq2 (by omega))]
    have nx : ∀ o, (∀ x, o = some x → x < c_n s) → go 160 135 [some (vr 8 (some 0)), some (vi (nI u)), some (vi (nI l)), some (vi (nI d)), some (vi (enc o)), some (vi (nI q))] [] m = some (some (vi (enc (nxF s u l d k (q + 1) o))), m) := by
      intro o ho
      have := ih (q + 1) o (by omega) ho
      simp only [s160_135i, s160_135r, s160_135n, s160_138, eq_self, ixk_some, bd_some, nl_n, nl_i, nl_r, Option.toList_some, Option.toList_none, List.cons_append, List.nil_append, s1, this]
    have yes : go 160 131 [some (vr 8 (some 0)), some (vi (nI u)), some (vi (nI l)), some (vi (nI d)), some (vi (enc o)), some (vi (nI q))] [] m = some (some (vi (enc (nxF s u l d k (q + 1) (some q)))), m) := by
      have := nx (some q) (fun x hx => by cases hx; exact hq2)
      rw [← this]
      simp only [s160_131, s160_133i, s160_133r, s160_133n, eq_self, ixk_some, bd_some, nl_n, nl_i, nl_r, Option.toList_some, Option.toList_none, List.cons_append, List.nil_append]
      rfl
    have no := nx o ho
    unfold nxF
    simp only [s160_16, s160_18, s160_19, eq_self, ixk_some, bd_some, nl_n, nl_i, nl_r, Option.toList_some, Option.toList_none, List.cons_append, List.nil_append]
    by_cases eu : q = u
    · rw [if_pos (by rw [eu]), if_neg (fun z => ?_)]
      · exact no
      · have := z.2.2.1
        subst eu
        unfold bey at this
        by_cases d0 : d = 0
        · rw [if_pos d0] at this
          have := Int32.lt_iff_toInt_lt.mp (of_decide_eq_true this)
          omega
        · rw [if_neg d0] at this
          have := Int32.lt_iff_toInt_lt.mp (of_decide_eq_true this)
          omega
    · rw [if_neg (fun z => eu ((nI_eq (by omega) (by omega)).mp z))]
      simp only [s160_22, s160_23, s160_26, s160_28, s160_29, s160_30, eq_self, ixk_some, bd_some, nl_n, nl_i, nl_r, Option.toList_some, Option.toList_none, List.cons_append, List.nil_append, FX_2 hx, FX_3 hx, FX_4 hx, FX_5 hx, FX_6 hx, FX_7 hx, FX_8 hx, FX_9 hx, FX_10 hx, FX_11 hx, FX_12 hx, FX_13 hx, FX_15 hx, FX_19 hx, FX_20 hx, FX_21 hx, FX_22 hx, FX_23 hx, FX_24 hx, FX_25 hx, FX_26 hx, FX_27 hx, FX_28 hx, FX_29 hx, FX_31 hx, FX_32 hx, FX_33 hx, FX_34 hx, FX_35 hx, FX_36 hx, FX_37 hx, FX_39 hx, FX_40 hx, i21, g3]
      by_cases e : c_be s q = 2
      · rw [if_neg (by rw [e]; decide)]
        simp only [s160_33, s160_34, s160_35, s160_37, s160_38, s160_41, eq_self, ixk_some, bd_some, nl_n, nl_i, nl_r, Option.toList_some, Option.toList_none, List.cons_append, List.nil_append, lk]
        cases hlk : like s u q l
        · rw [b2_f, if_pos rfl, if_neg (fun z => by cases z.2.1)]
          exact no
        · rw [b2_t, if_neg (by decide)]
          have ng : ∀ x, o = some x → mI m 19 0 x = c_nm s x ∧ ix (nI x) (mN m 19 0) = some x ∧ x < c_n s := fun x hx => ⟨(h6 x (ho x hx)).1, ixN (FN_19 hn) (by have := ho x hx; omega) (by decide), ho x hx⟩
          have hd2 : d = 0 ∨ d = 1 := by omega
          rcases hd2 with rfl | rfl
          · rw [show nI 0 = 0 from rfl] at yes no ⊢
            simp only [s160_44, s160_45, s160_48, s160_49, s160_52, s160_54, s160_55, s160_56, s160_59, s160_60, s160_61, eq_self, ixk_some, bd_some, nl_n, nl_i, nl_r, Option.toList_some, Option.toList_none, List.cons_append, List.nil_append, FX_2 hx, FX_3 hx, FX_4 hx, FX_5 hx, FX_6 hx, FX_7 hx, FX_8 hx, FX_9 hx, FX_10 hx, FX_11 hx, FX_12 hx, FX_13 hx, FX_15 hx, FX_19 hx, FX_20 hx, FX_21 hx, FX_22 hx, FX_23 hx, FX_24 hx, FX_25 hx, FX_26 hx, FX_27 hx, FX_28 hx, FX_29 hx, FX_31 hx, FX_32 hx, FX_33 hx, FX_34 hx, FX_35 hx, FX_36 hx, FX_37 hx, FX_39 hx, FX_40 hx, i19, g1, iu, gu, not_true_eq_false, if_false]
            by_cases hb : c_nm s q < c_nm s u
            · have hbe : bey s q u 0 = true := by unfold bey; rw [if_pos rfl]; exact decide_eq_true hb
              rw [if_neg (i_nle.mpr hb)]
              simp only [s160_64, s160_66, s160_68, eq_self, ixk_some, bd_some, nl_n, nl_i, nl_r, Option.toList_some, Option.toList_none, List.cons_append, List.nil_append]
              cases hos : o with
              | none => 
                rw [hos] at yes
                rw [if_pos (show enc none = -4 from rfl), if_pos ⟨e, trivial, hbe, rfl⟩]
                exact yes
              | some x => 
                rw [hos] at yes no
                obtain ⟨n1, n2, n3⟩ := ng x hos
                have ex : enc (some x) = nI x := rfl
                rw [ex] at yes no ⊢
                rw [if_neg (nI_n4 (p := x) (by omega))]
                simp only [s160_71, s160_72, s160_75, s160_77, s160_78, s160_79, s160_82, s160_84, s160_85, eq_self, ixk_some, bd_some, nl_n, nl_i, nl_r, Option.toList_some, Option.toList_none, List.cons_append, List.nil_append, FX_2 hx, FX_3 hx, FX_4 hx, FX_5 hx, FX_6 hx, FX_7 hx, FX_8 hx, FX_9 hx, FX_10 hx, FX_11 hx, FX_12 hx, FX_13 hx, FX_15 hx, FX_19 hx, FX_20 hx, FX_21 hx, FX_22 hx, FX_23 hx, FX_24 hx, FX_25 hx, FX_26 hx, FX_27 hx, FX_28 hx, FX_29 hx, FX_31 hx, FX_32 hx, FX_33 hx, FX_34 hx, FX_35 hx, FX_36 hx, FX_37 hx, FX_39 hx, FX_40 hx, i19, g1, n2, n1]
                by_cases hxq : c_nm s x < c_nm s q
                · rw [if_neg (i_nle.mpr hxq), if_pos ⟨e, trivial, hbe, by unfold nbO bey; simp [hxq]⟩]
                  simp only [s160_88, eq_self, ixk_some, bd_some, nl_n, nl_i, nl_r, Option.toList_some, Option.toList_none, List.cons_append, List.nil_append]
                  exact yes
                · rw [if_pos (i_nlt.mp hxq), if_neg (fun z => hxq (by have := z.2.2.2; unfold nbO bey at this; simpa using this))]
                  exact no
            · rw [if_pos (i_nlt.mp hb), if_neg (fun z => hb (by have := z.2.2.1; unfold bey at this; simpa using this))]
              exact no
          · rw [show nI 1 = 1 from rfl] at yes no ⊢
            have x10 : ¬ (1 : Int32) = 0 := by decide
            simp only [s160_44, s160_45, s160_91, s160_92, s160_95, s160_97, s160_98, s160_99, s160_102, s160_103, s160_104, eq_self, ixk_some, bd_some, nl_n, nl_i, nl_r, Option.toList_some, Option.toList_none, List.cons_append, List.nil_append, FX_2 hx, FX_3 hx, FX_4 hx, FX_5 hx, FX_6 hx, FX_7 hx, FX_8 hx, FX_9 hx, FX_10 hx, FX_11 hx, FX_12 hx, FX_13 hx, FX_15 hx, FX_19 hx, FX_20 hx, FX_21 hx, FX_22 hx, FX_23 hx, FX_24 hx, FX_25 hx, FX_26 hx, FX_27 hx, FX_28 hx, FX_29 hx, FX_31 hx, FX_32 hx, FX_33 hx, FX_34 hx, FX_35 hx, FX_36 hx, FX_37 hx, FX_39 hx, FX_40 hx, i19, g1, iu, gu, x10, not_false_eq_true, if_true]
            by_cases hb : c_nm s u < c_nm s q
            · have hbe : bey s q u 1 = true := by unfold bey; rw [if_neg (by decide)]; exact decide_eq_true hb
              rw [if_neg (i_nle.mpr hb)]
              simp only [s160_107, s160_109, s160_111, eq_self, ixk_some, bd_some, nl_n, nl_i, nl_r, Option.toList_some, Option.toList_none, List.cons_append, List.nil_append]
              cases hos : o with
              | none => 
                rw [hos] at yes
                rw [if_pos (show enc none = -4 from rfl), if_pos ⟨e, trivial, hbe, rfl⟩]
                exact yes
              | some x => 
                rw [hos] at yes no
                obtain ⟨n1, n2, n3⟩ := ng x hos
                have ex : enc (some x) = nI x := rfl
                rw [ex] at yes no ⊢
                rw [if_neg (nI_n4 (p := x) (by omega))]
                simp only [s160_114, s160_115, s160_118, s160_120, s160_121, s160_122, s160_125, s160_127, s160_128, eq_self, ixk_some, bd_some, nl_n, nl_i, nl_r, Option.toList_some, Option.toList_none, List.cons_append, List.nil_append, FX_2 hx, FX_3 hx, FX_4 hx, FX_5 hx, FX_6 hx, FX_7 hx, FX_8 hx, FX_9 hx, FX_10 hx, FX_11 hx, FX_12 hx, FX_13 hx, FX_15 hx, FX_19 hx, FX_20 hx, FX_21 hx, FX_22 hx, FX_23 hx, FX_24 hx, FX_25 hx, FX_26 hx, FX_27 hx, FX_28 hx, FX_29 hx, FX_31 hx, FX_32 hx, FX_33 hx, FX_34 hx, FX_35 hx, FX_36 hx, FX_37 hx, FX_39 hx, FX_40 hx, i19, g1, n2, n1]
                by_cases hxq : c_nm s q < c_nm s x
                · rw [if_neg (i_nle.mpr hxq), if_pos ⟨e, trivial, hbe, by unfold nbO bey; simp [hxq]⟩]
                  exact yes
                · rw [if_pos (i_nlt.mp hxq), if_neg (fun z => hxq (by have := z.2.2.2; unfold nbO bey at this; simpa using this))]
                  exact no
            · rw [if_pos (i_nlt.mp hb), if_neg (fun z => hb (by have := z.2.2.1; unfold bey at this; simpa using this))]
              exact no
      · rw [if_pos (be_ne2 (h5 q hq2) e), if_neg (fun z => e z.1)]
        exact no
theorem rr_next {s : ST} {m : MM} {u l d : Nat} (h : RRp s m) (hu : u < c_n s) (hd : d < 2) : go 160 0 [some (vr 8 (some 0)), some (vi (nI u)), some (vi (nI l)), some (vi (nI d)), none, none] [] m = some (some (vi (enc (nxt s u l d))), m) := by
  have := rnext_loop (l := l) h hu hd (c_n s) 0 none (by omega) (fun x hx => by cases hx)
  unfold nxt
  rw [← this]
  simp only [s160_0, s160_2i, s160_2r, s160_2n, s160_4, s160_5i, s160_5r, s160_5n, eq_self, ixk_some, bd_some, nl_n, nl_i, nl_r, Option.toList_some, Option.toList_none, List.cons_append, List.nil_append]
  rfl
theorem rrank_loop {s : ST} {m : MM} {q u l : Nat} {i : Int32} (h : RRp s m) (hq : q < c_n s) (hu : u < c_n s) : ∀ d r acc, r + d = c_n s → ∀ z,
    go 161 126 [some (vr 8 (some 0)), some (vi (nI u)), some (vi (nI l)), some (vi i), some (vi (nI q)), some (vi (nI (acc + cntF (fun r => c_be s r == 2 && like s u r l && decide (c_nm s r < c_nm s q)) d r))), some (vi (nI (c_n s)))] [] m = z →
    go 161 62 [some (vr 8 (some 0)), some (vi (nI u)), some (vi (nI l)), some (vi i), some (vi (nI q)), some (vi (nI acc)), some (vi (nI r))] [] m = z := by
  have h' := h
  obtain ⟨hx, hn, h3, h4, h5, h6⟩ := h'
  intro d
  induction d with
  | zero => 
    intro r acc hr z hz
    rw [s161_62]
    simp only [s161_64, s161_65, s161_68, eq_self, ixk_some, bd_some, nl_n, nl_i, nl_r, Option.toList_some, Option.toList_none, List.cons_append, List.nil_append, h4]
    rw [if_pos (nI_le (by omega) (by omega)), ← hz]
    rw [show r = c_n s by omega]
    rfl
  | succ d ih => 
    intro r acc hr z hz
    have hr2 : r < c_n s := by omega
    obtain ⟨g1, g2, g3, -⟩ := h6 r hr2
    have gq := (h6 q hq).1
    have i21 := ixN (FN_21 hn) (i := r) (by omega) (by decide)
    have i19 := ixN (FN_19 hn) (i := r) (by omega) (by decide)
    have iq := ixN (FN_19 hn) (i := q) (by omega) (by decide)
    have s1 : nI r + 1 = nI (r + 1) := nI_1 r
    have s2 : nI acc + 1 = nI (acc + 1) := nI_1 acc
    have lk := rr_like (i := u) (j := r) (l := l) h hu hr2
    rw [s161_62]
    simp only [s161_64, s161_65, s161_68, eq_self, ixk_some, bd_some, nl_n, nl_i, nl_r, Option.toList_some, Option.toList_none, List.cons_append, List.nil_append, h4]
    rw [if_neg (nI_ge hr2 (by omega))]
    simp only [s161_71, s161_73, s161_74, s161_77, s161_79, s161_80, s161_81, eq_self, ixk_some, bd_some, nl_n, nl_i, nl_r, Option.toList_some, Option.toList_none, List.cons_append, List.nil_append, FX_2 hx, FX_3 hx, FX_4 hx, FX_5 hx, FX_6 hx, FX_7 hx, FX_8 hx, FX_9 hx, FX_10 hx, FX_11 hx, FX_12 hx, FX_13 hx, FX_15 hx, FX_19 hx, FX_20 hx, FX_21 hx, FX_22 hx, FX_23 hx, FX_24 hx, FX_25 hx, FX_26 hx, FX_27 hx, FX_28 hx, FX_29 hx, FX_31 hx, FX_32 hx, FX_33 hx, FX_34 hx, FX_35 hx, FX_36 hx, FX_37 hx, FX_39 hx, FX_40 hx, i21, g3]
    unfold cntF at hz
    have yes : (c_be s r == 2 && like s u r l && decide (c_nm s r < c_nm s q)) = true → go 161 117 [some (vr 8 (some 0)), some (vi (nI u)), some (vi (nI l)), some (vi i), some (vi (nI q)), some (vi (nI acc)), some (vi (nI r))] [vi 1, vi (nI acc)] m = z := by
      intro e
      rw [if_pos e, ← Nat.add_assoc] at hz
      have := ih (r + 1) (acc + 1) (by omega) z hz
      rw [← this]
      simp only [s161_117, s161_118i, s161_118r, s161_118n, s161_120i, s161_120r, s161_120n, s161_123, eq_self, ixk_some, bd_some, nl_n, nl_i, nl_r, Option.toList_some, Option.toList_none, List.cons_append, List.nil_append, s1, s2]
    have no : ¬ (c_be s r == 2 && like s u r l && decide (c_nm s r < c_nm s q)) = true → go 161 116 [some (vr 8 (some 0)), some (vi (nI u)), some (vi (nI l)), some (vi i), some (vi (nI q)), some (vi (nI acc)), some (vi (nI r))] [vi (nI acc)] m = z := by
      intro e
      rw [if_neg e, Nat.zero_add] at hz
      have := ih (r + 1) acc (by omega) z hz
      rw [← this]
      simp [s161_116, s161_117, s161_118i, s161_118r, s161_118n, s161_120i, s161_120r, s161_120n, s161_123, eq_self, ixk_some, bd_some, nl_n, nl_i, nl_r, Option.toList_some, Option.toList_none, List.cons_append, List.nil_append, s1]
    by_cases e : c_be s r = 2
    · rw [if_neg (by rw [e]; decide)]
      simp only [s161_84, s161_85, s161_86, s161_88, s161_89, s161_92, eq_self, ixk_some, bd_some, nl_n, nl_i, nl_r, Option.toList_some, Option.toList_none, List.cons_append, List.nil_append, lk]
      cases hlk : like s u r l
      · rw [b2_f, if_pos rfl]
        exact no (by simp [hlk])
      · rw [b2_t, if_neg (by decide)]
        simp only [s161_95, s161_96, s161_99, s161_101, s161_102, s161_103, s161_106, s161_108, s161_109, eq_self, ixk_some, bd_some, nl_n, nl_i, nl_r, Option.toList_some, Option.toList_none, List.cons_append, List.nil_append, FX_2 hx, FX_3 hx, FX_4 hx, FX_5 hx, FX_6 hx, FX_7 hx, FX_8 hx, FX_9 hx, FX_10 hx, FX_11 hx, FX_12 hx, FX_13 hx, FX_15 hx, FX_19 hx, FX_20 hx, FX_21 hx, FX_22 hx, FX_23 hx, FX_24 hx, FX_25 hx, FX_26 hx, FX_27 hx, FX_28 hx, FX_29 hx, FX_31 hx, FX_32 hx, FX_33 hx, FX_34 hx, FX_35 hx, FX_36 hx, FX_37 hx, FX_39 hx, FX_40 hx, i19, g1, iq, gq]
        by_cases hlt : c_nm s r < c_nm s q
        · rw [if_neg (i_nle.mpr hlt)]
          simp only [s161_112, s161_113, eq_self, ixk_some, bd_some, nl_n, nl_i, nl_r, Option.toList_some, Option.toList_none, List.cons_append, List.nil_append]
          exact yes (by simp [e, hlk, hlt])
        · rw [if_pos (i_nlt.mp hlt)]
          exact no (by simp [hlt])
    · rw [if_pos (be_ne2 (h5 r hr2) e)]
      exact no (by simp [e])
theorem rrow_loop {s : ST} {m : MM} {u l : Nat} {i : Int32} (h : RRp s m) (hu : u < c_n s) : ∀ d q (a5 a6 : Option AV), q + d = c_n s →
    go 161 25 [some (vr 8 (some 0)), some (vi (nI u)), some (vi (nI l)), some (vi i), some (vi (nI q)), a5, a6] [] m = some (some (vi (rwF s u l i d q)), m) := by
  have h' := h
  obtain ⟨hx, hn, h3, h4, h5, h6⟩ := h'
  intro d
  induction d with
  | zero => 
    intro q a5 a6 hq
    rw [s161_25]
    simp only [s161_27, s161_28, s161_31, eq_self, ixk_some, bd_some, nl_n, nl_i, nl_r, Option.toList_some, Option.toList_none, List.cons_append, List.nil_append, h4]
    rw [if_pos (nI_le (by omega) (by omega))]
    simp only [s161_141, s161_143, eq_self, ixk_some, bd_some, nl_n, nl_i, nl_r, Option.toList_some, Option.toList_none, List.cons_append, List.nil_append]
    rfl
  | succ d ih => 
    intro q a5 a6 hq
    have hq2 : q < c_n s := by omega
    obtain ⟨g1, g2, g3, -⟩ := h6 q hq2
    have i21 := ixN (FN_21 hn) (i := q) (by omega) (by decide)
    have s1 : nI q + 1 = nI (q + 1) := nI_1 q
    have lk := rr_like (i := u) (j := q) (l := l) h hu hq2
    have nx : ∀ a5 a6, go 161 135 [some (vr 8 (some 0)), some (vi (nI u)), some (vi (nI l)), some (vi i), some (vi (nI q)), a5, a6] [] m = some (some (vi (rwF s u l i d (q + 1))), m) := by
      intro a5 a6
      have := ih (q + 1) a5 a6 (by omega)
      simp only [s161_135i, s161_135r, s161_135n, s161_138, eq_self, ixk_some, bd_some, nl_n, nl_i, nl_r, Option.toList_some, Option.toList_none, List.cons_append, List.nil_append, s1, this]
    rw [s161_25]
    simp only [s161_27, s161_28, s161_31, eq_self, ixk_some, bd_some, nl_n, nl_i, nl_r, Option.toList_some, Option.toList_none, List.cons_append, List.nil_append, h4]
    rw [if_neg (nI_ge hq2 (by omega))]
    simp only [s161_34, s161_35, s161_38, s161_40, s161_41, s161_42, eq_self, ixk_some, bd_some, nl_n, nl_i, nl_r, Option.toList_some, Option.toList_none, List.cons_append, List.nil_append, FX_2 hx, FX_3 hx, FX_4 hx, FX_5 hx, FX_6 hx, FX_7 hx, FX_8 hx, FX_9 hx, FX_10 hx, FX_11 hx, FX_12 hx, FX_13 hx, FX_15 hx, FX_19 hx, FX_20 hx, FX_21 hx, FX_22 hx, FX_23 hx, FX_24 hx, FX_25 hx, FX_26 hx, FX_27 hx, FX_28 hx, FX_29 hx, FX_31 hx, FX_32 hx, FX_33 hx, FX_34 hx, FX_35 hx, FX_36 hx, FX_37 hx, FX_39 hx, FX_40 hx, i21, g3]
    unfold rwF
    by_cases e : c_be s q = 2
    · rw [if_neg (by rw [e]; decide)]
      simp only [s161_45, s161_46, s161_47, s161_49, s161_50, s161_53, eq_self, ixk_some, bd_some, nl_n, nl_i, nl_r, Option.toList_some, Option.toList_none, List.cons_append, List.nil_append, lk]
      cases hlk : like s u q l
      · rw [b2_f, if_pos rfl, if_neg (fun z => by cases z.2.1)]
        exact nx _ _
      · rw [b2_t, if_neg (by decide)]
        have rk := rrank_loop (l := l) (i := i) h hq2 hu (c_n s) 0 0 (by omega)
        rw [Nat.zero_add] at rk
        simp only [s161_56, s161_57i, s161_57r, s161_57n, s161_59, s161_60i, s161_60r, s161_60n, eq_self, ixk_some, bd_some, nl_n, nl_i, nl_r, Option.toList_some, Option.toList_none, List.cons_append, List.nil_append]
        refine rk _ ?_
        show go 161 126 [some (vr 8 (some 0)), some (vi (nI u)), some (vi (nI l)), some (vi i), some (vi (nI q)), some (vi (nI (rkF s u l q))), some (vi (nI (c_n s)))] [] m = _
        simp only [s161_126, s161_128, s161_129, eq_self, ixk_some, bd_some, nl_n, nl_i, nl_r, Option.toList_some, Option.toList_none, List.cons_append, List.nil_append]
        by_cases hr : nI (rkF s u l q) = i
        · rw [if_neg (fun z => z hr), if_pos ⟨e, trivial, hr⟩]
          simp only [s161_132, s161_134, eq_self, ixk_some, bd_some, nl_n, nl_i, nl_r, Option.toList_some, Option.toList_none, List.cons_append, List.nil_append]
        · rw [if_pos hr, if_neg (fun z => hr z.2.2)]
          exact nx _ _
    · rw [if_pos (be_ne2 (h5 q hq2) e), if_neg (fun z => e z.1)]
      exact nx _ _
theorem rr_row {s : ST} {m : MM} {p l i : Int32} (h : RRp s m) : go 161 0 [some (vr 8 (some 0)), some (vi p), some (vi l), some (vi i), none, none, none] [] m = some (some (vi (o_row s p l i)), m) := by
  have a0 := rr_isPeer (p := p) h
  have b0 := go_in (m := m) (v := l.toInt64) (a := 0) (b := 8)
  rw [t64, show (0 : Int64).toInt = 0 by decide, show (8 : Int64).toInt = 8 by decide] at b0
  unfold o_row
  rcases isP_cases s p with h0 | ⟨h0, h1, h2⟩
  · rw [h0, b2_f] at a0
    simp [s161_0, s161_1, s161_2, s161_5, s161_8, s161_9, s161_10, s161_11, s161_14, s161_17, s161_20, s161_21, s161_22, s161_23i, s161_23r, s161_23n, s161_27, s161_28, s161_31, s161_34, s161_35, s161_38, s161_40, s161_41, s161_42, s161_45, s161_46, s161_47, s161_49, s161_50, s161_53, s161_56, s161_57i, s161_57r, s161_57n, s161_59, s161_60i, s161_60r, s161_60n, s161_64, s161_65, s161_68, s161_71, s161_73, s161_74, s161_77, s161_79, s161_80, s161_81, s161_84, s161_85, s161_86, s161_88, s161_89, s161_92, s161_95, s161_96, s161_99, s161_101, s161_102, s161_103, s161_106, s161_108, s161_109, s161_112, s161_113, s161_116, s161_117, s161_118i, s161_118r, s161_118n, s161_120i, s161_120r, s161_120n, s161_123, s161_126, s161_128, s161_129, s161_132, s161_134, s161_135i, s161_135r, s161_135n, s161_138, s161_141, s161_143, eq_self, ixk_some, bd_some, nl_n, nl_i, nl_r, Option.toList_some, Option.toList_none, List.cons_append, List.nil_append, a0, h0]
  · rw [h0, b2_t] at a0
    by_cases hl : 0 ≤ l.toInt ∧ l.toInt ≤ 8
    · rw [decide_eq_true hl, b2_t] at b0
      rw [if_neg (by rw [h0]; simp [hl])]
      obtain ⟨q1, q2⟩ := x_lev (n := 8) hl
      generalize p.toInt.toNat = j at *
      generalize l.toInt.toNat = lv at *
      subst h2 q2
      have L := rrow_loop (l := lv) (i := i) h h1 (c_n s) 0 none none (by omega)
      rw [show nI 0 = 0 from rfl] at L
      simp [s161_0, s161_1, s161_2, s161_5, s161_8, s161_9, s161_10, s161_11, s161_14, s161_17, s161_20, s161_21, s161_22, s161_23i, s161_23r, s161_23n, s161_27, s161_28, s161_31, s161_34, s161_35, s161_38, s161_40, s161_41, s161_42, s161_45, s161_46, s161_47, s161_49, s161_50, s161_53, s161_56, s161_57i, s161_57r, s161_57n, s161_59, s161_60i, s161_60r, s161_60n, s161_64, s161_65, s161_68, s161_71, s161_73, s161_74, s161_77, s161_79, s161_80, s161_81, s161_84, s161_85, s161_86, s161_88, s161_89, s161_92, s161_95, s161_96, s161_99, s161_101, s161_102, s161_103, s161_106, s161_108, s161_109, s161_112, s161_113, s161_116, s161_117, s161_118i, s161_118r, s161_118n, s161_120i, s161_120r, s161_120n, s161_123, s161_126, s161_128, s161_129, s161_132, s161_134, s161_135i, s161_135r, s161_135n, s161_138, s161_141, s161_143, eq_self, ixk_some, bd_some, nl_n, nl_i, nl_r, Option.toList_some, Option.toList_none, List.cons_append, List.nil_append, a0, b0, L]
    · rw [decide_eq_false hl, b2_f] at b0
      rw [if_pos (Or.inr hl)]
      simp [s161_0, s161_1, s161_2, s161_5, s161_8, s161_9, s161_10, s161_11, s161_14, s161_17, s161_20, s161_21, s161_22, s161_23i, s161_23r, s161_23n, s161_27, s161_28, s161_31, s161_34, s161_35, s161_38, s161_40, s161_41, s161_42, s161_45, s161_46, s161_47, s161_49, s161_50, s161_53, s161_56, s161_57i, s161_57r, s161_57n, s161_59, s161_60i, s161_60r, s161_60n, s161_64, s161_65, s161_68, s161_71, s161_73, s161_74, s161_77, s161_79, s161_80, s161_81, s161_84, s161_85, s161_86, s161_88, s161_89, s161_92, s161_95, s161_96, s161_99, s161_101, s161_102, s161_103, s161_106, s161_108, s161_109, s161_112, s161_113, s161_116, s161_117, s161_118i, s161_118r, s161_118n, s161_120i, s161_120r, s161_120n, s161_123, s161_126, s161_128, s161_129, s161_132, s161_134, s161_135i, s161_135r, s161_135n, s161_138, s161_141, s161_143, eq_self, ixk_some, bd_some, nl_n, nl_i, nl_r, Option.toList_some, Option.toList_none, List.cons_append, List.nil_append, a0, b0]
