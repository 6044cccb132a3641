/-! SEEK and JOIN at a peer; the walk of worst -/
theorem grow_sk0 {v : VV} {u l d p : Nat} (hl : l < 8) (hd : d < 2) (h : NU v u l d (some p)) (h1 : d = 0 → NU v u (l + 1) 1 none) : seekO v u p l d := by
  obtain ⟨a, b, c, e⟩ := h
  exact ⟨a.1, a.2.1, fun z => absurd (a.2.2 z) (by omega), hd, b, c, fun q q1 q2 q3 => e q q1 (rl_1 (by omega) q2) q3, h1⟩
def skL (l : Nat) (a b : Option Nat) : List MSG := if l < 8 then (match b with
  | some p => [(8, p, none, some l, 1, none, none)]
  | none => a.toList.map (fun p => (8, p, none, some l, 0, none, none))) else []
theorem grow_sk {v : VV} {u l : Nat} {a b : Option Nat} (hl : l < 9) (ha : NU v u l 0 a) (hb : NU v u l 1 b) : growO v u (l + 1) (skL l a b) := by
  unfold skL
  by_cases h8 : l < 8
  · rw [if_pos h8]
    cases b with
    | some p => exact Or.inr (Or.inl ⟨l, p, 1, rfl, h8, rfl, grow_sk0 h8 (by decide) hb (fun z => by cases z)⟩)
    | none =>
      cases a with
      | some p => exact Or.inr (Or.inl ⟨l, p, 0, rfl, h8, rfl, grow_sk0 h8 (by decide) ha (fun _ => nu_up (by omega) (by omega) hb)⟩)
      | none =>
        refine Or.inl ⟨rfl, Or.inr (fun d hd => ?_)⟩
        show NU v u l d none
        by_cases e : d = 0
        · rw [e]; exact ha
        · rw [show d = 1 by omega]; exact hb
  · rw [if_neg h8]
    exact Or.inl ⟨rfl, Or.inl (by omega)⟩
theorem skL_m {l : Nat} {a b : Option Nat} {g : MSG} (h : g ∈ skL l a b) : isTk g = true ∧ isLk g = false ∧ g_as g = none ∧ (a = some (g_to g) ∨ b = some (g_to g)) := by
  unfold skL at h
  by_cases h8 : l < 8
  · rw [if_pos h8] at h
    cases b with
    | some p =>
      rw [List.mem_singleton.mp h]
      exact ⟨rfl, rfl, rfl, Or.inr rfl⟩
    | none =>
      cases a with
      | some p =>
        have h : g ∈ [((8, p, none, some l, 0, none, none) : MSG)] := h
        rw [List.mem_singleton.mp h]
        exact ⟨rfl, rfl, rfl, Or.inl rfl⟩
      | none => cases h
  · rw [if_neg h8] at h
    cases h
theorem st_seek {s : ST} {z l d : Nat} (hD : nmD (vw s)) (hK : hKl (c_hs s) (c_kl s)) (hl : l < 8) (hN : netC s (l + 1) true) (hU : netU (vw s) (c_hs s) (c_kl s) (l + 1) (c_cp s)) (hS : seekO (vw s) (c_cp s) z l d) :
    ∃ x, comesSeek s z l d = snd1 s x ∧ isTk x = true ∧ isLk x = false ∧ g_as x = none ∧ g_to x < c_n s ∧ growO (vw s) (c_cp s) (l + 1) [x] := by
  obtain ⟨s1, s2, s3, s4, s5, s6, s7, s8⟩ := hS
  obtain ⟨c1, c2, n1, n2, n3⟩ := hN
  have nz1 : ∀ d', d' < 2 → NS (vw s) (l + 1) (c_cp s) (l + 1) z d' (c_kl s z (l + 1) d') := fun d' hd' => by
    rcases n2 z s1 s2 s3 (l + 1) (by omega) d' hd' with x | ⟨g, x1, x2, x3, x4, x5, x6⟩
    · exact x
    · obtain ⟨l', y1, y2, y3, y4, y5, y6, y7, y8, y9⟩ := n1 g x1 x2 x3
      rw [x5] at y1
      have := Option.some.inj y1
      have := y9 rfl
      omega
  have nz0 : NS (vw s) (l + 1) (c_cp s) l z d (c_kl s z l d) := by
    rcases n2 z s1 s2 s3 l (by omega) d s4 with x | ⟨g, x1, x2, x3, x4, x5, x6⟩
    · exact x
    · obtain ⟨l', y1, y2, y3, y4, y5, y6, y7, y8, y9⟩ := n1 g x1 x2 x3
      rw [x4, x6] at y7
      omega
  have inj := wd_inj hD 0 (c_cp s) 0
  have w1 : ∀ q, wd (vw s) 0 (c_cp s) 0 q → wd (vw s) (l + 1) (c_cp s) l q := fun q w => ⟨w.1, w.2.1, fun _ => by omega⟩
  have w1' : ∀ q, wd (vw s) (l + 1) (c_cp s) l q → q ≠ c_cp s → wd (vw s) 0 (c_cp s) 0 q := fun q w e => ⟨w.1, w.2.1, fun z => absurd z e⟩
  have w2 : ∀ q, wd (vw s) (l + 1) (c_cp s) (l + 1) q ↔ wd (vw s) 0 (c_cp s) 0 q := fun q => ⟨fun w => ⟨w.1, w.2.1, fun z => absurd (w.2.2 z) (by omega)⟩, fun w => ⟨w.1, w.2.1, fun z => absurd (w.2.2 z) (by omega)⟩⟩
  have wz : wd (vw s) 0 (c_cp s) 0 z := ⟨s1, s2, fun e => absurd e s3⟩
  have sy : ∀ l a b, rl (vw s) l a b → rl (vw s) l b a := fun _ _ _ => rl_sy
  have tr : ∀ l a b c, rl (vw s) l a b → rl (vw s) l b c → rl (vw s) l a c := fun _ _ _ _ => rl_tr
  have hR : ∀ a b, rl (vw s) (l + 1) a b → rl (vw s) l a b := fun _ _ => rl_1 (by omega)
  have ue : comesSeek s z l d = if like s z (c_cp s) (l + 1) = true then
    snd1 s (9, c_cp s, none, some (l + 1), 0, if d = 1 then lnk s z (l + 1) 0 else some z, if d = 1 then some z else lnk s z (l + 1) 1)
    else match lnk s z l d with
    | some p => snd1 s (8, p, none, some l, d, none, none)
    | none => match (if d = 1 then lnk s (c_cp s) l 0 else none) with
      | some p => snd1 s (8, p, none, some l, 0, none, none)
      | none => snd1 s (9, c_cp s, none, some (l + 1), 0, none, none) := rfl
  rw [ue]
  simp only [lnk_kl hK]
  by_cases hL : like s z (c_cp s) (l + 1) = true
  · rw [if_pos hL]
    have r1 : rl (vw s) (l + 1) (c_cp s) z := rl_sy hL
    have tz : NU (vw s) (c_cp s) (l + 1) d (some z) := ⟨wz, r1, s6, s7⟩
    have to : NU (vw s) (c_cp s) (l + 1) (1 - d) (c_kl s z (l + 1) (1 - d)) := sk_tell s4 (fun q w e => kn_inj hD c1 w.1 e) (fun w => absurd (w.2.2 rfl) (by omega)) (sy _) (tr _) w2 r1 s6 s7 (nz1 (1 - d) (by omega))
    refine ⟨_, rfl, rfl, rfl, rfl, c1, Or.inr (Or.inr ⟨_, _, by omega, rfl, ?_, ?_⟩)⟩
    · by_cases e : d = 1
      · rw [if_pos e]; rw [e] at to; exact to
      · rw [if_neg e]; rw [show d = 0 by omega] at tz; exact tz
    · by_cases e : d = 1
      · rw [if_pos e]; rw [e] at tz; exact tz
      · rw [if_neg e]; rw [show d = 0 by omega] at to; exact to
  · rw [if_neg hL]
    have r1 : ¬ rl (vw s) (l + 1) (c_cp s) z := fun x => hL (rl_sy x)
    cases hz : c_kl s z l d with
    | some p =>
      rw [hz] at nz0
      obtain ⟨p1, p2, p3, p4⟩ := sk_on inj (sy l) (tr l) hR w1 w1' wz s5 s6 s7 r1 nz0
      exact ⟨_, rfl, rfl, rfl, rfl, p1.1, Or.inr (Or.inl ⟨l, p, d, rfl, hl, rfl, p1.1, p1.2.1, fun e => absurd (p1.2.2 e) (by omega), s4, p2, p3, p4, s8⟩)⟩
    | none =>
      rw [hz] at nz0
      have e1 : NU (vw s) (c_cp s) (l + 1) d none := sk_end inj (sy l) (tr l) hR w1 wz s5 s7 r1 nz0
      by_cases f : d = 1
      · rw [f] at e1
        rw [if_pos f]
        have u0 := hU.1 l (by omega) 0 (by decide)
        cases hq : c_kl s (c_cp s) l 0 with
        | some p =>
          rw [hq] at u0
          exact ⟨_, rfl, rfl, rfl, rfl, u0.1.1, Or.inr (Or.inl ⟨l, p, 0, rfl, hl, rfl, grow_sk0 hl (by decide) u0 (fun _ => e1)⟩)⟩
        | none =>
          rw [hq] at u0
          exact ⟨_, rfl, rfl, rfl, rfl, c1, Or.inr (Or.inr ⟨_, _, by omega, rfl, nu_up (by omega) (by omega) u0, e1⟩)⟩
      · rw [if_neg f]
        have f0 : d = 0 := by omega
        rw [f0] at e1
        exact ⟨_, rfl, rfl, rfl, rfl, c1, Or.inr (Or.inr ⟨_, _, by omega, rfl, e1, s8 f0⟩)⟩
/-! aiming -/
theorem aml_some {s : ST} {u : Nat} {x : Int32} {d p : Nat} : ∀ n, aml s u x d n = some p → ∃ l, l < n ∧ lnk s u l d = some p ∧ (if d = 1 then c_nm s p ≤ x else x ≤ c_nm s p)
  | 0, h => by cases h
  | n + 1, h => by
    unfold aml at h
    cases e : lnk s u n d with
    | none =>
      rw [e] at h
      obtain ⟨l, l1, l2⟩ := aml_some n h
      exact ⟨l, by omega, l2⟩
    | some q =>
      rw [e] at h
      have h : (if (if d = 1 then c_nm s q ≤ x else x ≤ c_nm s q) then some q else aml s u x d n) = some p := h
      by_cases c : (if d = 1 then c_nm s q ≤ x else x ≤ c_nm s q)
      · rw [if_pos c] at h
        have := Option.some.inj h
        rw [← this]
        exact ⟨n, by omega, e, c⟩
      · rw [if_neg c] at h
        obtain ⟨l, l1, l2⟩ := aml_some n h
        exact ⟨l, by omega, l2⟩
theorem aml_none {s : ST} {u : Nat} {x : Int32} {d : Nat} : ∀ n, aml s u x d n = none → ∀ l, l < n → ∀ p, lnk s u l d = some p → ¬ (if d = 1 then c_nm s p ≤ x else x ≤ c_nm s p)
  | 0, h, l, hl, _, _ => by omega
  | n + 1, h, l, hl, p, hp => by
    unfold aml at h
    cases e : lnk s u n d with
    | none =>
      rw [e] at h
      by_cases c : l = n
      · rw [c, e] at hp; cases hp
      · exact aml_none n h l (by omega) p hp
    | some q =>
      rw [e] at h
      have h : (if (if d = 1 then c_nm s q ≤ x else x ≤ c_nm s q) then some q else aml s u x d n) = none := h
      by_cases c : (if d = 1 then c_nm s q ≤ x else x ≤ c_nm s q)
      · rw [if_pos c] at h; cases h
      · rw [if_neg c] at h
        by_cases c2 : l = n
        · rw [c2, e] at hp
          rw [← Option.some.inj hp]
          exact c
        · exact aml_none n h l (by omega) p hp
theorem kyd0 (K : Nat → Int) (z : Nat) : kyd K 0 z = - K z := rfl
theorem kyd1 (K : Nat → Int) (z : Nat) : kyd K 1 z = K z := rfl
theorem awy_in {s : ST} {u : Nat} (h : c_be s u = 2) : awy s u = false := by
  unfold awy
  rw [h]
  rfl
theorem onw_in {s : ST} {u : Nat} {x : Int32} (h : c_be s u = 2) : onw s u x = if c_nm s u ≤ x then aml s u x 1 9 else match aml s u x 0 9 with | some p => some p | none => lnk s u 0 0 := by
  unfold onw
  rw [awy_in h]
  rfl
theorem st_join {s : ST} {w : Nat} (hb : I_b s) (hN : netC s 0 true) (w1 : w < c_n s) (w2 : c_be s w = 2) (w3 : w ≠ c_cp s) :
    (∀ p, onw s w (c_nm s (c_cp s)) = some p → p < c_n s ∧ c_be s p = 2) ∧ (onw s w (c_nm s (c_cp s)) = none → c_nm s w < c_nm s (c_cp s) → NU (vw s) (c_cp s) 0 0 (some w) ∧ NU (vw s) (c_cp s) 0 1 (lnk s w 0 1)) ∧ (onw s w (c_nm s (c_cp s)) = none → ¬ c_nm s w < c_nm s (c_cp s) → NU (vw s) (c_cp s) 0 0 none ∧ NU (vw s) (c_cp s) 0 1 (some w)) := by
  obtain ⟨c1, c2, n1, n2, n3⟩ := hN
  have hK := hb.2.2.1
  have nz : ∀ l, l < 9 → ∀ d, d < 2 → NS (vw s) 0 (c_cp s) l w d (c_kl s w l d) := fun l hl d hd => by
    rcases n2 w w1 w2 w3 l hl d hd with x | ⟨g, x1, x2, x3, x4, x5, x6⟩
    · exact x
    · obtain ⟨l', y1, y2, y3, y4, y5, y6, y7, y8, y9⟩ := n1 g x1 x2 x3
      have := y9 rfl
      omega
  have ww : wd (vw s) 0 (c_cp s) 0 w := ⟨w1, w2, fun e => absurd e w3⟩
  have kne : ¬ (c_nm s w).toInt = (c_nm s (c_cp s)).toInt := fun e => w3 (hb.2.1 w (c_cp s) w1 c1 (Int32.toInt_inj.mp e))
  have ek : ∀ q, kn (vw s) q = (c_nm s q).toInt := fun _ => rfl
  have z1 := nz 0 (by decide) 1 (by decide)
  have z0 := nz 0 (by decide) 0 (by decide)
  rw [onw_in w2]
  refine ⟨fun p hp => ?_, fun ho lt => ?_, fun ho nlt => ?_⟩
  · have lk : ∃ l d, l < 9 ∧ d < 2 ∧ lnk s w l d = some p := by
      by_cases c : c_nm s w ≤ c_nm s (c_cp s)
      · rw [if_pos c] at hp
        obtain ⟨l, l1, l2, -⟩ := aml_some 9 hp
        exact ⟨l, 1, l1, by decide, l2⟩
      · rw [if_neg c] at hp
        cases e : aml s w (c_nm s (c_cp s)) 0 9 with
        | some q =>
          rw [e] at hp
          have := Option.some.inj hp
          rw [this] at e
          obtain ⟨l, l1, l2, -⟩ := aml_some 9 e
          exact ⟨l, 0, l1, by decide, l2⟩
        | none =>
          rw [e] at hp
          exact ⟨0, 0, by decide, by decide, hp⟩
    obtain ⟨l, d, l1, d1, e⟩ := lk
    rw [lnk_kl hK] at e
    have := nz l l1 d d1
    rw [e] at this
    exact ⟨this.1.1, this.1.2.1⟩
  · have lt' := Int32.lt_iff_toInt_lt.mp lt
    rw [if_pos (Int32.le_iff_toInt_le.mpr (by omega))] at ho
    have no := aml_none 9 ho 0 (by decide)
    rw [lnk_kl hK]
    have no' : ∀ p, c_kl s w 0 1 = some p → (c_nm s (c_cp s)).toInt < (c_nm s p).toInt := fun p e => by
      have := no p (by rw [lnk_kl hK]; exact e)
      rw [if_pos rfl, Int32.le_iff_toInt_le] at this
      omega
    constructor
    · refine ⟨ww, rl_0 _ _ _, by rw [kyd0, kyd0, ek, ek]; omega, fun q q1 q2 q3 => ?_⟩
      rw [kyd0, kyd0, ek, ek] at q3 ⊢
      by_cases c : (c_nm s w).toInt < (c_nm s q).toInt
      · exfalso
        cases e : c_kl s w 0 1 with
        | none =>
          rw [e] at z1
          exact z1 q q1 (rl_0 _ _ _) (by rw [kyd1, kyd1, ek, ek]; omega)
        | some p =>
          rw [e] at z1
          have a := z1.2.2.2 q q1 (rl_0 _ _ _) (by rw [kyd1, kyd1, ek, ek]; omega)
          have b := no' p e
          rw [kyd1, kyd1, ek, ek] at a
          omega
      · omega
    · cases e : c_kl s w 0 1 with
      | none =>
        rw [e] at z1
        intro q q1 q2 q3
        rw [kyd1, kyd1, ek, ek] at q3
        exact z1 q q1 (rl_0 _ _ _) (by rw [kyd1, kyd1, ek, ek]; omega)
      | some p =>
        rw [e] at z1
        have b := no' p e
        refine ⟨z1.1, rl_0 _ _ _, by rw [kyd1, kyd1, ek, ek]; omega, fun q q1 q2 q3 => ?_⟩
        rw [kyd1, kyd1, ek, ek] at q3
        exact z1.2.2.2 q q1 (rl_0 _ _ _) (by rw [kyd1, kyd1, ek, ek]; omega)
  · have nlt' : ¬ (c_nm s w).toInt < (c_nm s (c_cp s)).toInt := fun z => nlt (Int32.lt_iff_toInt_lt.mpr z)
    rw [if_neg (fun z => by have := Int32.le_iff_toInt_le.mp z; omega)] at ho
    have k0 : c_kl s w 0 0 = none := by
      cases e : aml s w (c_nm s (c_cp s)) 0 9 with
      | some q => rw [e] at ho; cases ho
      | none => rw [e] at ho; rw [← lnk_kl hK]; exact ho
    rw [k0] at z0
    constructor
    · intro q q1 q2 q3
      rw [kyd0, kyd0, ek, ek] at q3
      exact z0 q q1 (rl_0 _ _ _) (by rw [kyd0, kyd0, ek, ek]; omega)
    · refine ⟨ww, rl_0 _ _ _, by rw [kyd1, kyd1, ek, ek]; omega, fun q q1 q2 q3 => ?_⟩
      rw [kyd1, kyd1, ek, ek] at q3 ⊢
      by_cases c : (c_nm s q).toInt < (c_nm s w).toInt
      · exact absurd (by rw [kyd0, kyd0, ek, ek]; omega) (z0 q q1 (rl_0 _ _ _))
      · omega
/-! the walk -/
theorem wk_step {s : ST} {x : Int32} {u p : Nat} (hb : I_b s) (h : ph0 s) (u1 : u < c_n s) (u2 : c_be s u = 2) (e : onw s u x = some p) : p < c_n s ∧ c_be s p = 2 ∧ ((c_nm s u).toInt ≤ x.toInt → (c_nm s u).toInt < (c_nm s p).toInt ∧ (c_nm s p).toInt ≤ x.toInt) ∧ (x.toInt < (c_nm s u).toInt → (c_nm s p).toInt < (c_nm s u).toInt) := by
  have hK := hb.2.2.1
  have R := h.2.2.2.2 u u1 u2
  have ek : ∀ q, kn (vw s) q = (c_nm s q).toInt := fun _ => rfl
  rw [onw_in u2] at e
  by_cases c : c_nm s u ≤ x
  · rw [if_pos c] at e
    have c' := Int32.le_iff_toInt_le.mp c
    obtain ⟨l, l1, l2, l3⟩ := aml_some 9 e
    rw [lnk_kl hK] at l2
    have a := R l l1 1 (by decide)
    rw [l2] at a
    have a3 := a.2.2.1
    rw [kyd1, kyd1, ek, ek] at a3
    rw [if_pos rfl, Int32.le_iff_toInt_le] at l3
    exact ⟨a.1.1, a.1.2.1, fun _ => ⟨a3, l3⟩, fun z => by omega⟩
  · rw [if_neg c] at e
    have c' : ¬ (c_nm s u).toInt ≤ x.toInt := fun z => c (Int32.le_iff_toInt_le.mpr z)
    have lk : ∃ l, l < 9 ∧ lnk s u l 0 = some p := by
      cases f : aml s u x 0 9 with
      | some q =>
        rw [f] at e
        have := Option.some.inj e
        rw [this] at f
        obtain ⟨l, l1, l2, -⟩ := aml_some 9 f
        exact ⟨l, l1, l2⟩
      | none =>
        rw [f] at e
        exact ⟨0, by decide, e⟩
    obtain ⟨l, l1, l2⟩ := lk
    rw [lnk_kl hK] at l2
    have a := R l l1 0 (by decide)
    rw [l2] at a
    have a3 := a.2.2.1
    rw [kyd0, kyd0, ek, ek] at a3
    exact ⟨a.1.1, a.1.2.1, fun z => absurd z c', fun _ => by omega⟩
theorem cnt_mono {P Q : Nat → Bool} : ∀ d i, (∀ j, i ≤ j → j < i + d → P j = true → Q j = true) → cntF P d i ≤ cntF Q d i
  | 0, i, _ => Nat.le_refl _
  | d + 1, i, h => by
    have a := cnt_mono d (i + 1) (fun j j1 j2 => h j (by omega) (by omega))
    show (if P i = true then 1 else 0) + cntF P d (i + 1) ≤ (if Q i = true then 1 else 0) + cntF Q d (i + 1)
    by_cases c : P i = true
    · rw [if_pos c, if_pos (h i (Nat.le_refl _) (by omega) c)]; omega
    · rw [if_neg c]; omega
theorem cnt_lt {P Q : Nat → Bool} {k : Nat} (hk : P k = false) (hq : Q k = true) : ∀ d i, i ≤ k → k < i + d → (∀ j, i ≤ j → j < i + d → P j = true → Q j = true) → cntF P d i + 1 ≤ cntF Q d i
  | 0, i, h1, h2, _ => by omega
  | d + 1, i, h1, h2, h => by
    show (if P i = true then 1 else 0) + cntF P d (i + 1) + 1 ≤ (if Q i = true then 1 else 0) + cntF Q d (i + 1)
    by_cases e : i = k
    · have a := cnt_mono d (i + 1) (fun j j1 j2 => h j (by omega) (by omega))
      rw [e] at a ⊢
      rw [hk, hq, if_pos rfl, if_neg (by decide)]
      omega
    · have a := cnt_lt hk hq d (i + 1) (by omega) (by omega) (fun j j1 j2 => h j (by omega) (by omega))
      by_cases c : P i = true
      · rw [if_pos c, if_pos (h i (Nat.le_refl _) (by omega) c)]; omega
      · rw [if_neg c]; omega
def mea (s : ST) (x : Int32) (u : Nat) : Nat := if (c_nm s u).toInt ≤ x.toInt then cntF (fun q => decide ((c_nm s u).toInt < (c_nm s q).toInt ∧ (c_nm s q).toInt ≤ x.toInt)) (c_n s) 0 else 32 + cntF (fun q => decide ((c_nm s q).toInt < (c_nm s u).toInt)) (c_n s) 0
theorem mea_lt {s : ST} {x : Int32} {u p : Nat} (hb : I_b s) (h : ph0 s) (u1 : u < c_n s) (u2 : c_be s u = 2) (e : onw s u x = some p) : mea s x p < mea s x u := by
  obtain ⟨p1, p2, p3, p4⟩ := wk_step hb h u1 u2 e
  have h32 := hb.1
  unfold mea
  by_cases c : (c_nm s u).toInt ≤ x.toInt
  · obtain ⟨a, b⟩ := p3 c
    rw [if_pos c, if_pos b]
    exact cnt_lt (k := p) (decide_eq_false (fun z => by omega)) (decide_eq_true ⟨a, b⟩) _ _ (Nat.zero_le _) (by omega) (fun j _ _ z => by
      have := of_decide_eq_true z
      exact decide_eq_true ⟨by omega, by omega⟩)
  · have a := p4 (by omega)
    rw [if_neg c]
    by_cases f : (c_nm s p).toInt ≤ x.toInt
    · rw [if_pos f]
      have y1 := cntF_le (fun q => decide ((c_nm s p).toInt < (c_nm s q).toInt ∧ (c_nm s q).toInt ≤ x.toInt)) (c_n s) 0
      have y2 := cnt_lt (P := fun _ => false) (Q := fun q => decide ((c_nm s q).toInt < (c_nm s u).toInt)) (k := p) rfl (decide_eq_true a) (c_n s) 0 (Nat.zero_le _) (by omega) (fun j _ _ z => by cases z)
      omega
    · rw [if_neg f]
      have := cnt_lt (P := fun q => decide ((c_nm s q).toInt < (c_nm s p).toInt)) (Q := fun q => decide ((c_nm s q).toInt < (c_nm s u).toInt)) (k := p) (decide_eq_false (fun z => by omega)) (decide_eq_true a) (c_n s) 0 (Nat.zero_le _) (by omega) (fun j _ _ z => by
        have := of_decide_eq_true z
        exact decide_eq_true (by omega))
      omega
theorem wk_all {s : ST} {x : Int32} (hb : I_b s) (h : ph0 s) : ∀ f u, u < c_n s → c_be s u = 2 → mea s x u ≤ f → wkD s x f u ∧ wkN s x f u
  | 0, u, u1, u2, m => by
    refine ⟨?_, awy_in u2⟩
    show onw s u x = none
    cases e : onw s u x with
    | none => rfl
    | some p => have := mea_lt hb h u1 u2 e; omega
  | f + 1, u, u1, u2, m => by
    refine ⟨?_, awy_in u2, fun p e => ?_⟩
    · unfold wkD
      cases e : onw s u x with
      | none => trivial
      | some p =>
        obtain ⟨p1, p2, -⟩ := wk_step hb h u1 u2 e
        have := mea_lt hb h u1 u2 e
        exact (wk_all hb h f p p1 p2 (by omega)).1
    · obtain ⟨p1, p2, -⟩ := wk_step hb h u1 u2 e
      have := mea_lt hb h u1 u2 e
      exact (wk_all hb h f p p1 p2 (by omega)).2
theorem wk_64 {s : ST} {x : Int32} (hb : I_b s) (h : ph0 s) {u : Nat} (u1 : u < c_n s) (u2 : c_be s u = 2) : wkD s x 64 u ∧ wkN s x 64 u := by
  refine wk_all hb h 64 u u1 u2 ?_
  have h32 := hb.1
  unfold mea
  by_cases c : (c_nm s u).toInt ≤ x.toInt
  · rw [if_pos c]
    have := cntF_le (fun q => decide ((c_nm s u).toInt < (c_nm s q).toInt ∧ (c_nm s q).toInt ≤ x.toInt)) (c_n s) 0
    omega
  · rw [if_neg c]
    have := cntF_le (fun q => decide ((c_nm s q).toInt < (c_nm s u).toInt)) (c_n s) 0
    omega
