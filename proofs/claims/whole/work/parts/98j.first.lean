/-! the first state of both -/
theorem rl_8 : ∀ q, q ∈ rLst → q.1 ≠ 8 := by decide
theorem rl_nd1 : (rLst.map fun q => q.1).Nodup := by decide
theorem rl_nd2 : (rLst.map fun q => q.2.1).Nodup := by decide
theorem rl_19 : ∀ q, q ∈ rLst → 19 ≤ q.1 := by decide
theorem RR_init {m : MM} (hz : ∀ r, r = 8 ∨ 19 ≤ r → mC m r = 0) : RR s00 (iRf m) := by
  have z8 := hz 8 (by decide)
  have I : ∀ k, mI (iRf m) 8 0 k = mI (sI (al m 8 0 48) 8 0 1 1) 8 0 k := fun k => sts_I rLst _ rl_8
  have J : ∀ k, k ≠ 1 → mI (iRf m) 8 0 k = 0 := by
    intro k hk
    rw [I, mI_sI, if_neg (fun z => hk z.2.2), mI_al, if_pos ⟨rfl, z8.symm⟩]
  have J1 : mI (iRf m) 8 0 1 = 1 := by rw [I, mI_sI, if_pos ⟨rfl, rfl, rfl⟩]
  have A : ∀ r f len, (r, f, len) ∈ rLst → mR (iRf m) 8 0 f = some 0 ∧ mN (iRf m) r 0 = len := fun r f len h => sts_1 rLst _ h rl_nd1 rl_nd2 rl_8 (by
    have a := rl_19 _ h
    have a : 19 ≤ r := a
    rw [mC_sI, mC_al, if_neg (by omega)]
    exact hz r (Or.inr a))
  have a19 := A 19 2 32 (by decide)
  have a20 := A 20 3 32 (by decide)
  have a21 := A 21 4 32 (by decide)
  have a22 := A 22 5 32 (by decide)
  have a23 := A 23 6 288 (by decide)
  have a24 := A 24 7 288 (by decide)
  have a25 := A 25 8 288 (by decide)
  have a26 := A 26 9 32 (by decide)
  have a27 := A 27 10 32 (by decide)
  have a28 := A 28 11 32 (by decide)
  have a29 := A 29 12 512 (by decide)
  have a30 := A 30 13 512 (by decide)
  have a31 := A 31 15 16 (by decide)
  have a32 := A 32 19 160 (by decide)
  have a33 := A 33 20 160 (by decide)
  have a34 := A 34 21 160 (by decide)
  have a35 := A 35 22 160 (by decide)
  have a36 := A 36 23 6400 (by decide)
  have a37 := A 37 24 6400 (by decide)
  have a38 := A 38 25 160 (by decide)
  have a39 := A 39 26 160 (by decide)
  have a40 := A 40 27 160 (by decide)
  have a41 := A 41 28 160 (by decide)
  have a42 := A 42 29 160 (by decide)
  have a43 := A 43 31 600 (by decide)
  have a44 := A 44 32 600 (by decide)
  have a45 := A 45 33 600 (by decide)
  have a46 := A 46 34 600 (by decide)
  have a47 := A 47 35 600 (by decide)
  have a48 := A 48 36 600 (by decide)
  have a49 := A 49 37 600 (by decide)
  have a50 := A 50 39 16 (by decide)
  have a51 := A 51 40 16 (by decide)
  generalize iRf m = M at *
  refine ⟨⟨⟨a19.1, a20.1, a21.1, a22.1, a23.1, a24.1, a25.1, a26.1, a27.1, a28.1, a29.1, a30.1, a31.1, a32.1, a33.1, a34.1, a35.1, a36.1, a37.1, a38.1, a39.1, a40.1, a41.1, a42.1, a43.1, a44.1, a45.1, a46.1, a47.1, a48.1, a49.1, a50.1, a51.1⟩, ⟨a19.2, a20.2, a21.2, a22.2, a23.2, a24.2, a25.2, a26.2, a27.2, a28.2, a29.2, a30.2, a31.2, a32.2, a33.2, a34.2, a35.2, a36.2, a37.2, a38.2, a39.2, a40.2, a41.2, a42.2, a43.2, a44.2, a45.2, a46.2, a47.2, a48.2, a49.2, a50.2, a51.2⟩, Nat.zero_le _, J 0 (by decide), fun i hi => absurd hi (Nat.not_lt_zero i), fun i hi => absurd hi (Nat.not_lt_zero i)⟩, fun i hi => absurd hi (Nat.not_lt_zero i), ⟨J1, J 14 (by decide), Nat.zero_le _, fun i x hx => by have hx : ([] : List Int32)[i]? = some x := hx; simp at hx⟩, ⟨Nat.zero_le _, J 16 (by decide), J 17 (by decide), J 18 (by decide), fun i hi => absurd hi (Nat.not_lt_zero i), fun i hi => absurd hi (Nat.not_lt_zero i)⟩, ⟨J 30 (by decide), Nat.zero_le _, fun i g hg => by have hg : ([] : List MSG)[i]? = some g := hg; simp at hg⟩, ⟨J 41 (by decide), Nat.zero_le _, fun z => absurd z (Nat.lt_irrefl 0), fun z => absurd (show 0 = 3 from z) (by decide)⟩, fun ⟨g, a, b⟩ => by have a : g ∈ ([] : List MSG) := a; simp at a⟩
theorem RC_rg {s : ST} {m m' : MM} (key : ∀ r, 1 ≤ r → r ≤ 18 → r ≠ 8 → (∀ n k, mI m' r n k = mI m r n k) ∧ (∀ n k, mL m' r n k = mL m r n k) ∧ (∀ n k, mR m' r n k = mR m r n k) ∧ (∀ n, mN m' r n = mN m r n) ∧ mC m' r = mC m r) (h : RC s m) : RC s m' := by
  obtain ⟨i1, l1, r1, n1, c1⟩ := key 1 (by decide) (by decide) (by decide)
  obtain ⟨i2, l2, r2, n2, c2⟩ := key 2 (by decide) (by decide) (by decide)
  obtain ⟨i3, l3, r3, n3, c3⟩ := key 3 (by decide) (by decide) (by decide)
  obtain ⟨i4, l4, r4, n4, c4⟩ := key 4 (by decide) (by decide) (by decide)
  obtain ⟨i5, l5, r5, n5, c5⟩ := key 5 (by decide) (by decide) (by decide)
  obtain ⟨i6, l6, r6, n6, c6⟩ := key 6 (by decide) (by decide) (by decide)
  obtain ⟨i7, l7, r7, n7, c7⟩ := key 7 (by decide) (by decide) (by decide)
  obtain ⟨i9, l9, r9, n9, c9⟩ := key 9 (by decide) (by decide) (by decide)
  obtain ⟨i10, l10, r10, n10, c10⟩ := key 10 (by decide) (by decide) (by decide)
  obtain ⟨i11, l11, r11, n11, c11⟩ := key 11 (by decide) (by decide) (by decide)
  obtain ⟨i12, l12, r12, n12, c12⟩ := key 12 (by decide) (by decide) (by decide)
  obtain ⟨i13, l13, r13, n13, c13⟩ := key 13 (by decide) (by decide) (by decide)
  obtain ⟨i14, l14, r14, n14, c14⟩ := key 14 (by decide) (by decide) (by decide)
  obtain ⟨i15, l15, r15, n15, c15⟩ := key 15 (by decide) (by decide) (by decide)
  obtain ⟨i16, l16, r16, n16, c16⟩ := key 16 (by decide) (by decide) (by decide)
  obtain ⟨i17, l17, r17, n17, c17⟩ := key 17 (by decide) (by decide) (by decide)
  obtain ⟨i18, l18, r18, n18, c18⟩ := key 18 (by decide) (by decide) (by decide)
  unfold RC RCp RC1 RCc RCk RCa RC2 RCm RC3 RCq RCl Pok RCs RCn at h ⊢
  simp only [i1, l1, r1, n1, c1, i2, l2, r2, n2, c2, i3, l3, r3, n3, c3, i4, l4, r4, n4, c4, i5, l5, r5, n5, c5, i6, l6, r6, n6, c6, i7, l7, r7, n7, c7, i9, l9, r9, n9, c9, i10, l10, r10, n10, c10, i11, l11, r11, n11, c11, i12, l12, r12, n12, c12, i13, l13, r13, n13, c13, i14, l14, r14, n14, c14, i15, l15, r15, n15, c15, i16, l16, r16, n16, c16, i17, l17, r17, n17, c17, i18, l18, r18, n18, c18]
  exact h
theorem iCl_C {m : MM} {r : Nat} (h : r = 8 ∨ 19 ≤ r) : mC (iCl m) r = mC m r := by
  simp only [iCl, iC1, iC2, iC3, iC4, iC5, lnM, cnM, iniP, mC_sI, mC_sR, mC_al]
  simp only [show (r = 2) = False from eq_false (by omega), show (r = 3) = False from eq_false (by omega), show (r = 5) = False from eq_false (by omega), show (r = 7) = False from eq_false (by omega), show (r = 11) = False from eq_false (by omega), show (r = 12) = False from eq_false (by omega), show (r = 13) = False from eq_false (by omega), show (r = 16) = False from eq_false (by omega), show (r = 17) = False from eq_false (by omega), show (r = 18) = False from eq_false (by omega), if_false]
theorem BO_init {xs : Nat → Int32} {L : Nat} : BO s00 (iRf (iCl (m0 xs L))) := by
  have e0 : ∀ r, r ≠ 0 → mC (m0 xs L) r = 0 := fun r hr => if_neg hr
  have c1 : RC s00 (iCl (m0 xs L)) := RC_init (fun r h1 _ => e0 r (by omega))
  refine ⟨RC_rg (fun r h1 h2 h3 => ?_) c1, RR_init (fun r hr => by rw [iCl_C hr]; exact e0 r (by omega))⟩
  have ne : ∀ q, q ∈ rLst → q.1 ≠ r := fun q hq z => by have := rl_19 q hq; omega
  generalize iCl (m0 xs L) = M
  obtain ⟨a1, a2, a3⟩ := sts_fr h3 rLst (sI (al M 8 0 48) 8 0 1 1) ne
  obtain ⟨b1, b2⟩ := sts_C rLst (sI (al M 8 0 48) 8 0 1 1) ne
  refine ⟨fun n k => (a1 n k).trans ?_, fun n k => (a2 n k).trans ?_, fun n k => (a3 n k).trans ?_, fun n => (b2 n).trans ?_, b1.trans ?_⟩
  · rw [mI_sI, if_neg (fun z => h3 z.1), mI_al, if_neg (fun z => h3 z.1)]
  · rw [mL_sI, mL_al, if_neg (fun z => h3 z.1)]
  · rw [mR_sI, mR_al, if_neg (fun z => h3 z.1)]
  · rw [mN_sI, mN_al, if_neg (fun z => h3 z.1)]
  · rw [mC_sI, mC_al, if_neg h3]
theorem iCl_0 {m : MM} : (∀ n k, mI (iCl m) 0 n k = mI m 0 n k) ∧ (∀ n, mN (iCl m) 0 n = mN m 0 n) := by
  refine ⟨fun n k => ?_, fun n => ?_⟩
  · simp [iCl, iC1, iC2, iC3, iC4, iC5, lnM, cnM, iniP, mI_sI, mI_sR, mI_al]
  · simp [iCl, iC1, iC2, iC3, iC4, iC5, lnM, cnM, iniP, mN_sI, mN_sR, mN_al]
theorem SCR_init {xs : Nat → Int32} {L : Nat} : SCR xs L (iRf (iCl (m0 xs L))) := by
  obtain ⟨p, q⟩ := iCl_0 (m := m0 xs L)
  have s0 : mN (m0 xs L) 0 0 = L := rfl
  have s1 : ∀ k, mI (m0 xs L) 0 0 k = xs k := fun k => rfl
  generalize m0 xs L = m at *
  generalize iCl m = M at *
  have ne : ∀ q, q ∈ rLst → q.1 ≠ 0 := fun q hq z => by have := rl_19 q hq; omega
  obtain ⟨a1, a2, a3⟩ := sts_fr (r := 0) (by decide) rLst (sI (al M 8 0 48) 8 0 1 1) ne
  obtain ⟨b1, b2⟩ := sts_C rLst (sI (al M 8 0 48) 8 0 1 1) ne
  refine ⟨(b2 0).trans ?_, fun k => (a1 0 k).trans ?_⟩
  · rw [mN_sI, mN_al, if_neg (fun z => absurd z.1 (by decide)), q, s0]
  · rw [mI_sI, if_neg (fun z => absurd z.1 (by decide)), mI_al, if_neg (fun z => absurd z.1 (by decide)), p, s1]
theorem T_init {xs : Nat → Int32} {L : Nat} : mT (iRf (iCl (m0 xs L))) ≤ 100 ∧ mS (iRf (iCl (m0 xs L))) ≤ 30000 := by
  obtain ⟨a, b⟩ := sts_T rLst (sI (al (iCl (m0 xs L)) 8 0 48) 8 0 1 1)
  have c : mT (iCl (m0 xs L)) ≤ 20 := Nat.le_of_ble_eq_true rfl
  have d : mS (iCl (m0 xs L)) ≤ 1000 := Nat.le_of_ble_eq_true rfl
  have c2 : mT (sI (al (iCl (m0 xs L)) 8 0 48) 8 0 1 1) = mT (iCl (m0 xs L)) + 1 := rfl
  have d2 : mS (sI (al (iCl (m0 xs L)) 8 0 48) 8 0 1 1) = mS (iCl (m0 xs L)) + 48 := rfl
  have e : rLst.length = 33 := rfl
  have f : (rLst.map fun q => q.2.2).sum ≤ 28000 := by decide
  have g1 : mT (iRf (iCl (m0 xs L))) = mT (stps (sI (al (iCl (m0 xs L)) 8 0 48) 8 0 1 1) rLst) := rfl
  have g2 : mS (iRf (iCl (m0 xs L))) = mS (stps (sI (al (iCl (m0 xs L)) 8 0 48) 8 0 1 1) rLst) := rfl
  rw [g1, g2]
  omega
theorem INV_init : INV 0 s00 := by
  have nl : ∀ i : Nat, ¬ i < 0 := fun i => Nat.not_lt_zero i
  refine ⟨⟨⟨Nat.zero_le _, fun a b ha => absurd ha (nl a), ⟨fun _ _ _ _ => rfl, fun _ _ _ _ => rfl⟩, ⟨fun i l d p hi => absurd hi (nl i), fun i d p hi => absurd hi (nl i)⟩⟩, ⟨fun p hp => absurd hp (nl p), pr_nil _, Nat.zero_le _⟩, ⟨⟨Nat.zero_le _, fun k hk => absurd hk (nl k)⟩, fun g hg => (by have hg : g ∈ ([] : List MSG) := hg; cases hg), List.Pairwise.nil⟩, Or.inl ⟨rfl, rfl, fun p hp => absurd hp (nl p), fun g hg => (by have hg : g ∈ ([] : List MSG) := hg; cases hg), fun z hz => absurd hz (nl z)⟩⟩, fun z => absurd z (Nat.lt_irrefl 0)⟩
