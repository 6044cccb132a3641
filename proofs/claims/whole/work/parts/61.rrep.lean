/-! the reference's tables hold the state -/
def FX (m : MM) : Prop := mR m 8 0 2 = some 0 ∧ mR m 8 0 3 = some 0 ∧ mR m 8 0 4 = some 0 ∧ mR m 8 0 5 = some 0 ∧ mR m 8 0 6 = some 0 ∧ mR m 8 0 7 = some 0 ∧ mR m 8 0 8 = some 0 ∧ mR m 8 0 9 = some 0 ∧ mR m 8 0 10 = some 0 ∧ mR m 8 0 11 = some 0 ∧ mR m 8 0 12 = some 0 ∧ mR m 8 0 13 = some 0 ∧ mR m 8 0 15 = some 0 ∧ mR m 8 0 19 = some 0 ∧ mR m 8 0 20 = some 0 ∧ mR m 8 0 21 = some 0 ∧ mR m 8 0 22 = some 0 ∧ mR m 8 0 23 = some 0 ∧ mR m 8 0 24 = some 0 ∧ mR m 8 0 25 = some 0 ∧ mR m 8 0 26 = some 0 ∧ mR m 8 0 27 = some 0 ∧ mR m 8 0 28 = some 0 ∧ mR m 8 0 29 = some 0 ∧ mR m 8 0 31 = some 0 ∧ mR m 8 0 32 = some 0 ∧ mR m 8 0 33 = some 0 ∧ mR m 8 0 34 = some 0 ∧ mR m 8 0 35 = some 0 ∧ mR m 8 0 36 = some 0 ∧ mR m 8 0 37 = some 0 ∧ mR m 8 0 39 = some 0 ∧ mR m 8 0 40 = some 0
def FN (m : MM) : Prop := mN m 19 0 = 32 ∧ mN m 20 0 = 32 ∧ mN m 21 0 = 32 ∧ mN m 22 0 = 32 ∧ mN m 23 0 = 288 ∧ mN m 24 0 = 288 ∧ mN m 25 0 = 288 ∧ mN m 26 0 = 32 ∧ mN m 27 0 = 32 ∧ mN m 28 0 = 32 ∧ mN m 29 0 = 512 ∧ mN m 30 0 = 512 ∧ mN m 31 0 = 16 ∧ mN m 32 0 = 160 ∧ mN m 33 0 = 160 ∧ mN m 34 0 = 160 ∧ mN m 35 0 = 160 ∧ mN m 36 0 = 6400 ∧ mN m 37 0 = 6400 ∧ mN m 38 0 = 160 ∧ mN m 39 0 = 160 ∧ mN m 40 0 = 160 ∧ mN m 41 0 = 160 ∧ mN m 42 0 = 160 ∧ mN m 43 0 = 600 ∧ mN m 44 0 = 600 ∧ mN m 45 0 = 600 ∧ mN m 46 0 = 600 ∧ mN m 47 0 = 600 ∧ mN m 48 0 = 600 ∧ mN m 49 0 = 600 ∧ mN m 50 0 = 16 ∧ mN m 51 0 = 16
theorem FX_2 {m : MM} (h : FX m) : mR m 8 0 2 = some 0 := h.1
theorem FX_3 {m : MM} (h : FX m) : mR m 8 0 3 = some 0 := h.2.1
theorem FX_4 {m : MM} (h : FX m) : mR m 8 0 4 = some 0 := h.2.2.1
theorem FX_5 {m : MM} (h : FX m) : mR m 8 0 5 = some 0 := h.2.2.2.1
theorem FX_6 {m : MM} (h : FX m) : mR m 8 0 6 = some 0 := h.2.2.2.2.1
theorem FX_7 {m : MM} (h : FX m) : mR m 8 0 7 = some 0 := h.2.2.2.2.2.1
theorem FX_8 {m : MM} (h : FX m) : mR m 8 0 8 = some 0 := h.2.2.2.2.2.2.1
theorem FX_9 {m : MM} (h : FX m) : mR m 8 0 9 = some 0 := h.2.2.2.2.2.2.2.1
theorem FX_10 {m : MM} (h : FX m) : mR m 8 0 10 = some 0 := h.2.2.2.2.2.2.2.2.1
theorem FX_11 {m : MM} (h : FX m) : mR m 8 0 11 = some 0 := h.2.2.2.2.2.2.2.2.2.1
theorem FX_12 {m : MM} (h : FX m) : mR m 8 0 12 = some 0 := h.2.2.2.2.2.2.2.2.2.2.1
theorem FX_13 {m : MM} (h : FX m) : mR m 8 0 13 = some 0 := h.2.2.2.2.2.2.2.2.2.2.2.1
theorem FX_15 {m : MM} (h : FX m) : mR m 8 0 15 = some 0 := h.2.2.2.2.2.2.2.2.2.2.2.2.1
theorem FX_19 {m : MM} (h : FX m) : mR m 8 0 19 = some 0 := h.2.2.2.2.2.2.2.2.2.2.2.2.2.1
theorem FX_20 {m : MM} (h : FX m) : mR m 8 0 20 = some 0 := h.2.2.2.2.2.2.2.2.2.2.2.2.2.2.1
theorem FX_21 {m : MM} (h : FX m) : mR m 8 0 21 = some 0 := h.2.2.2.2.2.2.2.2.2.2.2.2.2.2.2.1
theorem FX_22 {m : MM} (h : FX m) : mR m 8 0 22 = some 0 := h.2.2.2.2.2.2.2.2.2.2.2.2.2.2.2.2.1
theorem FX_23 {m : MM} (h : FX m) : mR m 8 0 23 = some 0 := h.2.2.2.2.2.2.2.2.2.2.2.2.2.2.2.2.2.1
theorem FX_24 {m : MM} (h : FX m) : mR m 8 0 24 = some 0 := h.2.2.2.2.2.2.2.2.2.2.2.2.2.2.2.2.2.2.1
theorem FX_25 {m : MM} (h : FX m) : mR m 8 0 25 = some 0 := h.2.2.2.2.2.2.2.2.2.2.2.2.2.2.2.2.2.2.2.1
theorem FX_26 {m : MM} (h : FX m) : mR m 8 0 26 = some 0 := h.2.2.2.2.2.2.2.2.2.2.2.2.2.2.2.2.2.2.2.2.1
theorem FX_27 {m : MM} (h : FX m) : mR m 8 0 27 = some 0 := h.2.2.2.2.2.2.2.2.2.2.2.2.2.2.2.2.2.2.2.2.2.1
theorem FX_28 {m : MM} (h : FX m) : mR m 8 0 28 = some 0 := h.2.2.2.2.2.2.2.2.2.2.2.2.2.2.2.2.2.2.2.2.2.2.1
theorem FX_29 {m : MM} (h : FX m) : mR m 8 0 29 = some 0 := h.2.2.2.2.2.2.2.2.2.2.2.2.2.2.2.2.2.2.2.2.2.2.2.1
theorem FX_31 {m : MM} (h : FX m) : mR m 8 0 31 = some 0 := h.2.2.2.2.2.2.2.2.2.2.2.2.2.2.2.2.2.2.2.2.2.2.2.2.1
theorem FX_32 {m : MM} (h : FX m) : mR m 8 0 32 = some 0 := h.2.2.2.2.2.2.2.2.2.2.2.2.2.2.2.2.2.2.2.2.2.2.2.2.2.1
theorem FX_33 {m : MM} (h : FX m) : mR m 8 0 33 = some 0 := h.2.2.2.2.2.2.2.2.2.2.2.2.2.2.2.2.2.2.2.2.2.2.2.2.2.2.1
theorem FX_34 {m : MM} (h : FX m) : mR m 8 0 34 = some 0 := h.2.2.2.2.2.2.2.2.2.2.2.2.2.2.2.2.2.2.2.2.2.2.2.2.2.2.2.1
theorem FX_35 {m : MM} (h : FX m) : mR m 8 0 35 = some 0 := h.2.2.2.2.2.2.2.2.2.2.2.2.2.2.2.2.2.2.2.2.2.2.2.2.2.2.2.2.1
theorem FX_36 {m : MM} (h : FX m) : mR m 8 0 36 = some 0 := h.2.2.2.2.2.2.2.2.2.2.2.2.2.2.2.2.2.2.2.2.2.2.2.2.2.2.2.2.2.1
theorem FX_37 {m : MM} (h : FX m) : mR m 8 0 37 = some 0 := h.2.2.2.2.2.2.2.2.2.2.2.2.2.2.2.2.2.2.2.2.2.2.2.2.2.2.2.2.2.2.1
theorem FX_39 {m : MM} (h : FX m) : mR m 8 0 39 = some 0 := h.2.2.2.2.2.2.2.2.2.2.2.2.2.2.2.2.2.2.2.2.2.2.2.2.2.2.2.2.2.2.2.1
theorem FX_40 {m : MM} (h : FX m) : mR m 8 0 40 = some 0 := h.2.2.2.2.2.2.2.2.2.2.2.2.2.2.2.2.2.2.2.2.2.2.2.2.2.2.2.2.2.2.2.2
theorem FN_19 {m : MM} (h : FN m) : mN m 19 0 = 32 := h.1
theorem FN_20 {m : MM} (h : FN m) : mN m 20 0 = 32 := h.2.1
theorem FN_21 {m : MM} (h : FN m) : mN m 21 0 = 32 := h.2.2.1
theorem FN_22 {m : MM} (h : FN m) : mN m 22 0 = 32 := h.2.2.2.1
theorem FN_23 {m : MM} (h : FN m) : mN m 23 0 = 288 := h.2.2.2.2.1
theorem FN_24 {m : MM} (h : FN m) : mN m 24 0 = 288 := h.2.2.2.2.2.1
theorem FN_25 {m : MM} (h : FN m) : mN m 25 0 = 288 := h.2.2.2.2.2.2.1
theorem FN_26 {m : MM} (h : FN m) : mN m 26 0 = 32 := h.2.2.2.2.2.2.2.1
theorem FN_27 {m : MM} (h : FN m) : mN m 27 0 = 32 := h.2.2.2.2.2.2.2.2.1
theorem FN_28 {m : MM} (h : FN m) : mN m 28 0 = 32 := h.2.2.2.2.2.2.2.2.2.1
theorem FN_29 {m : MM} (h : FN m) : mN m 29 0 = 512 := h.2.2.2.2.2.2.2.2.2.2.1
theorem FN_30 {m : MM} (h : FN m) : mN m 30 0 = 512 := h.2.2.2.2.2.2.2.2.2.2.2.1
theorem FN_31 {m : MM} (h : FN m) : mN m 31 0 = 16 := h.2.2.2.2.2.2.2.2.2.2.2.2.1
theorem FN_32 {m : MM} (h : FN m) : mN m 32 0 = 160 := h.2.2.2.2.2.2.2.2.2.2.2.2.2.1
theorem FN_33 {m : MM} (h : FN m) : mN m 33 0 = 160 := h.2.2.2.2.2.2.2.2.2.2.2.2.2.2.1
theorem FN_34 {m : MM} (h : FN m) : mN m 34 0 = 160 := h.2.2.2.2.2.2.2.2.2.2.2.2.2.2.2.1
theorem FN_35 {m : MM} (h : FN m) : mN m 35 0 = 160 := h.2.2.2.2.2.2.2.2.2.2.2.2.2.2.2.2.1
theorem FN_36 {m : MM} (h : FN m) : mN m 36 0 = 6400 := h.2.2.2.2.2.2.2.2.2.2.2.2.2.2.2.2.2.1
theorem FN_37 {m : MM} (h : FN m) : mN m 37 0 = 6400 := h.2.2.2.2.2.2.2.2.2.2.2.2.2.2.2.2.2.2.1
theorem FN_38 {m : MM} (h : FN m) : mN m 38 0 = 160 := h.2.2.2.2.2.2.2.2.2.2.2.2.2.2.2.2.2.2.2.1
theorem FN_39 {m : MM} (h : FN m) : mN m 39 0 = 160 := h.2.2.2.2.2.2.2.2.2.2.2.2.2.2.2.2.2.2.2.2.1
theorem FN_40 {m : MM} (h : FN m) : mN m 40 0 = 160 := h.2.2.2.2.2.2.2.2.2.2.2.2.2.2.2.2.2.2.2.2.2.1
theorem FN_41 {m : MM} (h : FN m) : mN m 41 0 = 160 := h.2.2.2.2.2.2.2.2.2.2.2.2.2.2.2.2.2.2.2.2.2.2.1
theorem FN_42 {m : MM} (h : FN m) : mN m 42 0 = 160 := h.2.2.2.2.2.2.2.2.2.2.2.2.2.2.2.2.2.2.2.2.2.2.2.1
theorem FN_43 {m : MM} (h : FN m) : mN m 43 0 = 600 := h.2.2.2.2.2.2.2.2.2.2.2.2.2.2.2.2.2.2.2.2.2.2.2.2.1
theorem FN_44 {m : MM} (h : FN m) : mN m 44 0 = 600 := h.2.2.2.2.2.2.2.2.2.2.2.2.2.2.2.2.2.2.2.2.2.2.2.2.2.1
theorem FN_45 {m : MM} (h : FN m) : mN m 45 0 = 600 := h.2.2.2.2.2.2.2.2.2.2.2.2.2.2.2.2.2.2.2.2.2.2.2.2.2.2.1
theorem FN_46 {m : MM} (h : FN m) : mN m 46 0 = 600 := h.2.2.2.2.2.2.2.2.2.2.2.2.2.2.2.2.2.2.2.2.2.2.2.2.2.2.2.1
theorem FN_47 {m : MM} (h : FN m) : mN m 47 0 = 600 := h.2.2.2.2.2.2.2.2.2.2.2.2.2.2.2.2.2.2.2.2.2.2.2.2.2.2.2.2.1
theorem FN_48 {m : MM} (h : FN m) : mN m 48 0 = 600 := h.2.2.2.2.2.2.2.2.2.2.2.2.2.2.2.2.2.2.2.2.2.2.2.2.2.2.2.2.2.1
theorem FN_49 {m : MM} (h : FN m) : mN m 49 0 = 600 := h.2.2.2.2.2.2.2.2.2.2.2.2.2.2.2.2.2.2.2.2.2.2.2.2.2.2.2.2.2.2.1
theorem FN_50 {m : MM} (h : FN m) : mN m 50 0 = 16 := h.2.2.2.2.2.2.2.2.2.2.2.2.2.2.2.2.2.2.2.2.2.2.2.2.2.2.2.2.2.2.2.1
theorem FN_51 {m : MM} (h : FN m) : mN m 51 0 = 16 := h.2.2.2.2.2.2.2.2.2.2.2.2.2.2.2.2.2.2.2.2.2.2.2.2.2.2.2.2.2.2.2.2
theorem ixN {m : MM} {r i N : Nat} (hN : mN m r 0 = N) (h : i < N) (h2 : N < 2 ^ 31) : ix (nI i) (mN m r 0) = some i := ix_nI (by rw [hN]; exact h) (by rw [hN]; exact h2)
theorem fl9 (p l : Nat) : (9 : Int32) * nI p + nI l = nI (9 * p + l) := by
  have h1 : (9 : Int32) * nI p = nI (9 * p) := (Int32.ofNat_mul 9 p).symm
  rw [h1, nI_add]
theorem fl16 (p l : Nat) : (16 : Int32) * nI p + nI l = nI (16 * p + l) := by
  have h1 : (16 : Int32) * nI p = nI (16 * p) := (Int32.ofNat_mul 16 p).symm
  rw [h1, nI_add]
theorem fl40 (p l : Nat) : (40 : Int32) * nI p + nI l = nI (40 * p + l) := by
  have h1 : (40 : Int32) * nI p = nI (40 * p) := (Int32.ofNat_mul 40 p).symm
  rw [h1, nI_add]
/-- a peer's entries -/
def RR1 (s : ST) (m : MM) (i : Nat) : Prop := mI m 19 0 i = c_nm s i ∧ mI m 20 0 i = c_bt s i ∧ mI m 21 0 i = nI (c_be s i) ∧ mI m 22 0 i = c_ld s i ∧ mI m 26 0 i = enc (c_ol s i 0) ∧ mI m 27 0 i = enc (c_ol s i 1) ∧
  ∀ l, l < 9 → mI m 23 0 (9 * i + l) = b2 (c_hs s i l) ∧ mI m 24 0 (9 * i + l) = enc (c_kl s i l 0) ∧ mI m 25 0 (9 * i + l) = enc (c_kl s i l 1)
def RRp (s : ST) (m : MM) : Prop := FX m ∧ FN m ∧ c_n s ≤ 32 ∧ mI m 8 0 0 = nI (c_n s) ∧ (∀ i, i < c_n s → c_be s i ≤ 3) ∧ ∀ i, i < c_n s → RR1 s m i
def RRl (m : MM) (p : Nat) (L : PRS) : Prop := L.length ≤ 16 ∧ mI m 28 0 p = nI L.length ∧ ∀ j q, L[j]? = some q → mI m 29 0 (16 * p + j) = q.1 ∧ mL m 30 0 (16 * p + j) = q.2
def RRq (s : ST) (m : MM) : Prop := ∀ i, i < c_n s → RRl m i (c_pr s i)
def RRk (s : ST) (m : MM) : Prop := mI m 8 0 1 = c_dr s ∧ mI m 8 0 14 = nI (c_ev s).length ∧ (c_ev s).length ≤ 16 ∧ ∀ i x, (c_ev s)[i]? = some x → mI m 31 0 i = x
def RR2 (a : AK) (m : MM) (k : Nat) : Prop := mI m 32 0 k = nI (a_so a) ∧ mI m 33 0 k = b2 (a_dn a) ∧ mI m 34 0 k = a_an a ∧ mI m 35 0 k = nI (a_ps a) ∧ (∀ i x, (a_wy a)[i]? = some x → mI m 36 0 (40 * k + i) = nI x) ∧ (∀ i x, (a_no a)[i]? = some x → mI m 37 0 (40 * k + i) = nI x) ∧ mI m 38 0 k = nI (a_nt a) ∧ mI m 39 0 k = b2 (a_th a) ∧ mI m 40 0 k = a_lo a ∧ mI m 41 0 k = a_hi a ∧ mL m 42 0 k = a_va a
def RRa (s : ST) (m : MM) : Prop := c_na s ≤ 160 ∧ mI m 8 0 16 = nI (c_na s) ∧ mI m 8 0 17 = nI (cntF (fun k => a_dn (c_ak s k)) (c_na s) 0) ∧ mI m 8 0 18 = nI (cntF (fun k => a_lt (c_ak s k)) (c_na s) 0) ∧ (∀ k, k < c_na s → RR2 (c_ak s k) m k) ∧ ∀ k, k < c_na s → AKo (c_ak s k)
/-- a message's entries: who it speaks of, as its sort asks -/
def RR3 (s : ST) (g : MSG) (m : MM) (i : Nat) : Prop := mI m 43 0 i = nI (g_so g) ∧ mI m 44 0 i = nI (g_to g) ∧ mI m 45 0 i = enc (g_as g) ∧ mI m 46 0 i = enc (g_lv g) ∧ mI m 47 0 i = nI (g_sd g) ∧
  (g_so g = 5 ∨ g_so g = 8 → mI m 48 0 i = nI (c_cp s)) ∧ (g_so g = 7 → mI m 48 0 i = enc (if g_sd g = 0 then g_lf g else g_rg g)) ∧ (g_so g = 6 ∨ g_so g = 9 → mI m 48 0 i = enc (g_lf g) ∧ mI m 49 0 i = enc (g_rg g))
def RRm (s : ST) (m : MM) : Prop := mI m 8 0 30 = nI (c_ms s).length ∧ (c_ms s).length ≤ 192 ∧ ∀ i g, (c_ms s)[i]? = some g → RR3 s g m i
def RRc (s : ST) (m : MM) : Prop := mI m 8 0 41 = nI (c_ck s) ∧ c_ck s ≤ 3 ∧ (0 < c_ck s → mI m 8 0 42 = nI (c_cp s)) ∧ (c_ck s = 3 → mI m 8 0 43 = b2 (!c_cu s) ∧ mI m 8 0 44 = c_cb s)
/-- the bag: what it holds is what the state's is, for those that take it in -/
def BGo (B : PRS) (m : MM) : Prop := B.length ≤ 16 ∧ mI m 8 0 38 = nI B.length ∧ ∀ j q, B[j]? = some q → mI m 50 0 j = q.1 ∧ mL m 51 0 j = q.2
def RRb (s : ST) (m : MM) : Prop := (∃ g, g ∈ c_ms s ∧ (g_so g = 6 ∨ g_so g = 10)) → ∃ B, BGo B m ∧ ∀ L, srt L → inl1 L B = inl1 L (c_bg s)
def RR (s : ST) (m : MM) : Prop := RRp s m ∧ RRq s m ∧ RRk s m ∧ RRa s m ∧ RRm s m ∧ RRc s m ∧ RRb s m
/-- frames by region and slot; no cell is made -/
def fs (Q : Nat → Nat → Prop) (m m' : MM) : Prop := (∀ r n k, ¬ Q r k → mI m' r n k = mI m r n k ∧ mL m' r n k = mL m r n k) ∧ mR m' = mR m ∧ mC m' = mC m ∧ mN m' = mN m ∧ mT m' = mT m ∧ mS m' = mS m
theorem fs_rf (Q : Nat → Nat → Prop) (m : MM) : fs Q m m := ⟨fun _ _ _ _ => ⟨rfl, rfl⟩, rfl, rfl, rfl, rfl, rfl⟩
theorem fs_tr {Q : Nat → Nat → Prop} {a b c : MM} (h : fs Q a b) (g : fs Q b c) : fs Q a c := ⟨fun r n k q => ⟨(g.1 r n k q).1.trans (h.1 r n k q).1, (g.1 r n k q).2.trans (h.1 r n k q).2⟩, g.2.1.trans h.2.1, g.2.2.1.trans h.2.2.1, g.2.2.2.1.trans h.2.2.2.1, g.2.2.2.2.1.trans h.2.2.2.2.1, g.2.2.2.2.2.trans h.2.2.2.2.2⟩
theorem fs_le {Q Q' : Nat → Nat → Prop} {a b : MM} (h : fs Q a b) (hq : ∀ r k, Q r k → Q' r k) : fs Q' a b := ⟨fun r n k q => h.1 r n k (fun z => q (hq r k z)), h.2⟩
theorem fsI {Q : Nat → Nat → Prop} {a m : MM} {r n k : Nat} {v : Int32} (h : fs Q a m) (hq : Q r k) : fs Q a (sI m r n k v) := by
  refine fs_tr h ⟨fun r' n' k' q => ⟨?_, rfl⟩, rfl, rfl, rfl, rfl, rfl⟩
  rw [mI_sI, if_neg (fun z => q (by rw [z.1, z.2.2]; exact hq))]
theorem fsL {Q : Nat → Nat → Prop} {a m : MM} {r n k : Nat} {v : Int64} (h : fs Q a m) (hq : Q r k) : fs Q a (sL m r n k v) := by
  refine fs_tr h ⟨fun r' n' k' q => ⟨rfl, ?_⟩, rfl, rfl, rfl, rfl, rfl⟩
  rw [mL_sL, if_neg (fun z => q (by rw [z.1, z.2.2]; exact hq))]
theorem FX_fs {Q : Nat → Nat → Prop} {m m' : MM} (h : FX m) (hf : fs Q m m') : FX m' := by
  unfold FX
  rw [hf.2.1]
  exact h
theorem FN_fs {Q : Nat → Nat → Prop} {m m' : MM} (h : FN m) (hf : fs Q m m') : FN m' := by
  unfold FN
  rw [hf.2.2.2.1]
  exact h
theorem RR1_fs {s : ST} {Q : Nat → Nat → Prop} {m m' : MM} {i : Nat} (h : RR1 s m i) (hf : fs Q m m') (hq : ∀ r k, Q r k → r < 19 ∨ 27 < r) : RR1 s m' i := by
  have n : ∀ r k, 19 ≤ r → r ≤ 27 → mI m' r 0 k = mI m r 0 k := fun r k a b => (hf.1 r 0 k (fun z => by have := hq r k z; omega)).1
  unfold RR1 at h ⊢
  rw [n 19 i (by decide) (by decide), n 20 i (by decide) (by decide), n 21 i (by decide) (by decide), n 22 i (by decide) (by decide), n 26 i (by decide) (by decide), n 27 i (by decide) (by decide)]
  refine ⟨h.1, h.2.1, h.2.2.1, h.2.2.2.1, h.2.2.2.2.1, h.2.2.2.2.2.1, fun l hl => ?_⟩
  rw [n 23 _ (by decide) (by decide), n 24 _ (by decide) (by decide), n 25 _ (by decide) (by decide)]
  exact h.2.2.2.2.2.2 l hl
theorem RRp_fs {s : ST} {Q : Nat → Nat → Prop} {m m' : MM} (h : RRp s m) (hf : fs Q m m') (hq : ∀ r k, Q r k → (r < 19 ∨ 27 < r) ∧ ¬ (r = 8 ∧ k = 0)) : RRp s m' :=
  ⟨FX_fs h.1 hf, FN_fs h.2.1 hf, h.2.2.1, by rw [(hf.1 8 0 0 (fun z => (hq 8 0 z).2 ⟨rfl, rfl⟩)).1]; exact h.2.2.2.1, h.2.2.2.2.1, fun i hi => RR1_fs (h.2.2.2.2.2 i hi) hf (fun r k z => (hq r k z).1)⟩
theorem RRl_fs {Q : Nat → Nat → Prop} {m m' : MM} {p : Nat} {L : PRS} (h : RRl m p L) (hf : fs Q m m') (hq : ∀ r k, Q r k → r ≠ 28 ∧ r ≠ 29 ∧ r ≠ 30) : RRl m' p L := by
  refine ⟨h.1, by rw [(hf.1 28 0 p (fun z => (hq _ _ z).1 rfl)).1]; exact h.2.1, fun j q hj => ?_⟩
  rw [(hf.1 29 0 _ (fun z => (hq _ _ z).2.1 rfl)).1, (hf.1 30 0 _ (fun z => (hq _ _ z).2.2 rfl)).2]
  exact h.2.2 j q hj
theorem RRq_fs {s : ST} {Q : Nat → Nat → Prop} {m m' : MM} (h : RRq s m) (hf : fs Q m m') (hq : ∀ r k, Q r k → r ≠ 28 ∧ r ≠ 29 ∧ r ≠ 30) : RRq s m' := fun i hi => RRl_fs (h i hi) hf hq
theorem RRk_fs {s : ST} {Q : Nat → Nat → Prop} {m m' : MM} (h : RRk s m) (hf : fs Q m m') (hq : ∀ r k, Q r k → r ≠ 31 ∧ ¬ (r = 8 ∧ (k = 1 ∨ k = 14))) : RRk s m' := by
  refine ⟨by rw [(hf.1 8 0 1 (fun z => (hq _ _ z).2 ⟨rfl, Or.inl rfl⟩)).1]; exact h.1, by rw [(hf.1 8 0 14 (fun z => (hq _ _ z).2 ⟨rfl, Or.inr rfl⟩)).1]; exact h.2.1, h.2.2.1, fun i x hx => ?_⟩
  rw [(hf.1 31 0 i (fun z => (hq _ _ z).1 rfl)).1]
  exact h.2.2.2 i x hx
theorem RR2_fs {a : AK} {Q : Nat → Nat → Prop} {m m' : MM} {k : Nat} (h : RR2 a m k) (hf : fs Q m m') (hq : ∀ r j, Q r j → r < 32 ∨ 42 < r) : RR2 a m' k := by
  have n : ∀ r j, 32 ≤ r → r ≤ 42 → mI m' r 0 j = mI m r 0 j ∧ mL m' r 0 j = mL m r 0 j := fun r j a b => hf.1 r 0 j (fun z => by have := hq r j z; omega)
  obtain ⟨g1, g2, g3, g4, g5, g6, g7, g8, g9, g10, g11⟩ := h
  exact ⟨by rw [(n 32 _ (by decide) (by decide)).1]; exact g1, by rw [(n 33 _ (by decide) (by decide)).1]; exact g2, by rw [(n 34 _ (by decide) (by decide)).1]; exact g3, by rw [(n 35 _ (by decide) (by decide)).1]; exact g4, fun i x hx => by rw [(n 36 _ (by decide) (by decide)).1]; exact g5 i x hx, fun i x hx => by rw [(n 37 _ (by decide) (by decide)).1]; exact g6 i x hx, by rw [(n 38 _ (by decide) (by decide)).1]; exact g7, by rw [(n 39 _ (by decide) (by decide)).1]; exact g8, by rw [(n 40 _ (by decide) (by decide)).1]; exact g9, by rw [(n 41 _ (by decide) (by decide)).1]; exact g10, by rw [(n 42 _ (by decide) (by decide)).2]; exact g11⟩
theorem RRa_fs {s : ST} {Q : Nat → Nat → Prop} {m m' : MM} (h : RRa s m) (hf : fs Q m m') (hq : ∀ r k, Q r k → (r < 32 ∨ 42 < r) ∧ ¬ (r = 8 ∧ (k = 16 ∨ k = 17 ∨ k = 18))) : RRa s m' :=
  ⟨h.1, by rw [(hf.1 8 0 16 (fun z => (hq _ _ z).2 ⟨rfl, Or.inl rfl⟩)).1]; exact h.2.1, by rw [(hf.1 8 0 17 (fun z => (hq _ _ z).2 ⟨rfl, Or.inr (Or.inl rfl)⟩)).1]; exact h.2.2.1, by rw [(hf.1 8 0 18 (fun z => (hq _ _ z).2 ⟨rfl, Or.inr (Or.inr rfl)⟩)).1]; exact h.2.2.2.1, fun k hk => RR2_fs (h.2.2.2.2.1 k hk) hf (fun r j z => (hq r j z).1), h.2.2.2.2.2⟩
theorem RR3_fs {s : ST} {g : MSG} {Q : Nat → Nat → Prop} {m m' : MM} {i : Nat} (h : RR3 s g m i) (hf : fs Q m m') (hq : ∀ r, 43 ≤ r → r ≤ 49 → ¬ Q r i) : RR3 s g m' i := by
  have n : ∀ r, 43 ≤ r → r ≤ 49 → mI m' r 0 i = mI m r 0 i := fun r a b => (hf.1 r 0 i (hq r a b)).1
  unfold RR3 at h ⊢
  rw [n 43 (by decide) (by decide), n 44 (by decide) (by decide), n 45 (by decide) (by decide), n 46 (by decide) (by decide), n 47 (by decide) (by decide), n 48 (by decide) (by decide), n 49 (by decide) (by decide)]
  exact h
theorem RRm_fs {s : ST} {Q : Nat → Nat → Prop} {m m' : MM} (h : RRm s m) (hf : fs Q m m') (hq : ∀ r k, Q r k → (r < 43 ∨ 49 < r) ∧ ¬ (r = 8 ∧ k = 30)) : RRm s m' :=
  ⟨by rw [(hf.1 8 0 30 (fun z => (hq _ _ z).2 ⟨rfl, rfl⟩)).1]; exact h.1, h.2.1, fun i g hg => RR3_fs (h.2.2 i g hg) hf (fun r a b z => by have := (hq r i z).1; omega)⟩
theorem RRc_fs {s : ST} {Q : Nat → Nat → Prop} {m m' : MM} (h : RRc s m) (hf : fs Q m m') (hq : ∀ r k, Q r k → ¬ (r = 8 ∧ (k = 41 ∨ k = 42 ∨ k = 43 ∨ k = 44))) : RRc s m' := by
  have n : ∀ k, k = 41 ∨ k = 42 ∨ k = 43 ∨ k = 44 → mI m' 8 0 k = mI m 8 0 k := fun k hk => (hf.1 8 0 k (fun z => hq _ _ z ⟨rfl, hk⟩)).1
  unfold RRc at h ⊢
  rw [n 41 (by decide), n 42 (by decide), n 43 (by decide), n 44 (by decide)]
  exact h
theorem BGo_fs {B : PRS} {Q : Nat → Nat → Prop} {m m' : MM} (h : BGo B m) (hf : fs Q m m') (hq : ∀ r k, Q r k → r ≠ 50 ∧ r ≠ 51 ∧ ¬ (r = 8 ∧ k = 38)) : BGo B m' := by
  refine ⟨h.1, by rw [(hf.1 8 0 38 (fun z => (hq _ _ z).2.2 ⟨rfl, rfl⟩)).1]; exact h.2.1, fun j q hj => ?_⟩
  rw [(hf.1 50 0 _ (fun z => (hq _ _ z).1 rfl)).1, (hf.1 51 0 _ (fun z => (hq _ _ z).2.1 rfl)).2]
  exact h.2.2 j q hj
theorem RRb_fs {s s' : ST} {Q : Nat → Nat → Prop} {m m' : MM} (h : RRb s m) (hf : fs Q m m') (hq : ∀ r k, Q r k → r ≠ 50 ∧ r ≠ 51 ∧ ¬ (r = 8 ∧ k = 38)) (e1 : ∀ g, g ∈ c_ms s' → (g_so g = 6 ∨ g_so g = 10) → g ∈ c_ms s) (e2 : c_bg s' = c_bg s) : RRb s' m' := by
  intro ⟨g, a, b⟩
  obtain ⟨B, b1, b2⟩ := h ⟨g, e1 g a b, b⟩
  exact ⟨B, BGo_fs b1 hf hq, by rw [e2]; exact b2⟩
