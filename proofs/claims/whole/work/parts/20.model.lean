/-! the pure calls, after the reference -/
def anyF (P : Nat → Bool) : Nat → Nat → Bool
  | 0, _ => false
  | d + 1, i => P i || anyF P d (i + 1)
def cntF (P : Nat → Bool) : Nat → Nat → Nat
  | 0, _ => 0
  | d + 1, i => (if P i = true then 1 else 0) + cntF P d (i + 1)
def enc (o : Option Nat) : Int32 := match o with
  | some j => nI j
  | none => -4
def up1 {α : Type} (f : Nat → α) (i : Nat) (v : α) : Nat → α := fun j => if j = i then v else f j
def up2 {α : Type} (f : Nat → Nat → α) (i k : Nat) (v : α) : Nat → Nat → α := fun j l => if j = i ∧ l = k then v else f j l
def up3 {α : Type} (f : Nat → Nat → Nat → α) (i k d : Nat) (v : α) : Nat → Nat → Nat → α := fun j l e => if j = i ∧ l = k ∧ e = d then v else f j l e
def lnk (s : ST) (p l d : Nat) : Option Nat := if c_hs s p l = true then c_kl s p l d else none
def lkb (x y : Int32) (many : Nat) : Bool := ((x ^^^ y) &&& ((1 : Int32) <<< (nI many &&& 31) - 1)) == 0
def like (s : ST) (p q many : Nat) : Bool := lkb (c_bt s p) (c_bt s q) many
def awy (s : ST) (u : Nat) : Bool := c_be s u == 0 || c_be s u == 1
def aml (s : ST) (u : Nat) (x : Int32) (d : Nat) : Nat → Option Nat
  | 0 => none
  | l + 1 => match lnk s u l d with
    | some p => if (if d = 1 then c_nm s p ≤ x else x ≤ c_nm s p) then some p else aml s u x d l
    | none => aml s u x d l
def onw (s : ST) (u : Nat) (x : Int32) : Option Nat :=
  if awy s u = true then (match c_ol s u 0 with | some p => some p | none => c_ol s u 1)
  else if c_nm s u ≤ x then aml s u x 1 9
  else match aml s u x 0 9 with | some p => some p | none => lnk s u 0 0
def ins : PRS → Int32 → Int64 → PRS
  | [], k, v => [(k, v)]
  | q :: r, k, v => if q.1 < k then q :: ins r k v else if q.1 = k then (k, v) :: r else (k, v) :: q :: r
def fnd : PRS → Int32 → Option Int64
  | [], _ => none
  | q :: r, k => if q.1 = k then some q.2 else fnd r k
def inl1 (L : PRS) (B : PRS) : PRS := B.foldl (fun L q => ins L q.1 q.2) L
def snd1 (s : ST) (g : MSG) : ST := c_ms_ s (c_ms s ++ [g])
def sndo (s : ST) (so : Nat) (to : Option Nat) (lv : Option Nat) (sd : Nat) (lf rg : Option Nat) : ST := match to with
  | some p => snd1 s (so, p, none, lv, sd, lf, rg)
  | none => s
def snda (s : ST) (k p : Nat) : ST := snd1 s (a_so (c_ak s k), p, some k, none, 0, none, none)
def nop (s : ST) (p from_ : Nat) : ST := c_kl_ (c_hs_ s (fun j l => if j = p ∧ from_ ≤ l ∧ l < 9 then false else c_hs s j l)) (fun j l d => if j = p ∧ from_ ≤ l ∧ l < 9 then none else c_kl s j l d)
def plc (s : ST) (p l : Nat) (a b : Option Nat) : ST := c_kl_ (c_hs_ s (up2 (c_hs s) p l true)) (up3 (up3 (c_kl s) p l 0 a) p l 1 b)
def isNm (s : ST) (name : Int32) : Bool := anyF (fun p => c_nm s p == name) (c_n s) 0
def made (s : ST) (name b : Int32) : ST :=
  let p := c_n s
  nop (c_pr_ (c_ol_ (c_ld_ (c_be_ (c_bt_ (c_nm_ (c_n_ s (p + 1)) (up1 (c_nm s) p name)) (up1 (c_bt s) p b)) (up1 (c_be s) p 0)) (up1 (c_ld s) p 0)) (fun j d => if j = p then none else c_ol s j d)) (up1 (c_pr s) p [])) p 0
def o_peer (s : ST) (name b : Int32) : Int32 × ST := if isNm s name = true ∨ ¬ (0 ≤ b ∧ b ≤ 255) then (-1, s) else if c_n s = 32 then (-3, s) else (nI (c_n s), made s name b)
def o_drawn (s : ST) (name : Int32) : Int32 × ST := if isNm s name = true then (-1, s) else if c_n s = 32 then (-3, s) else
  let d := c_dr s * 1103515245 + 12345
  (nI (c_n s), made (c_dr_ s d) name (d >>> (16 &&& 31) &&& 255))
def o_seed (s : ST) (v : Int32) : Int32 × ST := (1, c_dr_ s v)
def isP (s : ST) (p : Int32) : Bool := decide (0 ≤ p.toInt ∧ p.toInt < c_n s)
def nIn (s : ST) : Nat := cntF (fun p => c_be s p == 2) (c_n s) 0
def chM (s : ST) : Nat := ((c_ms s).filter fun g => (g_as g).isNone).length
def seeks (s : ST) (u l : Nat) : ST := if l < 8 then (match lnk s u l 1 with
    | some b => snd1 s (8, b, none, some l, 1, none, none)
    | none => sndo s 8 (lnk s u l 0) (some l) 0 none none) else s
def linked (s : ST) (u l : Nat) : ST :=
  let a := lnk s u l 0
  let b := lnk s u l 1
  seeks (sndo (sndo s 7 a (some l) 1 none (some u)) 7 b (some l) 0 (some u) none) u l
def unlF (s : ST) (u : Nat) : Nat → Nat → ST
  | 0, _ => s
  | d + 1, l => unlF (sndo (sndo s 7 (lnk s u l 0) (some l) 1 none (lnk s u l 1)) 7 (lnk s u l 1) (some l) 0 (lnk s u l 0) none) u d (l + 1)
def unlinks (s : ST) (u from_ : Nat) : ST := unlF s u (9 - from_) from_
def looks (s : ST) : ST :=
  let s := if c_ck s = 3 ∧ c_cu s = true ∧ chM s = 0 then seeks (c_bt_ (c_cu_ s false) (up1 (c_bt s) (c_cp s) (c_cb s))) (c_cp s) 0 else s
  if 0 < c_ck s ∧ chM s = 0 then
    c_bg_ (c_ck_ (if c_ck s = 2 then nop (c_be_ (c_ol_ s (fun j d => if j = c_cp s then lnk s j 0 d else c_ol s j d)) (up1 (c_be s) (c_cp s) 0)) (c_cp s) 0 else s) 0) []
  else s
def o_join (s : ST) (u v : Int32) : Int32 × ST :=
  if ¬ isP s u = true ∨ ¬ isP s v = true then (-1, s) else
  let i := u.toInt.toNat
  let j := v.toInt.toNat
  if 0 < c_ck s ∨ c_be s i ≠ 0 ∨ (if nIn s = 0 then i ≠ j else c_be s j ≠ 2) then (-2, s)
  else if nIn s = 0 then (1, c_pr_ (plc (nop (c_be_ s (up1 (c_be s) i 2)) i 0) i 0 none none) (up1 (c_pr s) i []))
  else (1, snd1 (c_be_ (c_bg_ (c_cu_ (c_cp_ (c_ck_ s 1) i) false) []) (up1 (c_be s) i 1)) (5, j, none, none, 0, none, none))
def o_leave (s : ST) (u : Int32) : Int32 × ST :=
  if ¬ isP s u = true then (-1, s) else
  let i := u.toInt.toNat
  if 0 < c_ck s ∨ c_be s i ≠ 2 then (-2, s) else
  let s1 := unlinks (c_be_ (c_bg_ (c_cu_ (c_cp_ (c_ck_ s 2) i) false) []) (up1 (c_be s) i 3)) i 0
  let to := match lnk s1 i 0 0 with | some p => some p | none => lnk s1 i 0 1
  let s2 := if c_pr s1 i = [] then s1 else sndo (c_bg_ s1 (c_pr s1 i)) 10 to none 0 none none
  (1, looks (c_pr_ s2 (up1 (c_pr s2) i [])))
def o_again (s : ST) (u b : Int32) : Int32 × ST :=
  if ¬ isP s u = true ∨ ¬ (0 ≤ b ∧ b ≤ 255) then (-1, s) else
  let i := u.toInt.toNat
  if 0 < c_ck s ∨ c_be s i ≠ 2 then (-2, s) else
  (1, looks (nop (unlinks (c_bg_ (c_cb_ (c_cu_ (c_cp_ (c_ck_ s 3) i) true) b) []) i 1) i 1))
def ak0 (so : Nat) (a b : Int32) (v : Int64) : AK := (so, a, b, v, false, false, false, 0, 0, [], 0, [])
def askOf (s : ST) (so i : Nat) (a b : Int32) (v : Int64) : Int32 × ST :=
  if c_be s i ≠ 2 then (-2, s) else
  let fresh := so == 3 && !(c_ev s).contains a
  if c_na s = 160 ∨ (fresh = true ∧ (c_ev s).length = 16) then (-3, s) else
  let s := if fresh = true then c_ev_ s (c_ev s ++ [a]) else s
  let k := c_na s
  (nI k, snda (c_ak_ (c_na_ s (k + 1)) (up1 (c_ak s) k (ak0 so a b v))) k i)
def o_ask2 (s : ST) (so : Nat) (p a b : Int32) (v : Int64) : Int32 × ST := if isP s p = true ∧ a ≤ b then askOf s so p.toInt.toNat a b v else (-1, s)
def endA (s : ST) (k : Nat) (x : Int32) : ST := c_ak_ s (up1 (c_ak s) k (a_an_ (a_dn_ (c_ak s k) true) x))
def isThere (s : ST) (k u : Nat) : ST :=
  let a := c_ak s k
  if a_so a = 0 then endA s k (nI u)
  else if a_so a = 3 then endA (c_pr_ s (up1 (c_pr s) u (ins (c_pr s u) (a_lo a) (a_va a)))) k 1
  else if a_so a = 4 then (match fnd (c_pr s u) (a_lo a) with
    | some v => endA (c_ak_ s (up1 (c_ak s) k (a_va_ a v))) k 1
    | none => endA s k (-4))
  else
    let a := a_th_ a true
    let a := if a_lo a ≤ c_nm s u ∧ c_nm s u ≤ a_hi a then a_nt_ (if a_nt a < 40 then a_no_ a (a_no a ++ [u]) else a) (a_nt a + 1) else a
    let s := c_ak_ s (up1 (c_ak s) k a)
    match lnk s u 0 1 with
    | some r => if c_nm s r ≤ a_hi a then snda s k r else endA s k (nI (a_nt a))
    | none => endA s k (nI (a_nt a))
def comesAsk (s : ST) (k u : Nat) : ST :=
  let a := c_ak s k
  let a := a_ps_ (if a_ps a < 40 then a_wy_ a (a_wy a ++ [u]) else a) (a_ps a + 1)
  let s := c_ak_ s (up1 (c_ak s) k a)
  if a_th a = true ∧ awy s u = false then isThere s k u
  else match onw s u (a_lo a) with
    | some p => snda s k p
    | none => if awy s u = true then endA (c_ak_ s (up1 (c_ak s) k (a_lt_ a true))) k (-4) else isThere s k u
def comesJoin (s : ST) (w : Nat) : ST :=
  let u := c_cp s
  match onw s w (c_nm s u) with
  | some p => snd1 s (5, p, none, none, 0, none, none)
  | none => if c_nm s w < c_nm s u then
      snd1 (c_bg_ (c_pr_ s (up1 (c_pr s) w ((c_pr s w).filter fun q => decide (q.1 < c_nm s u)))) ((c_pr s w).filter fun q => decide (c_nm s u ≤ q.1))) (6, u, none, none, 0, some w, lnk s w 0 1)
    else
      snd1 (c_bg_ (c_pr_ s (up1 (c_pr s) w ((c_pr s w).filter fun q => decide (c_nm s w ≤ q.1)))) ((c_pr s w).filter fun q => decide (q.1 < c_nm s w))) (6, u, none, none, 0, none, some w)
def comesLink (s : ST) (z l d : Nat) (who : Option Nat) : ST :=
  if who = none ∧ c_hs s z l = false then s else
  let alone := (lnk s z l 0).isNone && (lnk s z l 1).isNone
  let s := c_kl_ (c_hs_ s (up2 (c_hs s) z l true)) (up3 (c_kl s) z l d who)
  if (c_kl s z l 0).isNone && (c_kl s z l 1).isNone then nop s z (l + 1)
  else if alone = true ∧ l < 8 then c_hs_ s (up2 (c_hs s) z (l + 1) true) else s
def comesSeek (s : ST) (z l d : Nat) : ST :=
  let u := c_cp s
  if like s z u (l + 1) = true then
    snd1 s (9, u, none, some (l + 1), 0, if d = 1 then lnk s z (l + 1) 0 else some z, if d = 1 then some z else lnk s z (l + 1) 1)
  else match lnk s z l d with
    | some p => snd1 s (8, p, none, some l, d, none, none)
    | none => match (if d = 1 then lnk s u l 0 else none) with
      | some p => snd1 s (8, p, none, some l, 0, none, none)
      | none => snd1 s (9, u, none, some (l + 1), 0, none, none)
def come (s : ST) (i : Nat) : ST := match (c_ms s)[i]? with
  | none => s
  | some g =>
    let s := c_ld_ (c_ms_ s ((c_ms s).eraseIdx i)) (up1 (c_ld s) (g_to g) (c_ld s (g_to g) + 1))
    match g_as g with
    | some k => comesAsk s k (g_to g)
    | none => looks (
      let u := c_cp s
      let l := (g_lv g).getD 0
      if g_so g = 5 then comesJoin s (g_to g)
      else if g_so g = 6 then linked (c_bg_ (c_pr_ (plc (nop (c_be_ s (up1 (c_be s) u 2)) u 0) u 0 (g_lf g) (g_rg g)) (up1 (c_pr s) u (inl1 [] (c_bg s)))) []) u 0
      else if g_so g = 7 then comesLink s (g_to g) l (g_sd g) (if g_sd g = 0 then g_lf g else g_rg g)
      else if g_so g = 8 then comesSeek s (g_to g) l (g_sd g)
      else if g_so g = 9 then linked (plc s u l (g_lf g) (g_rg g)) u l
      else c_bg_ (c_pr_ s (up1 (c_pr s) (g_to g) (inl1 (c_pr s (g_to g)) (c_bg s)))) [])
def may (s : ST) (g : MSG) : Bool := c_ck s == 0 || (g_so g != 3 && g_so g != 4)
def o_deliver (s : ST) (i : Int32) : Int32 × ST := if 0 ≤ i.toInt ∧ i.toInt < (c_ms s).length then (match (c_ms s)[i.toInt.toNat]? with
    | some g => if may s g = true then (nI (g_so g), come s i.toInt.toNat) else (-2, s)
    | none => (-1, s)) else (-1, s)
def allF (s : ST) : Nat → Nat → Nat × ST
  | 0, k => (k, s)
  | d + 1, k => match (c_ms s).findIdx? (may s) with
    | some i => allF (come s i) d (k + 1)
    | none => (k, s)
def o_all (s : ST) (n : Int32) : Int32 × ST := if 0 ≤ n.toInt ∧ n.toInt ≤ 1000 then (nI (allF s n.toInt.toNat 0).1, (allF s n.toInt.toNat 0).2) else (-1, s)
