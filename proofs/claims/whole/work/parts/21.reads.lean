/-! the pure answers -/
def isA (s : ST) (k : Int32) : Bool := decide (0 ≤ k.toInt ∧ k.toInt < c_na s)
def o_ask (s : ST) (k w : Int32) : Int32 := if ¬ isA s k = true then -1 else
  let a := c_ak s k.toInt.toNat
  if w = 0 then nI (a_so a) else if w = 1 then (if a_dn a = true then 1 else 0) else if w = 2 then a_an a else if w = 3 then nI (a_ps a) else if w = 4 then nI (min (a_ps a) 40) else -1
def o_passed (s : ST) (k i : Int32) : Int32 := if ¬ isA s k = true then -1 else
  let a := c_ak s k.toInt.toNat
  if 0 ≤ i.toInt ∧ i.toInt < 40 ∧ i.toInt < a_ps a then nI ((a_wy a).getD i.toInt.toNat 0) else -4
def o_noted (s : ST) (k i : Int32) : Int32 := if ¬ isA s k = true ∨ a_so (c_ak s k.toInt.toNat) ≠ 1 then -1 else
  let a := c_ak s k.toInt.toNat
  if 0 ≤ i.toInt ∧ i.toInt < 40 ∧ i.toInt < a_nt a then nI ((a_no a).getD i.toInt.toNat 0) else -4
def o_value (s : ST) (k : Int32) : Int64 := if isA s k = true ∧ a_so (c_ak s k.toInt.toNat) = 4 ∧ a_dn (c_ak s k.toInt.toNat) = true then a_va (c_ak s k.toInt.toNat) else 0
def o_message (s : ST) (i w : Int32) : Int32 := if 0 ≤ i.toInt ∧ i.toInt < (c_ms s).length then (match (c_ms s)[i.toInt.toNat]? with
    | some g => if w = 0 then nI (g_so g) else if w = 1 then nI (g_to g) else if w = 2 then enc (g_as g) else if w = 3 then enc (g_lv g) else -1
    | none => -1) else -1
def o_told (s : ST) (p w : Int32) : Int32 := if ¬ isP s p = true then -1 else
  let i := p.toInt.toNat
  if w = 0 then nI (c_be s i) else if w = 1 then c_bt s i else if w = 2 then nI (cntF (fun l => c_hs s i l) 9 0) else if w = 3 then c_ld s i else if w = 4 then nI (c_pr s i).length else -1
def o_name (s : ST) (p : Int32) : Int32 := if isP s p = true then c_nm s p.toInt.toNat else 0
def o_beside (s : ST) (p l d : Int32) : Int32 := if ¬ isP s p = true ∨ ¬ (0 ≤ l.toInt ∧ l.toInt ≤ 8) ∨ ¬ (0 ≤ d.toInt ∧ d.toInt ≤ 1) then -1
  else if c_hs s p.toInt.toNat l.toInt.toNat = false then -2 else enc (c_kl s p.toInt.toNat l.toInt.toNat d.toInt.toNat)
def o_key (s : ST) (p i : Int32) : Int32 := if isP s p = true ∧ 0 ≤ i.toInt ∧ i.toInt < (c_pr s p.toInt.toNat).length then ((c_pr s p.toInt.toNat).getD i.toInt.toNat (0, 0)).1 else 0
def o_kept (s : ST) (p i : Int32) : Int64 := if isP s p = true ∧ 0 ≤ i.toInt ∧ i.toInt < (c_pr s p.toInt.toNat).length then ((c_pr s p.toInt.toNat).getD i.toInt.toNat (0, 0)).2 else 0
def ltO (s : ST) (b : Option Nat) (p : Nat) : Bool := match b with
  | none => true
  | some x => decide (c_nm s x < c_nm s p)
def gtO (s : ST) (b : Option Nat) (p : Nat) : Bool := match b with
  | none => true
  | some x => decide (c_nm s p < c_nm s x)
def kpF (s : ST) (key : Int32) : Nat → Nat → Option Nat → Option Nat → Option Nat × Option Nat
  | 0, _, best, least => (best, least)
  | d + 1, p, best, least => if c_be s p = 2 then
      kpF s key d (p + 1) (if c_nm s p ≤ key ∧ ltO s best p = true then some p else best) (if gtO s least p = true then some p else least)
    else kpF s key d (p + 1) best least
def o_keeper (s : ST) (key : Int32) : Int32 := match kpF s key (c_n s) 0 none none with
  | (some b, _) => nI b
  | (none, q) => enc q
/-- the nearest one of THE ROW beside p -/
def bey (s : ST) (q p d : Nat) : Bool := if d = 0 then decide (c_nm s q < c_nm s p) else decide (c_nm s p < c_nm s q)
def nbO (s : ST) (b : Option Nat) (q d : Nat) : Bool := match b with
  | none => true
  | some x => bey s x q d
def nxF (s : ST) (p l d : Nat) : Nat → Nat → Option Nat → Option Nat
  | 0, _, b => b
  | k + 1, q, b => nxF s p l d k (q + 1) (if c_be s q = 2 ∧ like s p q l = true ∧ bey s q p d = true ∧ nbO s b q d = true then some q else b)
def nxt (s : ST) (p l d : Nat) : Option Nat := nxF s p l d (c_n s) 0 none
def rkF (s : ST) (p l q : Nat) : Nat := cntF (fun r => c_be s r == 2 && like s p r l && decide (c_nm s r < c_nm s q)) (c_n s) 0
def rwF (s : ST) (p l : Nat) (i : Int32) : Nat → Nat → Int32
  | 0, _ => -4
  | d + 1, q => if c_be s q = 2 ∧ like s p q l = true ∧ nI (rkF s p l q) = i then nI q else rwF s p l i d (q + 1)
def o_row (s : ST) (p l i : Int32) : Int32 := if ¬ isP s p = true ∨ ¬ (0 ≤ l.toInt ∧ l.toInt ≤ 8) then -1 else rwF s p.toInt.toNat l.toInt.toNat i (c_n s) 0
def alo (s : ST) (p l : Nat) : Bool := (nxt s p l 0).isNone && (nxt s p l 1).isNone
def due (s : ST) (p l : Nat) : Bool := l == 0 || !alo s p (l - 1)
/-- what is wrong at a level: 2 the place itself, 0 left, 1 right -/
def flt (s : ST) (p l : Nat) : Option Nat := if due s p l ≠ c_hs s p l then some 2 else if due s p l = false then none else if lnk s p l 0 ≠ nxt s p l 0 then some 0 else if lnk s p l 1 ≠ nxt s p l 1 then some 1 else none
def wlF (s : ST) (p : Nat) : Nat → Nat → Option (Nat × Nat)
  | 0, _ => none
  | d + 1, l => match flt s p l with
    | some x => some (l, x)
    | none => wlF s p d (l + 1)
def wpF (s : ST) : Nat → Nat → Option (Nat × Nat × Nat)
  | 0, _ => none
  | d + 1, p => match (if c_be s p = 2 then wlF s p 9 0 else none) with
    | some q => some (p, q.1, q.2)
    | none => wpF s d (p + 1)
def jud (s : ST) : Option (Nat × Nat × Nat) := wpF s (c_n s) 0
def o_sound (s : ST) : Int32 := if (jud s).isNone then 1 else 0
def o_why (s : ST) (w : Int32) : Int32 := if 0 ≤ w.toInt ∧ w.toInt ≤ 2 then (match jud s with
    | none => -4
    | some q => if w = 0 then nI q.1 else if w = 1 then nI q.2.1 else nI q.2.2) else -1
/-- how many pass, from u on, towards x -/
def wkF (s : ST) (x : Int32) : Nat → Nat → Nat
  | 0, _ => 1
  | f + 1, u => match onw s u x with
    | some p => 1 + wkF s x f p
    | none => 1
def wqF (s : ST) (p : Nat) : Nat → Nat → Int32 → Int32
  | 0, _, b => b
  | d + 1, q, b => wqF s p d (q + 1) (if c_be s p = 2 ∧ c_be s q = 2 then (let n := nI (wkF s (c_nm s q) 64 p); if b < n then n else b) else b)
def wsF (s : ST) : Nat → Nat → Int32 → Int32
  | 0, _, b => b
  | d + 1, p, b => wsF s d (p + 1) (wqF s p (c_n s) 0 b)
def o_worst (s : ST) : Int32 := if 0 < c_ck s then -2 else wsF s (c_n s) 0 (-4)
def o_count (s : ST) (w : Int32) : Int32 :=
  if w = 0 then nI (c_n s) else if w = 1 then nI (nIn s) else if w = 2 then nI (c_ms s).length else if w = 3 then nI (c_na s)
  else if w = 4 then nI (cntF (fun k => a_dn (c_ak s k)) (c_na s) 0) else if w = 5 then nI (c_ck s) else if w = 6 then nI (chM s) else if w = 7 then nI (c_ev s).length
  else if w = 8 then nI (cntF (fun k => a_lt (c_ak s k)) (c_na s) 0) else -1
