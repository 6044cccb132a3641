/-! small things: scans, references -/
abbrev vi (x : Int32) : AV := .inl x
abbrev vl (x : Int64) : AV := .inr (.inl x)
abbrev vr (t : Nat) (o : Option Nat) : AV := .inr (.inr (t, o))
/-- the first place from i on, at most n places, where P ends -/
def sc (P : Nat → Bool) : Nat → Nat → Nat
  | 0, i => i
  | n + 1, i => if P i = true then sc P n (i + 1) else i
theorem ix_nI {i n : Nat} (h : i < n) (hn : n < 2 ^ 31) : ix (nI i) n = some i := ix_some (nI_toInt (by omega)) h
