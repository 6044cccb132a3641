/-! the pure state: peers, asks, messages, the change; printed by wip/gen/state.py -/
abbrev PRS : Type := List (Int32 × Int64)
abbrev AK : Type := (Nat) × (Int32) × (Int32) × (Int64) × (Bool) × (Bool) × (Bool) × (Int32) × (Nat) × (List Nat) × (Nat) × (List Nat)
def a_so (s : AK) : Nat := s.1
def a_so_ (s : AK) (v : Nat) : AK := (v, s.2)
def a_lo (s : AK) : Int32 := s.2.1
def a_lo_ (s : AK) (v : Int32) : AK := (s.1, v, s.2.2)
def a_hi (s : AK) : Int32 := s.2.2.1
def a_hi_ (s : AK) (v : Int32) : AK := (s.1, s.2.1, v, s.2.2.2)
def a_va (s : AK) : Int64 := s.2.2.2.1
def a_va_ (s : AK) (v : Int64) : AK := (s.1, s.2.1, s.2.2.1, v, s.2.2.2.2)
def a_th (s : AK) : Bool := s.2.2.2.2.1
def a_th_ (s : AK) (v : Bool) : AK := (s.1, s.2.1, s.2.2.1, s.2.2.2.1, v, s.2.2.2.2.2)
def a_dn (s : AK) : Bool := s.2.2.2.2.2.1
def a_dn_ (s : AK) (v : Bool) : AK := (s.1, s.2.1, s.2.2.1, s.2.2.2.1, s.2.2.2.2.1, v, s.2.2.2.2.2.2)
def a_lt (s : AK) : Bool := s.2.2.2.2.2.2.1
def a_lt_ (s : AK) (v : Bool) : AK := (s.1, s.2.1, s.2.2.1, s.2.2.2.1, s.2.2.2.2.1, s.2.2.2.2.2.1, v, s.2.2.2.2.2.2.2)
def a_an (s : AK) : Int32 := s.2.2.2.2.2.2.2.1
def a_an_ (s : AK) (v : Int32) : AK := (s.1, s.2.1, s.2.2.1, s.2.2.2.1, s.2.2.2.2.1, s.2.2.2.2.2.1, s.2.2.2.2.2.2.1, v, s.2.2.2.2.2.2.2.2)
def a_ps (s : AK) : Nat := s.2.2.2.2.2.2.2.2.1
def a_ps_ (s : AK) (v : Nat) : AK := (s.1, s.2.1, s.2.2.1, s.2.2.2.1, s.2.2.2.2.1, s.2.2.2.2.2.1, s.2.2.2.2.2.2.1, s.2.2.2.2.2.2.2.1, v, s.2.2.2.2.2.2.2.2.2)
def a_wy (s : AK) : List Nat := s.2.2.2.2.2.2.2.2.2.1
def a_wy_ (s : AK) (v : List Nat) : AK := (s.1, s.2.1, s.2.2.1, s.2.2.2.1, s.2.2.2.2.1, s.2.2.2.2.2.1, s.2.2.2.2.2.2.1, s.2.2.2.2.2.2.2.1, s.2.2.2.2.2.2.2.2.1, v, s.2.2.2.2.2.2.2.2.2.2)
def a_nt (s : AK) : Nat := s.2.2.2.2.2.2.2.2.2.2.1
def a_nt_ (s : AK) (v : Nat) : AK := (s.1, s.2.1, s.2.2.1, s.2.2.2.1, s.2.2.2.2.1, s.2.2.2.2.2.1, s.2.2.2.2.2.2.1, s.2.2.2.2.2.2.2.1, s.2.2.2.2.2.2.2.2.1, s.2.2.2.2.2.2.2.2.2.1, v, s.2.2.2.2.2.2.2.2.2.2.2)
def a_no (s : AK) : List Nat := s.2.2.2.2.2.2.2.2.2.2.2
def a_no_ (s : AK) (v : List Nat) : AK := (s.1, s.2.1, s.2.2.1, s.2.2.2.1, s.2.2.2.2.1, s.2.2.2.2.2.1, s.2.2.2.2.2.2.1, s.2.2.2.2.2.2.2.1, s.2.2.2.2.2.2.2.2.1, s.2.2.2.2.2.2.2.2.2.1, s.2.2.2.2.2.2.2.2.2.2.1, v)
abbrev MSG : Type := (Nat) × (Nat) × (Option Nat) × (Option Nat) × (Nat) × (Option Nat) × (Option Nat)
def g_so (s : MSG) : Nat := s.1
def g_so_ (s : MSG) (v : Nat) : MSG := (v, s.2)
def g_to (s : MSG) : Nat := s.2.1
def g_to_ (s : MSG) (v : Nat) : MSG := (s.1, v, s.2.2)
def g_as (s : MSG) : Option Nat := s.2.2.1
def g_as_ (s : MSG) (v : Option Nat) : MSG := (s.1, s.2.1, v, s.2.2.2)
def g_lv (s : MSG) : Option Nat := s.2.2.2.1
def g_lv_ (s : MSG) (v : Option Nat) : MSG := (s.1, s.2.1, s.2.2.1, v, s.2.2.2.2)
def g_sd (s : MSG) : Nat := s.2.2.2.2.1
def g_sd_ (s : MSG) (v : Nat) : MSG := (s.1, s.2.1, s.2.2.1, s.2.2.2.1, v, s.2.2.2.2.2)
def g_lf (s : MSG) : Option Nat := s.2.2.2.2.2.1
def g_lf_ (s : MSG) (v : Option Nat) : MSG := (s.1, s.2.1, s.2.2.1, s.2.2.2.1, s.2.2.2.2.1, v, s.2.2.2.2.2.2)
def g_rg (s : MSG) : Option Nat := s.2.2.2.2.2.2
def g_rg_ (s : MSG) (v : Option Nat) : MSG := (s.1, s.2.1, s.2.2.1, s.2.2.2.1, s.2.2.2.2.1, s.2.2.2.2.2.1, v)
abbrev ST : Type := (Nat) × (Nat → Int32) × (Nat → Int32) × (Nat → Nat) × (Nat → Int32) × (Nat → Nat → Bool) × (Nat → Nat → Nat → Option Nat) × (Nat → Nat → Option Nat) × (Nat → PRS) × (Int32) × (List Int32) × (Nat) × (Nat → AK) × (List MSG) × (Nat) × (Nat) × (Bool) × (Int32) × (PRS)
def c_n (s : ST) : Nat := s.1
def c_n_ (s : ST) (v : Nat) : ST := (v, s.2)
def c_nm (s : ST) : Nat → Int32 := s.2.1
def c_nm_ (s : ST) (v : Nat → Int32) : ST := (s.1, v, s.2.2)
def c_bt (s : ST) : Nat → Int32 := s.2.2.1
def c_bt_ (s : ST) (v : Nat → Int32) : ST := (s.1, s.2.1, v, s.2.2.2)
def c_be (s : ST) : Nat → Nat := s.2.2.2.1
def c_be_ (s : ST) (v : Nat → Nat) : ST := (s.1, s.2.1, s.2.2.1, v, s.2.2.2.2)
def c_ld (s : ST) : Nat → Int32 := s.2.2.2.2.1
def c_ld_ (s : ST) (v : Nat → Int32) : ST := (s.1, s.2.1, s.2.2.1, s.2.2.2.1, v, s.2.2.2.2.2)
def c_hs (s : ST) : Nat → Nat → Bool := s.2.2.2.2.2.1
def c_hs_ (s : ST) (v : Nat → Nat → Bool) : ST := (s.1, s.2.1, s.2.2.1, s.2.2.2.1, s.2.2.2.2.1, v, s.2.2.2.2.2.2)
def c_kl (s : ST) : Nat → Nat → Nat → Option Nat := s.2.2.2.2.2.2.1
def c_kl_ (s : ST) (v : Nat → Nat → Nat → Option Nat) : ST := (s.1, s.2.1, s.2.2.1, s.2.2.2.1, s.2.2.2.2.1, s.2.2.2.2.2.1, v, s.2.2.2.2.2.2.2)
def c_ol (s : ST) : Nat → Nat → Option Nat := s.2.2.2.2.2.2.2.1
def c_ol_ (s : ST) (v : Nat → Nat → Option Nat) : ST := (s.1, s.2.1, s.2.2.1, s.2.2.2.1, s.2.2.2.2.1, s.2.2.2.2.2.1, s.2.2.2.2.2.2.1, v, s.2.2.2.2.2.2.2.2)
def c_pr (s : ST) : Nat → PRS := s.2.2.2.2.2.2.2.2.1
def c_pr_ (s : ST) (v : Nat → PRS) : ST := (s.1, s.2.1, s.2.2.1, s.2.2.2.1, s.2.2.2.2.1, s.2.2.2.2.2.1, s.2.2.2.2.2.2.1, s.2.2.2.2.2.2.2.1, v, s.2.2.2.2.2.2.2.2.2)
def c_dr (s : ST) : Int32 := s.2.2.2.2.2.2.2.2.2.1
def c_dr_ (s : ST) (v : Int32) : ST := (s.1, s.2.1, s.2.2.1, s.2.2.2.1, s.2.2.2.2.1, s.2.2.2.2.2.1, s.2.2.2.2.2.2.1, s.2.2.2.2.2.2.2.1, s.2.2.2.2.2.2.2.2.1, v, s.2.2.2.2.2.2.2.2.2.2)
def c_ev (s : ST) : List Int32 := s.2.2.2.2.2.2.2.2.2.2.1
def c_ev_ (s : ST) (v : List Int32) : ST := (s.1, s.2.1, s.2.2.1, s.2.2.2.1, s.2.2.2.2.1, s.2.2.2.2.2.1, s.2.2.2.2.2.2.1, s.2.2.2.2.2.2.2.1, s.2.2.2.2.2.2.2.2.1, s.2.2.2.2.2.2.2.2.2.1, v, s.2.2.2.2.2.2.2.2.2.2.2)
def c_na (s : ST) : Nat := s.2.2.2.2.2.2.2.2.2.2.2.1
def c_na_ (s : ST) (v : Nat) : ST := (s.1, s.2.1, s.2.2.1, s.2.2.2.1, s.2.2.2.2.1, s.2.2.2.2.2.1, s.2.2.2.2.2.2.1, s.2.2.2.2.2.2.2.1, s.2.2.2.2.2.2.2.2.1, s.2.2.2.2.2.2.2.2.2.1, s.2.2.2.2.2.2.2.2.2.2.1, v, s.2.2.2.2.2.2.2.2.2.2.2.2)
def c_ak (s : ST) : Nat → AK := s.2.2.2.2.2.2.2.2.2.2.2.2.1
def c_ak_ (s : ST) (v : Nat → AK) : ST := (s.1, s.2.1, s.2.2.1, s.2.2.2.1, s.2.2.2.2.1, s.2.2.2.2.2.1, s.2.2.2.2.2.2.1, s.2.2.2.2.2.2.2.1, s.2.2.2.2.2.2.2.2.1, s.2.2.2.2.2.2.2.2.2.1, s.2.2.2.2.2.2.2.2.2.2.1, s.2.2.2.2.2.2.2.2.2.2.2.1, v, s.2.2.2.2.2.2.2.2.2.2.2.2.2)
def c_ms (s : ST) : List MSG := s.2.2.2.2.2.2.2.2.2.2.2.2.2.1
def c_ms_ (s : ST) (v : List MSG) : ST := (s.1, s.2.1, s.2.2.1, s.2.2.2.1, s.2.2.2.2.1, s.2.2.2.2.2.1, s.2.2.2.2.2.2.1, s.2.2.2.2.2.2.2.1, s.2.2.2.2.2.2.2.2.1, s.2.2.2.2.2.2.2.2.2.1, s.2.2.2.2.2.2.2.2.2.2.1, s.2.2.2.2.2.2.2.2.2.2.2.1, s.2.2.2.2.2.2.2.2.2.2.2.2.1, v, s.2.2.2.2.2.2.2.2.2.2.2.2.2.2)
def c_ck (s : ST) : Nat := s.2.2.2.2.2.2.2.2.2.2.2.2.2.2.1
def c_ck_ (s : ST) (v : Nat) : ST := (s.1, s.2.1, s.2.2.1, s.2.2.2.1, s.2.2.2.2.1, s.2.2.2.2.2.1, s.2.2.2.2.2.2.1, s.2.2.2.2.2.2.2.1, s.2.2.2.2.2.2.2.2.1, s.2.2.2.2.2.2.2.2.2.1, s.2.2.2.2.2.2.2.2.2.2.1, s.2.2.2.2.2.2.2.2.2.2.2.1, s.2.2.2.2.2.2.2.2.2.2.2.2.1, s.2.2.2.2.2.2.2.2.2.2.2.2.2.1, v, s.2.2.2.2.2.2.2.2.2.2.2.2.2.2.2)
def c_cp (s : ST) : Nat := s.2.2.2.2.2.2.2.2.2.2.2.2.2.2.2.1
def c_cp_ (s : ST) (v : Nat) : ST := (s.1, s.2.1, s.2.2.1, s.2.2.2.1, s.2.2.2.2.1, s.2.2.2.2.2.1, s.2.2.2.2.2.2.1, s.2.2.2.2.2.2.2.1, s.2.2.2.2.2.2.2.2.1, s.2.2.2.2.2.2.2.2.2.1, s.2.2.2.2.2.2.2.2.2.2.1, s.2.2.2.2.2.2.2.2.2.2.2.1, s.2.2.2.2.2.2.2.2.2.2.2.2.1, s.2.2.2.2.2.2.2.2.2.2.2.2.2.1, s.2.2.2.2.2.2.2.2.2.2.2.2.2.2.1, v, s.2.2.2.2.2.2.2.2.2.2.2.2.2.2.2.2)
def c_cu (s : ST) : Bool := s.2.2.2.2.2.2.2.2.2.2.2.2.2.2.2.2.1
def c_cu_ (s : ST) (v : Bool) : ST := (s.1, s.2.1, s.2.2.1, s.2.2.2.1, s.2.2.2.2.1, s.2.2.2.2.2.1, s.2.2.2.2.2.2.1, s.2.2.2.2.2.2.2.1, s.2.2.2.2.2.2.2.2.1, s.2.2.2.2.2.2.2.2.2.1, s.2.2.2.2.2.2.2.2.2.2.1, s.2.2.2.2.2.2.2.2.2.2.2.1, s.2.2.2.2.2.2.2.2.2.2.2.2.1, s.2.2.2.2.2.2.2.2.2.2.2.2.2.1, s.2.2.2.2.2.2.2.2.2.2.2.2.2.2.1, s.2.2.2.2.2.2.2.2.2.2.2.2.2.2.2.1, v, s.2.2.2.2.2.2.2.2.2.2.2.2.2.2.2.2.2)
def c_cb (s : ST) : Int32 := s.2.2.2.2.2.2.2.2.2.2.2.2.2.2.2.2.2.1
def c_cb_ (s : ST) (v : Int32) : ST := (s.1, s.2.1, s.2.2.1, s.2.2.2.1, s.2.2.2.2.1, s.2.2.2.2.2.1, s.2.2.2.2.2.2.1, s.2.2.2.2.2.2.2.1, s.2.2.2.2.2.2.2.2.1, s.2.2.2.2.2.2.2.2.2.1, s.2.2.2.2.2.2.2.2.2.2.1, s.2.2.2.2.2.2.2.2.2.2.2.1, s.2.2.2.2.2.2.2.2.2.2.2.2.1, s.2.2.2.2.2.2.2.2.2.2.2.2.2.1, s.2.2.2.2.2.2.2.2.2.2.2.2.2.2.1, s.2.2.2.2.2.2.2.2.2.2.2.2.2.2.2.1, s.2.2.2.2.2.2.2.2.2.2.2.2.2.2.2.2.1, v, s.2.2.2.2.2.2.2.2.2.2.2.2.2.2.2.2.2.2)
def c_bg (s : ST) : PRS := s.2.2.2.2.2.2.2.2.2.2.2.2.2.2.2.2.2.2
def c_bg_ (s : ST) (v : PRS) : ST := (s.1, s.2.1, s.2.2.1, s.2.2.2.1, s.2.2.2.2.1, s.2.2.2.2.2.1, s.2.2.2.2.2.2.1, s.2.2.2.2.2.2.2.1, s.2.2.2.2.2.2.2.2.1, s.2.2.2.2.2.2.2.2.2.1, s.2.2.2.2.2.2.2.2.2.2.1, s.2.2.2.2.2.2.2.2.2.2.2.1, s.2.2.2.2.2.2.2.2.2.2.2.2.1, s.2.2.2.2.2.2.2.2.2.2.2.2.2.1, s.2.2.2.2.2.2.2.2.2.2.2.2.2.2.1, s.2.2.2.2.2.2.2.2.2.2.2.2.2.2.2.1, s.2.2.2.2.2.2.2.2.2.2.2.2.2.2.2.2.1, s.2.2.2.2.2.2.2.2.2.2.2.2.2.2.2.2.2.1, v)
theorem a_so_so (s : AK) (v : Nat) : a_so (a_so_ s v) = v := rfl
theorem a_so_lo (s : AK) (v : Int32) : a_so (a_lo_ s v) = a_so s := rfl
theorem a_so_hi (s : AK) (v : Int32) : a_so (a_hi_ s v) = a_so s := rfl
theorem a_so_va (s : AK) (v : Int64) : a_so (a_va_ s v) = a_so s := rfl
theorem a_so_th (s : AK) (v : Bool) : a_so (a_th_ s v) = a_so s := rfl
theorem a_so_dn (s : AK) (v : Bool) : a_so (a_dn_ s v) = a_so s := rfl
theorem a_so_lt (s : AK) (v : Bool) : a_so (a_lt_ s v) = a_so s := rfl
theorem a_so_an (s : AK) (v : Int32) : a_so (a_an_ s v) = a_so s := rfl
theorem a_so_ps (s : AK) (v : Nat) : a_so (a_ps_ s v) = a_so s := rfl
theorem a_so_wy (s : AK) (v : List Nat) : a_so (a_wy_ s v) = a_so s := rfl
theorem a_so_nt (s : AK) (v : Nat) : a_so (a_nt_ s v) = a_so s := rfl
theorem a_so_no (s : AK) (v : List Nat) : a_so (a_no_ s v) = a_so s := rfl
theorem a_lo_so (s : AK) (v : Nat) : a_lo (a_so_ s v) = a_lo s := rfl
theorem a_lo_lo (s : AK) (v : Int32) : a_lo (a_lo_ s v) = v := rfl
theorem a_lo_hi (s : AK) (v : Int32) : a_lo (a_hi_ s v) = a_lo s := rfl
theorem a_lo_va (s : AK) (v : Int64) : a_lo (a_va_ s v) = a_lo s := rfl
theorem a_lo_th (s : AK) (v : Bool) : a_lo (a_th_ s v) = a_lo s := rfl
theorem a_lo_dn (s : AK) (v : Bool) : a_lo (a_dn_ s v) = a_lo s := rfl
theorem a_lo_lt (s : AK) (v : Bool) : a_lo (a_lt_ s v) = a_lo s := rfl
theorem a_lo_an (s : AK) (v : Int32) : a_lo (a_an_ s v) = a_lo s := rfl
theorem a_lo_ps (s : AK) (v : Nat) : a_lo (a_ps_ s v) = a_lo s := rfl
theorem a_lo_wy (s : AK) (v : List Nat) : a_lo (a_wy_ s v) = a_lo s := rfl
theorem a_lo_nt (s : AK) (v : Nat) : a_lo (a_nt_ s v) = a_lo s := rfl
theorem a_lo_no (s : AK) (v : List Nat) : a_lo (a_no_ s v) = a_lo s := rfl
theorem a_hi_so (s : AK) (v : Nat) : a_hi (a_so_ s v) = a_hi s := rfl
theorem a_hi_lo (s : AK) (v : Int32) : a_hi (a_lo_ s v) = a_hi s := rfl
theorem a_hi_hi (s : AK) (v : Int32) : a_hi (a_hi_ s v) = v := rfl
theorem a_hi_va (s : AK) (v : Int64) : a_hi (a_va_ s v) = a_hi s := rfl
theorem a_hi_th (s : AK) (v : Bool) : a_hi (a_th_ s v) = a_hi s := rfl
theorem a_hi_dn (s : AK) (v : Bool) : a_hi (a_dn_ s v) = a_hi s := rfl
theorem a_hi_lt (s : AK) (v : Bool) : a_hi (a_lt_ s v) = a_hi s := rfl
theorem a_hi_an (s : AK) (v : Int32) : a_hi (a_an_ s v) = a_hi s := rfl
theorem a_hi_ps (s : AK) (v : Nat) : a_hi (a_ps_ s v) = a_hi s := rfl
theorem a_hi_wy (s : AK) (v : List Nat) : a_hi (a_wy_ s v) = a_hi s := rfl
theorem a_hi_nt (s : AK) (v : Nat) : a_hi (a_nt_ s v) = a_hi s := rfl
theorem a_hi_no (s : AK) (v : List Nat) : a_hi (a_no_ s v) = a_hi s := rfl
theorem a_va_so (s : AK) (v : Nat) : a_va (a_so_ s v) = a_va s := rfl
theorem a_va_lo (s : AK) (v : Int32) : a_va (a_lo_ s v) = a_va s := rfl
theorem a_va_hi (s : AK) (v : Int32) : a_va (a_hi_ s v) = a_va s := rfl
theorem a_va_va (s : AK) (v : Int64) : a_va (a_va_ s v) = v := rfl
theorem a_va_th (s : AK) (v : Bool) : a_va (a_th_ s v) = a_va s := rfl
theorem a_va_dn (s : AK) (v : Bool) : a_va (a_dn_ s v) = a_va s := rfl
theorem a_va_lt (s : AK) (v : Bool) : a_va (a_lt_ s v) = a_va s := rfl
theorem a_va_an (s : AK) (v : Int32) : a_va (a_an_ s v) = a_va s := rfl
theorem a_va_ps (s : AK) (v : Nat) : a_va (a_ps_ s v) = a_va s := rfl
theorem a_va_wy (s : AK) (v : List Nat) : a_va (a_wy_ s v) = a_va s := rfl
theorem a_va_nt (s : AK) (v : Nat) : a_va (a_nt_ s v) = a_va s := rfl
theorem a_va_no (s : AK) (v : List Nat) : a_va (a_no_ s v) = a_va s := rfl
theorem a_th_so (s : AK) (v : Nat) : a_th (a_so_ s v) = a_th s := rfl
theorem a_th_lo (s : AK) (v : Int32) : a_th (a_lo_ s v) = a_th s := rfl
theorem a_th_hi (s : AK) (v : Int32) : a_th (a_hi_ s v) = a_th s := rfl
theorem a_th_va (s : AK) (v : Int64) : a_th (a_va_ s v) = a_th s := rfl
theorem a_th_th (s : AK) (v : Bool) : a_th (a_th_ s v) = v := rfl
theorem a_th_dn (s : AK) (v : Bool) : a_th (a_dn_ s v) = a_th s := rfl
theorem a_th_lt (s : AK) (v : Bool) : a_th (a_lt_ s v) = a_th s := rfl
theorem a_th_an (s : AK) (v : Int32) : a_th (a_an_ s v) = a_th s := rfl
theorem a_th_ps (s : AK) (v : Nat) : a_th (a_ps_ s v) = a_th s := rfl
theorem a_th_wy (s : AK) (v : List Nat) : a_th (a_wy_ s v) = a_th s := rfl
theorem a_th_nt (s : AK) (v : Nat) : a_th (a_nt_ s v) = a_th s := rfl
theorem a_th_no (s : AK) (v : List Nat) : a_th (a_no_ s v) = a_th s := rfl
theorem a_dn_so (s : AK) (v : Nat) : a_dn (a_so_ s v) = a_dn s := rfl
theorem a_dn_lo (s : AK) (v : Int32) : a_dn (a_lo_ s v) = a_dn s := rfl
theorem a_dn_hi (s : AK) (v : Int32) : a_dn (a_hi_ s v) = a_dn s := rfl
theorem a_dn_va (s : AK) (v : Int64) : a_dn (a_va_ s v) = a_dn s := rfl
theorem a_dn_th (s : AK) (v : Bool) : a_dn (a_th_ s v) = a_dn s := rfl
theorem a_dn_dn (s : AK) (v : Bool) : a_dn (a_dn_ s v) = v := rfl
theorem a_dn_lt (s : AK) (v : Bool) : a_dn (a_lt_ s v) = a_dn s := rfl
theorem a_dn_an (s : AK) (v : Int32) : a_dn (a_an_ s v) = a_dn s := rfl
theorem a_dn_ps (s : AK) (v : Nat) : a_dn (a_ps_ s v) = a_dn s := rfl
theorem a_dn_wy (s : AK) (v : List Nat) : a_dn (a_wy_ s v) = a_dn s := rfl
theorem a_dn_nt (s : AK) (v : Nat) : a_dn (a_nt_ s v) = a_dn s := rfl
theorem a_dn_no (s : AK) (v : List Nat) : a_dn (a_no_ s v) = a_dn s := rfl
theorem a_lt_so (s : AK) (v : Nat) : a_lt (a_so_ s v) = a_lt s := rfl
theorem a_lt_lo (s : AK) (v : Int32) : a_lt (a_lo_ s v) = a_lt s := rfl
theorem a_lt_hi (s : AK) (v : Int32) : a_lt (a_hi_ s v) = a_lt s := rfl
theorem a_lt_va (s : AK) (v : Int64) : a_lt (a_va_ s v) = a_lt s := rfl
theorem a_lt_th (s : AK) (v : Bool) : a_lt (a_th_ s v) = a_lt s := rfl
theorem a_lt_dn (s : AK) (v : Bool) : a_lt (a_dn_ s v) = a_lt s := rfl
theorem a_lt_lt (s : AK) (v : Bool) : a_lt (a_lt_ s v) = v := rfl
theorem a_lt_an (s : AK) (v : Int32) : a_lt (a_an_ s v) = a_lt s := rfl
theorem a_lt_ps (s : AK) (v : Nat) : a_lt (a_ps_ s v) = a_lt s := rfl
theorem a_lt_wy (s : AK) (v : List Nat) : a_lt (a_wy_ s v) = a_lt s := rfl
theorem a_lt_nt (s : AK) (v : Nat) : a_lt (a_nt_ s v) = a_lt s := rfl
theorem a_lt_no (s : AK) (v : List Nat) : a_lt (a_no_ s v) = a_lt s := rfl
theorem a_an_so (s : AK) (v : Nat) : a_an (a_so_ s v) = a_an s := rfl
theorem a_an_lo (s : AK) (v : Int32) : a_an (a_lo_ s v) = a_an s := rfl
theorem a_an_hi (s : AK) (v : Int32) : a_an (a_hi_ s v) = a_an s := rfl
theorem a_an_va (s : AK) (v : Int64) : a_an (a_va_ s v) = a_an s := rfl
theorem a_an_th (s : AK) (v : Bool) : a_an (a_th_ s v) = a_an s := rfl
theorem a_an_dn (s : AK) (v : Bool) : a_an (a_dn_ s v) = a_an s := rfl
theorem a_an_lt (s : AK) (v : Bool) : a_an (a_lt_ s v) = a_an s := rfl
theorem a_an_an (s : AK) (v : Int32) : a_an (a_an_ s v) = v := rfl
theorem a_an_ps (s : AK) (v : Nat) : a_an (a_ps_ s v) = a_an s := rfl
theorem a_an_wy (s : AK) (v : List Nat) : a_an (a_wy_ s v) = a_an s := rfl
theorem a_an_nt (s : AK) (v : Nat) : a_an (a_nt_ s v) = a_an s := rfl
theorem a_an_no (s : AK) (v : List Nat) : a_an (a_no_ s v) = a_an s := rfl
theorem a_ps_so (s : AK) (v : Nat) : a_ps (a_so_ s v) = a_ps s := rfl
theorem a_ps_lo (s : AK) (v : Int32) : a_ps (a_lo_ s v) = a_ps s := rfl
theorem a_ps_hi (s : AK) (v : Int32) : a_ps (a_hi_ s v) = a_ps s := rfl
theorem a_ps_va (s : AK) (v : Int64) : a_ps (a_va_ s v) = a_ps s := rfl
theorem a_ps_th (s : AK) (v : Bool) : a_ps (a_th_ s v) = a_ps s := rfl
theorem a_ps_dn (s : AK) (v : Bool) : a_ps (a_dn_ s v) = a_ps s := rfl
theorem a_ps_lt (s : AK) (v : Bool) : a_ps (a_lt_ s v) = a_ps s := rfl
theorem a_ps_an (s : AK) (v : Int32) : a_ps (a_an_ s v) = a_ps s := rfl
theorem a_ps_ps (s : AK) (v : Nat) : a_ps (a_ps_ s v) = v := rfl
theorem a_ps_wy (s : AK) (v : List Nat) : a_ps (a_wy_ s v) = a_ps s := rfl
theorem a_ps_nt (s : AK) (v : Nat) : a_ps (a_nt_ s v) = a_ps s := rfl
theorem a_ps_no (s : AK) (v : List Nat) : a_ps (a_no_ s v) = a_ps s := rfl
theorem a_wy_so (s : AK) (v : Nat) : a_wy (a_so_ s v) = a_wy s := rfl
theorem a_wy_lo (s : AK) (v : Int32) : a_wy (a_lo_ s v) = a_wy s := rfl
theorem a_wy_hi (s : AK) (v : Int32) : a_wy (a_hi_ s v) = a_wy s := rfl
theorem a_wy_va (s : AK) (v : Int64) : a_wy (a_va_ s v) = a_wy s := rfl
theorem a_wy_th (s : AK) (v : Bool) : a_wy (a_th_ s v) = a_wy s := rfl
theorem a_wy_dn (s : AK) (v : Bool) : a_wy (a_dn_ s v) = a_wy s := rfl
theorem a_wy_lt (s : AK) (v : Bool) : a_wy (a_lt_ s v) = a_wy s := rfl
theorem a_wy_an (s : AK) (v : Int32) : a_wy (a_an_ s v) = a_wy s := rfl
theorem a_wy_ps (s : AK) (v : Nat) : a_wy (a_ps_ s v) = a_wy s := rfl
theorem a_wy_wy (s : AK) (v : List Nat) : a_wy (a_wy_ s v) = v := rfl
theorem a_wy_nt (s : AK) (v : Nat) : a_wy (a_nt_ s v) = a_wy s := rfl
theorem a_wy_no (s : AK) (v : List Nat) : a_wy (a_no_ s v) = a_wy s := rfl
theorem a_nt_so (s : AK) (v : Nat) : a_nt (a_so_ s v) = a_nt s := rfl
theorem a_nt_lo (s : AK) (v : Int32) : a_nt (a_lo_ s v) = a_nt s := rfl
theorem a_nt_hi (s : AK) (v : Int32) : a_nt (a_hi_ s v) = a_nt s := rfl
theorem a_nt_va (s : AK) (v : Int64) : a_nt (a_va_ s v) = a_nt s := rfl
theorem a_nt_th (s : AK) (v : Bool) : a_nt (a_th_ s v) = a_nt s := rfl
theorem a_nt_dn (s : AK) (v : Bool) : a_nt (a_dn_ s v) = a_nt s := rfl
theorem a_nt_lt (s : AK) (v : Bool) : a_nt (a_lt_ s v) = a_nt s := rfl
theorem a_nt_an (s : AK) (v : Int32) : a_nt (a_an_ s v) = a_nt s := rfl
theorem a_nt_ps (s : AK) (v : Nat) : a_nt (a_ps_ s v) = a_nt s := rfl
theorem a_nt_wy (s : AK) (v : List Nat) : a_nt (a_wy_ s v) = a_nt s := rfl
theorem a_nt_nt (s : AK) (v : Nat) : a_nt (a_nt_ s v) = v := rfl
theorem a_nt_no (s : AK) (v : List Nat) : a_nt (a_no_ s v) = a_nt s := rfl
theorem a_no_so (s : AK) (v : Nat) : a_no (a_so_ s v) = a_no s := rfl
theorem a_no_lo (s : AK) (v : Int32) : a_no (a_lo_ s v) = a_no s := rfl
theorem a_no_hi (s : AK) (v : Int32) : a_no (a_hi_ s v) = a_no s := rfl
theorem a_no_va (s : AK) (v : Int64) : a_no (a_va_ s v) = a_no s := rfl
theorem a_no_th (s : AK) (v : Bool) : a_no (a_th_ s v) = a_no s := rfl
theorem a_no_dn (s : AK) (v : Bool) : a_no (a_dn_ s v) = a_no s := rfl
theorem a_no_lt (s : AK) (v : Bool) : a_no (a_lt_ s v) = a_no s := rfl
theorem a_no_an (s : AK) (v : Int32) : a_no (a_an_ s v) = a_no s := rfl
theorem a_no_ps (s : AK) (v : Nat) : a_no (a_ps_ s v) = a_no s := rfl
theorem a_no_wy (s : AK) (v : List Nat) : a_no (a_wy_ s v) = a_no s := rfl
theorem a_no_nt (s : AK) (v : Nat) : a_no (a_nt_ s v) = a_no s := rfl
theorem a_no_no (s : AK) (v : List Nat) : a_no (a_no_ s v) = v := rfl
theorem c_n_n (s : ST) (v : Nat) : c_n (c_n_ s v) = v := rfl
theorem c_n_nm (s : ST) (v : Nat → Int32) : c_n (c_nm_ s v) = c_n s := rfl
theorem c_n_bt (s : ST) (v : Nat → Int32) : c_n (c_bt_ s v) = c_n s := rfl
theorem c_n_be (s : ST) (v : Nat → Nat) : c_n (c_be_ s v) = c_n s := rfl
theorem c_n_ld (s : ST) (v : Nat → Int32) : c_n (c_ld_ s v) = c_n s := rfl
theorem c_n_hs (s : ST) (v : Nat → Nat → Bool) : c_n (c_hs_ s v) = c_n s := rfl
theorem c_n_kl (s : ST) (v : Nat → Nat → Nat → Option Nat) : c_n (c_kl_ s v) = c_n s := rfl
theorem c_n_ol (s : ST) (v : Nat → Nat → Option Nat) : c_n (c_ol_ s v) = c_n s := rfl
theorem c_n_pr (s : ST) (v : Nat → PRS) : c_n (c_pr_ s v) = c_n s := rfl
theorem c_n_dr (s : ST) (v : Int32) : c_n (c_dr_ s v) = c_n s := rfl
theorem c_n_ev (s : ST) (v : List Int32) : c_n (c_ev_ s v) = c_n s := rfl
theorem c_n_na (s : ST) (v : Nat) : c_n (c_na_ s v) = c_n s := rfl
theorem c_n_ak (s : ST) (v : Nat → AK) : c_n (c_ak_ s v) = c_n s := rfl
theorem c_n_ms (s : ST) (v : List MSG) : c_n (c_ms_ s v) = c_n s := rfl
theorem c_n_ck (s : ST) (v : Nat) : c_n (c_ck_ s v) = c_n s := rfl
theorem c_n_cp (s : ST) (v : Nat) : c_n (c_cp_ s v) = c_n s := rfl
theorem c_n_cu (s : ST) (v : Bool) : c_n (c_cu_ s v) = c_n s := rfl
theorem c_n_cb (s : ST) (v : Int32) : c_n (c_cb_ s v) = c_n s := rfl
theorem c_n_bg (s : ST) (v : PRS) : c_n (c_bg_ s v) = c_n s := rfl
theorem c_nm_n (s : ST) (v : Nat) : c_nm (c_n_ s v) = c_nm s := rfl
theorem c_nm_nm (s : ST) (v : Nat → Int32) : c_nm (c_nm_ s v) = v := rfl
theorem c_nm_bt (s : ST) (v : Nat → Int32) : c_nm (c_bt_ s v) = c_nm s := rfl
theorem c_nm_be (s : ST) (v : Nat → Nat) : c_nm (c_be_ s v) = c_nm s := rfl
theorem c_nm_ld (s : ST) (v : Nat → Int32) : c_nm (c_ld_ s v) = c_nm s := rfl
theorem c_nm_hs (s : ST) (v : Nat → Nat → Bool) : c_nm (c_hs_ s v) = c_nm s := rfl
theorem c_nm_kl (s : ST) (v : Nat → Nat → Nat → Option Nat) : c_nm (c_kl_ s v) = c_nm s := rfl
theorem c_nm_ol (s : ST) (v : Nat → Nat → Option Nat) : c_nm (c_ol_ s v) = c_nm s := rfl
theorem c_nm_pr (s : ST) (v : Nat → PRS) : c_nm (c_pr_ s v) = c_nm s := rfl
theorem c_nm_dr (s : ST) (v : Int32) : c_nm (c_dr_ s v) = c_nm s := rfl
theorem c_nm_ev (s : ST) (v : List Int32) : c_nm (c_ev_ s v) = c_nm s := rfl
theorem c_nm_na (s : ST) (v : Nat) : c_nm (c_na_ s v) = c_nm s := rfl
theorem c_nm_ak (s : ST) (v : Nat → AK) : c_nm (c_ak_ s v) = c_nm s := rfl
theorem c_nm_ms (s : ST) (v : List MSG) : c_nm (c_ms_ s v) = c_nm s := rfl
theorem c_nm_ck (s : ST) (v : Nat) : c_nm (c_ck_ s v) = c_nm s := rfl
theorem c_nm_cp (s : ST) (v : Nat) : c_nm (c_cp_ s v) = c_nm s := rfl
theorem c_nm_cu (s : ST) (v : Bool) : c_nm (c_cu_ s v) = c_nm s := rfl
theorem c_nm_cb (s : ST) (v : Int32) : c_nm (c_cb_ s v) = c_nm s := rfl
theorem c_nm_bg (s : ST) (v : PRS) : c_nm (c_bg_ s v) = c_nm s := rfl
theorem c_bt_n (s : ST) (v : Nat) : c_bt (c_n_ s v) = c_bt s := rfl
theorem c_bt_nm (s : ST) (v : Nat → Int32) : c_bt (c_nm_ s v) = c_bt s := rfl
theorem c_bt_bt (s : ST) (v : Nat → Int32) : c_bt (c_bt_ s v) = v := rfl
theorem c_bt_be (s : ST) (v : Nat → Nat) : c_bt (c_be_ s v) = c_bt s := rfl
theorem c_bt_ld (s : ST) (v : Nat → Int32) : c_bt (c_ld_ s v) = c_bt s := rfl
theorem c_bt_hs (s : ST) (v : Nat → Nat → Bool) : c_bt (c_hs_ s v) = c_bt s := rfl
theorem c_bt_kl (s : ST) (v : Nat → Nat → Nat → Option Nat) : c_bt (c_kl_ s v) = c_bt s := rfl
theorem c_bt_ol (s : ST) (v : Nat → Nat → Option Nat) : c_bt (c_ol_ s v) = c_bt s := rfl
theorem c_bt_pr (s : ST) (v : Nat → PRS) : c_bt (c_pr_ s v) = c_bt s := rfl
theorem c_bt_dr (s : ST) (v : Int32) : c_bt (c_dr_ s v) = c_bt s := rfl
theorem c_bt_ev (s : ST) (v : List Int32) : c_bt (c_ev_ s v) = c_bt s := rfl
theorem c_bt_na (s : ST) (v : Nat) : c_bt (c_na_ s v) = c_bt s := rfl
theorem c_bt_ak (s : ST) (v : Nat → AK) : c_bt (c_ak_ s v) = c_bt s := rfl
theorem c_bt_ms (s : ST) (v : List MSG) : c_bt (c_ms_ s v) = c_bt s := rfl
theorem c_bt_ck (s : ST) (v : Nat) : c_bt (c_ck_ s v) = c_bt s := rfl
theorem c_bt_cp (s : ST) (v : Nat) : c_bt (c_cp_ s v) = c_bt s := rfl
theorem c_bt_cu (s : ST) (v : Bool) : c_bt (c_cu_ s v) = c_bt s := rfl
theorem c_bt_cb (s : ST) (v : Int32) : c_bt (c_cb_ s v) = c_bt s := rfl
theorem c_bt_bg (s : ST) (v : PRS) : c_bt (c_bg_ s v) = c_bt s := rfl
theorem c_be_n (s : ST) (v : Nat) : c_be (c_n_ s v) = c_be s := rfl
theorem c_be_nm (s : ST) (v : Nat → Int32) : c_be (c_nm_ s v) = c_be s := rfl
theorem c_be_bt (s : ST) (v : Nat → Int32) : c_be (c_bt_ s v) = c_be s := rfl
theorem c_be_be (s : ST) (v : Nat → Nat) : c_be (c_be_ s v) = v := rfl
theorem c_be_ld (s : ST) (v : Nat → Int32) : c_be (c_ld_ s v) = c_be s := rfl
theorem c_be_hs (s : ST) (v : Nat → Nat → Bool) : c_be (c_hs_ s v) = c_be s := rfl
theorem c_be_kl (s : ST) (v : Nat → Nat → Nat → Option Nat) : c_be (c_kl_ s v) = c_be s := rfl
theorem c_be_ol (s : ST) (v : Nat → Nat → Option Nat) : c_be (c_ol_ s v) = c_be s := rfl
theorem c_be_pr (s : ST) (v : Nat → PRS) : c_be (c_pr_ s v) = c_be s := rfl
theorem c_be_dr (s : ST) (v : Int32) : c_be (c_dr_ s v) = c_be s := rfl
theorem c_be_ev (s : ST) (v : List Int32) : c_be (c_ev_ s v) = c_be s := rfl
theorem c_be_na (s : ST) (v : Nat) : c_be (c_na_ s v) = c_be s := rfl
theorem c_be_ak (s : ST) (v : Nat → AK) : c_be (c_ak_ s v) = c_be s := rfl
theorem c_be_ms (s : ST) (v : List MSG) : c_be (c_ms_ s v) = c_be s := rfl
theorem c_be_ck (s : ST) (v : Nat) : c_be (c_ck_ s v) = c_be s := rfl
theorem c_be_cp (s : ST) (v : Nat) : c_be (c_cp_ s v) = c_be s := rfl
theorem c_be_cu (s : ST) (v : Bool) : c_be (c_cu_ s v) = c_be s := rfl
theorem c_be_cb (s : ST) (v : Int32) : c_be (c_cb_ s v) = c_be s := rfl
theorem c_be_bg (s : ST) (v : PRS) : c_be (c_bg_ s v) = c_be s := rfl
theorem c_ld_n (s : ST) (v : Nat) : c_ld (c_n_ s v) = c_ld s := rfl
theorem c_ld_nm (s : ST) (v : Nat → Int32) : c_ld (c_nm_ s v) = c_ld s := rfl
theorem c_ld_bt (s : ST) (v : Nat → Int32) : c_ld (c_bt_ s v) = c_ld s := rfl
theorem c_ld_be (s : ST) (v : Nat → Nat) : c_ld (c_be_ s v) = c_ld s := rfl
theorem c_ld_ld (s : ST) (v : Nat → Int32) : c_ld (c_ld_ s v) = v := rfl
theorem c_ld_hs (s : ST) (v : Nat → Nat → Bool) : c_ld (c_hs_ s v) = c_ld s := rfl
theorem c_ld_kl (s : ST) (v : Nat → Nat → Nat → Option Nat) : c_ld (c_kl_ s v) = c_ld s := rfl
theorem c_ld_ol (s : ST) (v : Nat → Nat → Option Nat) : c_ld (c_ol_ s v) = c_ld s := rfl
theorem c_ld_pr (s : ST) (v : Nat → PRS) : c_ld (c_pr_ s v) = c_ld s := rfl
theorem c_ld_dr (s : ST) (v : Int32) : c_ld (c_dr_ s v) = c_ld s := rfl
theorem c_ld_ev (s : ST) (v : List Int32) : c_ld (c_ev_ s v) = c_ld s := rfl
theorem c_ld_na (s : ST) (v : Nat) : c_ld (c_na_ s v) = c_ld s := rfl
theorem c_ld_ak (s : ST) (v : Nat → AK) : c_ld (c_ak_ s v) = c_ld s := rfl
theorem c_ld_ms (s : ST) (v : List MSG) : c_ld (c_ms_ s v) = c_ld s := rfl
theorem c_ld_ck (s : ST) (v : Nat) : c_ld (c_ck_ s v) = c_ld s := rfl
theorem c_ld_cp (s : ST) (v : Nat) : c_ld (c_cp_ s v) = c_ld s := rfl
theorem c_ld_cu (s : ST) (v : Bool) : c_ld (c_cu_ s v) = c_ld s := rfl
theorem c_ld_cb (s : ST) (v : Int32) : c_ld (c_cb_ s v) = c_ld s := rfl
theorem c_ld_bg (s : ST) (v : PRS) : c_ld (c_bg_ s v) = c_ld s := rfl
theorem c_hs_n (s : ST) (v : Nat) : c_hs (c_n_ s v) = c_hs s := rfl
theorem c_hs_nm (s : ST) (v : Nat → Int32) : c_hs (c_nm_ s v) = c_hs s := rfl
theorem c_hs_bt (s : ST) (v : Nat → Int32) : c_hs (c_bt_ s v) = c_hs s := rfl
theorem c_hs_be (s : ST) (v : Nat → Nat) : c_hs (c_be_ s v) = c_hs s := rfl
theorem c_hs_ld (s : ST) (v : Nat → Int32) : c_hs (c_ld_ s v) = c_hs s := rfl
theorem c_hs_hs (s : ST) (v : Nat → Nat → Bool) : c_hs (c_hs_ s v) = v := rfl
theorem c_hs_kl (s : ST) (v : Nat → Nat → Nat → Option Nat) : c_hs (c_kl_ s v) = c_hs s := rfl
theorem c_hs_ol (s : ST) (v : Nat → Nat → Option Nat) : c_hs (c_ol_ s v) = c_hs s := rfl
theorem c_hs_pr (s : ST) (v : Nat → PRS) : c_hs (c_pr_ s v) = c_hs s := rfl
theorem c_hs_dr (s : ST) (v : Int32) : c_hs (c_dr_ s v) = c_hs s := rfl
theorem c_hs_ev (s : ST) (v : List Int32) : c_hs (c_ev_ s v) = c_hs s := rfl
theorem c_hs_na (s : ST) (v : Nat) : c_hs (c_na_ s v) = c_hs s := rfl
theorem c_hs_ak (s : ST) (v : Nat → AK) : c_hs (c_ak_ s v) = c_hs s := rfl
theorem c_hs_ms (s : ST) (v : List MSG) : c_hs (c_ms_ s v) = c_hs s := rfl
theorem c_hs_ck (s : ST) (v : Nat) : c_hs (c_ck_ s v) = c_hs s := rfl
theorem c_hs_cp (s : ST) (v : Nat) : c_hs (c_cp_ s v) = c_hs s := rfl
theorem c_hs_cu (s : ST) (v : Bool) : c_hs (c_cu_ s v) = c_hs s := rfl
theorem c_hs_cb (s : ST) (v : Int32) : c_hs (c_cb_ s v) = c_hs s := rfl
theorem c_hs_bg (s : ST) (v : PRS) : c_hs (c_bg_ s v) = c_hs s := rfl
theorem c_kl_n (s : ST) (v : Nat) : c_kl (c_n_ s v) = c_kl s := rfl
theorem c_kl_nm (s : ST) (v : Nat → Int32) : c_kl (c_nm_ s v) = c_kl s := rfl
theorem c_kl_bt (s : ST) (v : Nat → Int32) : c_kl (c_bt_ s v) = c_kl s := rfl
theorem c_kl_be (s : ST) (v : Nat → Nat) : c_kl (c_be_ s v) = c_kl s := rfl
theorem c_kl_ld (s : ST) (v : Nat → Int32) : c_kl (c_ld_ s v) = c_kl s := rfl
theorem c_kl_hs (s : ST) (v : Nat → Nat → Bool) : c_kl (c_hs_ s v) = c_kl s := rfl
theorem c_kl_kl (s : ST) (v : Nat → Nat → Nat → Option Nat) : c_kl (c_kl_ s v) = v := rfl
theorem c_kl_ol (s : ST) (v : Nat → Nat → Option Nat) : c_kl (c_ol_ s v) = c_kl s := rfl
theorem c_kl_pr (s : ST) (v : Nat → PRS) : c_kl (c_pr_ s v) = c_kl s := rfl
theorem c_kl_dr (s : ST) (v : Int32) : c_kl (c_dr_ s v) = c_kl s := rfl
theorem c_kl_ev (s : ST) (v : List Int32) : c_kl (c_ev_ s v) = c_kl s := rfl
theorem c_kl_na (s : ST) (v : Nat) : c_kl (c_na_ s v) = c_kl s := rfl
theorem c_kl_ak (s : ST) (v : Nat → AK) : c_kl (c_ak_ s v) = c_kl s := rfl
theorem c_kl_ms (s : ST) (v : List MSG) : c_kl (c_ms_ s v) = c_kl s := rfl
theorem c_kl_ck (s : ST) (v : Nat) : c_kl (c_ck_ s v) = c_kl s := rfl
theorem c_kl_cp (s : ST) (v : Nat) : c_kl (c_cp_ s v) = c_kl s := rfl
theorem c_kl_cu (s : ST) (v : Bool) : c_kl (c_cu_ s v) = c_kl s := rfl
theorem c_kl_cb (s : ST) (v : Int32) : c_kl (c_cb_ s v) = c_kl s := rfl
theorem c_kl_bg (s : ST) (v : PRS) : c_kl (c_bg_ s v) = c_kl s := rfl
theorem c_ol_n (s : ST) (v : Nat) : c_ol (c_n_ s v) = c_ol s := rfl
theorem c_ol_nm (s : ST) (v : Nat → Int32) : c_ol (c_nm_ s v) = c_ol s := rfl
theorem c_ol_bt (s : ST) (v : Nat → Int32) : c_ol (c_bt_ s v) = c_ol s := rfl
theorem c_ol_be (s : ST) (v : Nat → Nat) : c_ol (c_be_ s v) = c_ol s := rfl
theorem c_ol_ld (s : ST) (v : Nat → Int32) : c_ol (c_ld_ s v) = c_ol s := rfl
theorem c_ol_hs (s : ST) (v : Nat → Nat → Bool) : c_ol (c_hs_ s v) = c_ol s := rfl
theorem c_ol_kl (s : ST) (v : Nat → Nat → Nat → Option Nat) : c_ol (c_kl_ s v) = c_ol s := rfl
theorem c_ol_ol (s : ST) (v : Nat → Nat → Option Nat) : c_ol (c_ol_ s v) = v := rfl
theorem c_ol_pr (s : ST) (v : Nat → PRS) : c_ol (c_pr_ s v) = c_ol s := rfl
theorem c_ol_dr (s : ST) (v : Int32) : c_ol (c_dr_ s v) = c_ol s := rfl
theorem c_ol_ev (s : ST) (v : List Int32) : c_ol (c_ev_ s v) = c_ol s := rfl
theorem c_ol_na (s : ST) (v : Nat) : c_ol (c_na_ s v) = c_ol s := rfl
theorem c_ol_ak (s : ST) (v : Nat → AK) : c_ol (c_ak_ s v) = c_ol s := rfl
theorem c_ol_ms (s : ST) (v : List MSG) : c_ol (c_ms_ s v) = c_ol s := rfl
theorem c_ol_ck (s : ST) (v : Nat) : c_ol (c_ck_ s v) = c_ol s := rfl
theorem c_ol_cp (s : ST) (v : Nat) : c_ol (c_cp_ s v) = c_ol s := rfl
theorem c_ol_cu (s : ST) (v : Bool) : c_ol (c_cu_ s v) = c_ol s := rfl
theorem c_ol_cb (s : ST) (v : Int32) : c_ol (c_cb_ s v) = c_ol s := rfl
theorem c_ol_bg (s : ST) (v : PRS) : c_ol (c_bg_ s v) = c_ol s := rfl
theorem c_pr_n (s : ST) (v : Nat) : c_pr (c_n_ s v) = c_pr s := rfl
theorem c_pr_nm (s : ST) (v : Nat → Int32) : c_pr (c_nm_ s v) = c_pr s := rfl
theorem c_pr_bt (s : ST) (v : Nat → Int32) : c_pr (c_bt_ s v) = c_pr s := rfl
theorem c_pr_be (s : ST) (v : Nat → Nat) : c_pr (c_be_ s v) = c_pr s := rfl
theorem c_pr_ld (s : ST) (v : Nat → Int32) : c_pr (c_ld_ s v) = c_pr s := rfl
theorem c_pr_hs (s : ST) (v : Nat → Nat → Bool) : c_pr (c_hs_ s v) = c_pr s := rfl
theorem c_pr_kl (s : ST) (v : Nat → Nat → Nat → Option Nat) : c_pr (c_kl_ s v) = c_pr s := rfl
theorem c_pr_ol (s : ST) (v : Nat → Nat → Option Nat) : c_pr (c_ol_ s v) = c_pr s := rfl
theorem c_pr_pr (s : ST) (v : Nat → PRS) : c_pr (c_pr_ s v) = v := rfl
theorem c_pr_dr (s : ST) (v : Int32) : c_pr (c_dr_ s v) = c_pr s := rfl
theorem c_pr_ev (s : ST) (v : List Int32) : c_pr (c_ev_ s v) = c_pr s := rfl
theorem c_pr_na (s : ST) (v : Nat) : c_pr (c_na_ s v) = c_pr s := rfl
theorem c_pr_ak (s : ST) (v : Nat → AK) : c_pr (c_ak_ s v) = c_pr s := rfl
theorem c_pr_ms (s : ST) (v : List MSG) : c_pr (c_ms_ s v) = c_pr s := rfl
theorem c_pr_ck (s : ST) (v : Nat) : c_pr (c_ck_ s v) = c_pr s := rfl
theorem c_pr_cp (s : ST) (v : Nat) : c_pr (c_cp_ s v) = c_pr s := rfl
theorem c_pr_cu (s : ST) (v : Bool) : c_pr (c_cu_ s v) = c_pr s := rfl
theorem c_pr_cb (s : ST) (v : Int32) : c_pr (c_cb_ s v) = c_pr s := rfl
theorem c_pr_bg (s : ST) (v : PRS) : c_pr (c_bg_ s v) = c_pr s := rfl
theorem c_dr_n (s : ST) (v : Nat) : c_dr (c_n_ s v) = c_dr s := rfl
theorem c_dr_nm (s : ST) (v : Nat → Int32) : c_dr (c_nm_ s v) = c_dr s := rfl
theorem c_dr_bt (s : ST) (v : Nat → Int32) : c_dr (c_bt_ s v) = c_dr s := rfl
theorem c_dr_be (s : ST) (v : Nat → Nat) : c_dr (c_be_ s v) = c_dr s := rfl
theorem c_dr_ld (s : ST) (v : Nat → Int32) : c_dr (c_ld_ s v) = c_dr s := rfl
theorem c_dr_hs (s : ST) (v : Nat → Nat → Bool) : c_dr (c_hs_ s v) = c_dr s := rfl
theorem c_dr_kl (s : ST) (v : Nat → Nat → Nat → Option Nat) : c_dr (c_kl_ s v) = c_dr s := rfl
theorem c_dr_ol (s : ST) (v : Nat → Nat → Option Nat) : c_dr (c_ol_ s v) = c_dr s := rfl
theorem c_dr_pr (s : ST) (v : Nat → PRS) : c_dr (c_pr_ s v) = c_dr s := rfl
theorem c_dr_dr (s : ST) (v : Int32) : c_dr (c_dr_ s v) = v := rfl
theorem c_dr_ev (s : ST) (v : List Int32) : c_dr (c_ev_ s v) = c_dr s := rfl
theorem c_dr_na (s : ST) (v : Nat) : c_dr (c_na_ s v) = c_dr s := rfl
theorem c_dr_ak (s : ST) (v : Nat → AK) : c_dr (c_ak_ s v) = c_dr s := rfl
theorem c_dr_ms (s : ST) (v : List MSG) : c_dr (c_ms_ s v) = c_dr s := rfl
theorem c_dr_ck (s : ST) (v : Nat) : c_dr (c_ck_ s v) = c_dr s := rfl
theorem c_dr_cp (s : ST) (v : Nat) : c_dr (c_cp_ s v) = c_dr s := rfl
theorem c_dr_cu (s : ST) (v : Bool) : c_dr (c_cu_ s v) = c_dr s := rfl
theorem c_dr_cb (s : ST) (v : Int32) : c_dr (c_cb_ s v) = c_dr s := rfl
theorem c_dr_bg (s : ST) (v : PRS) : c_dr (c_bg_ s v) = c_dr s := rfl
theorem c_ev_n (s : ST) (v : Nat) : c_ev (c_n_ s v) = c_ev s := rfl
theorem c_ev_nm (s : ST) (v : Nat → Int32) : c_ev (c_nm_ s v) = c_ev s := rfl
theorem c_ev_bt (s : ST) (v : Nat → Int32) : c_ev (c_bt_ s v) = c_ev s := rfl
theorem c_ev_be (s : ST) (v : Nat → Nat) : c_ev (c_be_ s v) = c_ev s := rfl
theorem c_ev_ld (s : ST) (v : Nat → Int32) : c_ev (c_ld_ s v) = c_ev s := rfl
theorem c_ev_hs (s : ST) (v : Nat → Nat → Bool) : c_ev (c_hs_ s v) = c_ev s := rfl
theorem c_ev_kl (s : ST) (v : Nat → Nat → Nat → Option Nat) : c_ev (c_kl_ s v) = c_ev s := rfl
theorem c_ev_ol (s : ST) (v : Nat → Nat → Option Nat) : c_ev (c_ol_ s v) = c_ev s := rfl
theorem c_ev_pr (s : ST) (v : Nat → PRS) : c_ev (c_pr_ s v) = c_ev s := rfl
theorem c_ev_dr (s : ST) (v : Int32) : c_ev (c_dr_ s v) = c_ev s := rfl
theorem c_ev_ev (s : ST) (v : List Int32) : c_ev (c_ev_ s v) = v := rfl
theorem c_ev_na (s : ST) (v : Nat) : c_ev (c_na_ s v) = c_ev s := rfl
theorem c_ev_ak (s : ST) (v : Nat → AK) : c_ev (c_ak_ s v) = c_ev s := rfl
theorem c_ev_ms (s : ST) (v : List MSG) : c_ev (c_ms_ s v) = c_ev s := rfl
theorem c_ev_ck (s : ST) (v : Nat) : c_ev (c_ck_ s v) = c_ev s := rfl
theorem c_ev_cp (s : ST) (v : Nat) : c_ev (c_cp_ s v) = c_ev s := rfl
theorem c_ev_cu (s : ST) (v : Bool) : c_ev (c_cu_ s v) = c_ev s := rfl
theorem c_ev_cb (s : ST) (v : Int32) : c_ev (c_cb_ s v) = c_ev s := rfl
theorem c_ev_bg (s : ST) (v : PRS) : c_ev (c_bg_ s v) = c_ev s := rfl
theorem c_na_n (s : ST) (v : Nat) : c_na (c_n_ s v) = c_na s := rfl
theorem c_na_nm (s : ST) (v : Nat → Int32) : c_na (c_nm_ s v) = c_na s := rfl
theorem c_na_bt (s : ST) (v : Nat → Int32) : c_na (c_bt_ s v) = c_na s := rfl
theorem c_na_be (s : ST) (v : Nat → Nat) : c_na (c_be_ s v) = c_na s := rfl
theorem c_na_ld (s : ST) (v : Nat → Int32) : c_na (c_ld_ s v) = c_na s := rfl
theorem c_na_hs (s : ST) (v : Nat → Nat → Bool) : c_na (c_hs_ s v) = c_na s := rfl
theorem c_na_kl (s : ST) (v : Nat → Nat → Nat → Option Nat) : c_na (c_kl_ s v) = c_na s := rfl
theorem c_na_ol (s : ST) (v : Nat → Nat → Option Nat) : c_na (c_ol_ s v) = c_na s := rfl
theorem c_na_pr (s : ST) (v : Nat → PRS) : c_na (c_pr_ s v) = c_na s := rfl
theorem c_na_dr (s : ST) (v : Int32) : c_na (c_dr_ s v) = c_na s := rfl
theorem c_na_ev (s : ST) (v : List Int32) : c_na (c_ev_ s v) = c_na s := rfl
theorem c_na_na (s : ST) (v : Nat) : c_na (c_na_ s v) = v := rfl
theorem c_na_ak (s : ST) (v : Nat → AK) : c_na (c_ak_ s v) = c_na s := rfl
theorem c_na_ms (s : ST) (v : List MSG) : c_na (c_ms_ s v) = c_na s := rfl
theorem c_na_ck (s : ST) (v : Nat) : c_na (c_ck_ s v) = c_na s := rfl
theorem c_na_cp (s : ST) (v : Nat) : c_na (c_cp_ s v) = c_na s := rfl
theorem c_na_cu (s : ST) (v : Bool) : c_na (c_cu_ s v) = c_na s := rfl
theorem c_na_cb (s : ST) (v : Int32) : c_na (c_cb_ s v) = c_na s := rfl
theorem c_na_bg (s : ST) (v : PRS) : c_na (c_bg_ s v) = c_na s := rfl
theorem c_ak_n (s : ST) (v : Nat) : c_ak (c_n_ s v) = c_ak s := rfl
theorem c_ak_nm (s : ST) (v : Nat → Int32) : c_ak (c_nm_ s v) = c_ak s := rfl
theorem c_ak_bt (s : ST) (v : Nat → Int32) : c_ak (c_bt_ s v) = c_ak s := rfl
theorem c_ak_be (s : ST) (v : Nat → Nat) : c_ak (c_be_ s v) = c_ak s := rfl
theorem c_ak_ld (s : ST) (v : Nat → Int32) : c_ak (c_ld_ s v) = c_ak s := rfl
theorem c_ak_hs (s : ST) (v : Nat → Nat → Bool) : c_ak (c_hs_ s v) = c_ak s := rfl
theorem c_ak_kl (s : ST) (v : Nat → Nat → Nat → Option Nat) : c_ak (c_kl_ s v) = c_ak s := rfl
theorem c_ak_ol (s : ST) (v : Nat → Nat → Option Nat) : c_ak (c_ol_ s v) = c_ak s := rfl
theorem c_ak_pr (s : ST) (v : Nat → PRS) : c_ak (c_pr_ s v) = c_ak s := rfl
theorem c_ak_dr (s : ST) (v : Int32) : c_ak (c_dr_ s v) = c_ak s := rfl
theorem c_ak_ev (s : ST) (v : List Int32) : c_ak (c_ev_ s v) = c_ak s := rfl
theorem c_ak_na (s : ST) (v : Nat) : c_ak (c_na_ s v) = c_ak s := rfl
theorem c_ak_ak (s : ST) (v : Nat → AK) : c_ak (c_ak_ s v) = v := rfl
theorem c_ak_ms (s : ST) (v : List MSG) : c_ak (c_ms_ s v) = c_ak s := rfl
theorem c_ak_ck (s : ST) (v : Nat) : c_ak (c_ck_ s v) = c_ak s := rfl
theorem c_ak_cp (s : ST) (v : Nat) : c_ak (c_cp_ s v) = c_ak s := rfl
theorem c_ak_cu (s : ST) (v : Bool) : c_ak (c_cu_ s v) = c_ak s := rfl
theorem c_ak_cb (s : ST) (v : Int32) : c_ak (c_cb_ s v) = c_ak s := rfl
theorem c_ak_bg (s : ST) (v : PRS) : c_ak (c_bg_ s v) = c_ak s := rfl
theorem c_ms_n (s : ST) (v : Nat) : c_ms (c_n_ s v) = c_ms s := rfl
theorem c_ms_nm (s : ST) (v : Nat → Int32) : c_ms (c_nm_ s v) = c_ms s := rfl
theorem c_ms_bt (s : ST) (v : Nat → Int32) : c_ms (c_bt_ s v) = c_ms s := rfl
theorem c_ms_be (s : ST) (v : Nat → Nat) : c_ms (c_be_ s v) = c_ms s := rfl
theorem c_ms_ld (s : ST) (v : Nat → Int32) : c_ms (c_ld_ s v) = c_ms s := rfl
theorem c_ms_hs (s : ST) (v : Nat → Nat → Bool) : c_ms (c_hs_ s v) = c_ms s := rfl
theorem c_ms_kl (s : ST) (v : Nat → Nat → Nat → Option Nat) : c_ms (c_kl_ s v) = c_ms s := rfl
theorem c_ms_ol (s : ST) (v : Nat → Nat → Option Nat) : c_ms (c_ol_ s v) = c_ms s := rfl
theorem c_ms_pr (s : ST) (v : Nat → PRS) : c_ms (c_pr_ s v) = c_ms s := rfl
theorem c_ms_dr (s : ST) (v : Int32) : c_ms (c_dr_ s v) = c_ms s := rfl
theorem c_ms_ev (s : ST) (v : List Int32) : c_ms (c_ev_ s v) = c_ms s := rfl
theorem c_ms_na (s : ST) (v : Nat) : c_ms (c_na_ s v) = c_ms s := rfl
theorem c_ms_ak (s : ST) (v : Nat → AK) : c_ms (c_ak_ s v) = c_ms s := rfl
theorem c_ms_ms (s : ST) (v : List MSG) : c_ms (c_ms_ s v) = v := rfl
theorem c_ms_ck (s : ST) (v : Nat) : c_ms (c_ck_ s v) = c_ms s := rfl
theorem c_ms_cp (s : ST) (v : Nat) : c_ms (c_cp_ s v) = c_ms s := rfl
theorem c_ms_cu (s : ST) (v : Bool) : c_ms (c_cu_ s v) = c_ms s := rfl
theorem c_ms_cb (s : ST) (v : Int32) : c_ms (c_cb_ s v) = c_ms s := rfl
theorem c_ms_bg (s : ST) (v : PRS) : c_ms (c_bg_ s v) = c_ms s := rfl
theorem c_ck_n (s : ST) (v : Nat) : c_ck (c_n_ s v) = c_ck s := rfl
theorem c_ck_nm (s : ST) (v : Nat → Int32) : c_ck (c_nm_ s v) = c_ck s := rfl
theorem c_ck_bt (s : ST) (v : Nat → Int32) : c_ck (c_bt_ s v) = c_ck s := rfl
theorem c_ck_be (s : ST) (v : Nat → Nat) : c_ck (c_be_ s v) = c_ck s := rfl
theorem c_ck_ld (s : ST) (v : Nat → Int32) : c_ck (c_ld_ s v) = c_ck s := rfl
theorem c_ck_hs (s : ST) (v : Nat → Nat → Bool) : c_ck (c_hs_ s v) = c_ck s := rfl
theorem c_ck_kl (s : ST) (v : Nat → Nat → Nat → Option Nat) : c_ck (c_kl_ s v) = c_ck s := rfl
theorem c_ck_ol (s : ST) (v : Nat → Nat → Option Nat) : c_ck (c_ol_ s v) = c_ck s := rfl
theorem c_ck_pr (s : ST) (v : Nat → PRS) : c_ck (c_pr_ s v) = c_ck s := rfl
theorem c_ck_dr (s : ST) (v : Int32) : c_ck (c_dr_ s v) = c_ck s := rfl
theorem c_ck_ev (s : ST) (v : List Int32) : c_ck (c_ev_ s v) = c_ck s := rfl
theorem c_ck_na (s : ST) (v : Nat) : c_ck (c_na_ s v) = c_ck s := rfl
theorem c_ck_ak (s : ST) (v : Nat → AK) : c_ck (c_ak_ s v) = c_ck s := rfl
theorem c_ck_ms (s : ST) (v : List MSG) : c_ck (c_ms_ s v) = c_ck s := rfl
theorem c_ck_ck (s : ST) (v : Nat) : c_ck (c_ck_ s v) = v := rfl
theorem c_ck_cp (s : ST) (v : Nat) : c_ck (c_cp_ s v) = c_ck s := rfl
theorem c_ck_cu (s : ST) (v : Bool) : c_ck (c_cu_ s v) = c_ck s := rfl
theorem c_ck_cb (s : ST) (v : Int32) : c_ck (c_cb_ s v) = c_ck s := rfl
theorem c_ck_bg (s : ST) (v : PRS) : c_ck (c_bg_ s v) = c_ck s := rfl
theorem c_cp_n (s : ST) (v : Nat) : c_cp (c_n_ s v) = c_cp s := rfl
theorem c_cp_nm (s : ST) (v : Nat → Int32) : c_cp (c_nm_ s v) = c_cp s := rfl
theorem c_cp_bt (s : ST) (v : Nat → Int32) : c_cp (c_bt_ s v) = c_cp s := rfl
theorem c_cp_be (s : ST) (v : Nat → Nat) : c_cp (c_be_ s v) = c_cp s := rfl
theorem c_cp_ld (s : ST) (v : Nat → Int32) : c_cp (c_ld_ s v) = c_cp s := rfl
theorem c_cp_hs (s : ST) (v : Nat → Nat → Bool) : c_cp (c_hs_ s v) = c_cp s := rfl
theorem c_cp_kl (s : ST) (v : Nat → Nat → Nat → Option Nat) : c_cp (c_kl_ s v) = c_cp s := rfl
theorem c_cp_ol (s : ST) (v : Nat → Nat → Option Nat) : c_cp (c_ol_ s v) = c_cp s := rfl
theorem c_cp_pr (s : ST) (v : Nat → PRS) : c_cp (c_pr_ s v) = c_cp s := rfl
theorem c_cp_dr (s : ST) (v : Int32) : c_cp (c_dr_ s v) = c_cp s := rfl
theorem c_cp_ev (s : ST) (v : List Int32) : c_cp (c_ev_ s v) = c_cp s := rfl
theorem c_cp_na (s : ST) (v : Nat) : c_cp (c_na_ s v) = c_cp s := rfl
theorem c_cp_ak (s : ST) (v : Nat → AK) : c_cp (c_ak_ s v) = c_cp s := rfl
theorem c_cp_ms (s : ST) (v : List MSG) : c_cp (c_ms_ s v) = c_cp s := rfl
theorem c_cp_ck (s : ST) (v : Nat) : c_cp (c_ck_ s v) = c_cp s := rfl
theorem c_cp_cp (s : ST) (v : Nat) : c_cp (c_cp_ s v) = v := rfl
theorem c_cp_cu (s : ST) (v : Bool) : c_cp (c_cu_ s v) = c_cp s := rfl
theorem c_cp_cb (s : ST) (v : Int32) : c_cp (c_cb_ s v) = c_cp s := rfl
theorem c_cp_bg (s : ST) (v : PRS) : c_cp (c_bg_ s v) = c_cp s := rfl
theorem c_cu_n (s : ST) (v : Nat) : c_cu (c_n_ s v) = c_cu s := rfl
theorem c_cu_nm (s : ST) (v : Nat → Int32) : c_cu (c_nm_ s v) = c_cu s := rfl
theorem c_cu_bt (s : ST) (v : Nat → Int32) : c_cu (c_bt_ s v) = c_cu s := rfl
theorem c_cu_be (s : ST) (v : Nat → Nat) : c_cu (c_be_ s v) = c_cu s := rfl
theorem c_cu_ld (s : ST) (v : Nat → Int32) : c_cu (c_ld_ s v) = c_cu s := rfl
theorem c_cu_hs (s : ST) (v : Nat → Nat → Bool) : c_cu (c_hs_ s v) = c_cu s := rfl
theorem c_cu_kl (s : ST) (v : Nat → Nat → Nat → Option Nat) : c_cu (c_kl_ s v) = c_cu s := rfl
theorem c_cu_ol (s : ST) (v : Nat → Nat → Option Nat) : c_cu (c_ol_ s v) = c_cu s := rfl
theorem c_cu_pr (s : ST) (v : Nat → PRS) : c_cu (c_pr_ s v) = c_cu s := rfl
theorem c_cu_dr (s : ST) (v : Int32) : c_cu (c_dr_ s v) = c_cu s := rfl
theorem c_cu_ev (s : ST) (v : List Int32) : c_cu (c_ev_ s v) = c_cu s := rfl
theorem c_cu_na (s : ST) (v : Nat) : c_cu (c_na_ s v) = c_cu s := rfl
theorem c_cu_ak (s : ST) (v : Nat → AK) : c_cu (c_ak_ s v) = c_cu s := rfl
theorem c_cu_ms (s : ST) (v : List MSG) : c_cu (c_ms_ s v) = c_cu s := rfl
theorem c_cu_ck (s : ST) (v : Nat) : c_cu (c_ck_ s v) = c_cu s := rfl
theorem c_cu_cp (s : ST) (v : Nat) : c_cu (c_cp_ s v) = c_cu s := rfl
theorem c_cu_cu (s : ST) (v : Bool) : c_cu (c_cu_ s v) = v := rfl
theorem c_cu_cb (s : ST) (v : Int32) : c_cu (c_cb_ s v) = c_cu s := rfl
theorem c_cu_bg (s : ST) (v : PRS) : c_cu (c_bg_ s v) = c_cu s := rfl
theorem c_cb_n (s : ST) (v : Nat) : c_cb (c_n_ s v) = c_cb s := rfl
theorem c_cb_nm (s : ST) (v : Nat → Int32) : c_cb (c_nm_ s v) = c_cb s := rfl
theorem c_cb_bt (s : ST) (v : Nat → Int32) : c_cb (c_bt_ s v) = c_cb s := rfl
theorem c_cb_be (s : ST) (v : Nat → Nat) : c_cb (c_be_ s v) = c_cb s := rfl
theorem c_cb_ld (s : ST) (v : Nat → Int32) : c_cb (c_ld_ s v) = c_cb s := rfl
theorem c_cb_hs (s : ST) (v : Nat → Nat → Bool) : c_cb (c_hs_ s v) = c_cb s := rfl
theorem c_cb_kl (s : ST) (v : Nat → Nat → Nat → Option Nat) : c_cb (c_kl_ s v) = c_cb s := rfl
theorem c_cb_ol (s : ST) (v : Nat → Nat → Option Nat) : c_cb (c_ol_ s v) = c_cb s := rfl
theorem c_cb_pr (s : ST) (v : Nat → PRS) : c_cb (c_pr_ s v) = c_cb s := rfl
theorem c_cb_dr (s : ST) (v : Int32) : c_cb (c_dr_ s v) = c_cb s := rfl
theorem c_cb_ev (s : ST) (v : List Int32) : c_cb (c_ev_ s v) = c_cb s := rfl
theorem c_cb_na (s : ST) (v : Nat) : c_cb (c_na_ s v) = c_cb s := rfl
theorem c_cb_ak (s : ST) (v : Nat → AK) : c_cb (c_ak_ s v) = c_cb s := rfl
theorem c_cb_ms (s : ST) (v : List MSG) : c_cb (c_ms_ s v) = c_cb s := rfl
theorem c_cb_ck (s : ST) (v : Nat) : c_cb (c_ck_ s v) = c_cb s := rfl
theorem c_cb_cp (s : ST) (v : Nat) : c_cb (c_cp_ s v) = c_cb s := rfl
theorem c_cb_cu (s : ST) (v : Bool) : c_cb (c_cu_ s v) = c_cb s := rfl
theorem c_cb_cb (s : ST) (v : Int32) : c_cb (c_cb_ s v) = v := rfl
theorem c_cb_bg (s : ST) (v : PRS) : c_cb (c_bg_ s v) = c_cb s := rfl
theorem c_bg_n (s : ST) (v : Nat) : c_bg (c_n_ s v) = c_bg s := rfl
theorem c_bg_nm (s : ST) (v : Nat → Int32) : c_bg (c_nm_ s v) = c_bg s := rfl
theorem c_bg_bt (s : ST) (v : Nat → Int32) : c_bg (c_bt_ s v) = c_bg s := rfl
theorem c_bg_be (s : ST) (v : Nat → Nat) : c_bg (c_be_ s v) = c_bg s := rfl
theorem c_bg_ld (s : ST) (v : Nat → Int32) : c_bg (c_ld_ s v) = c_bg s := rfl
theorem c_bg_hs (s : ST) (v : Nat → Nat → Bool) : c_bg (c_hs_ s v) = c_bg s := rfl
theorem c_bg_kl (s : ST) (v : Nat → Nat → Nat → Option Nat) : c_bg (c_kl_ s v) = c_bg s := rfl
theorem c_bg_ol (s : ST) (v : Nat → Nat → Option Nat) : c_bg (c_ol_ s v) = c_bg s := rfl
theorem c_bg_pr (s : ST) (v : Nat → PRS) : c_bg (c_pr_ s v) = c_bg s := rfl
theorem c_bg_dr (s : ST) (v : Int32) : c_bg (c_dr_ s v) = c_bg s := rfl
theorem c_bg_ev (s : ST) (v : List Int32) : c_bg (c_ev_ s v) = c_bg s := rfl
theorem c_bg_na (s : ST) (v : Nat) : c_bg (c_na_ s v) = c_bg s := rfl
theorem c_bg_ak (s : ST) (v : Nat → AK) : c_bg (c_ak_ s v) = c_bg s := rfl
theorem c_bg_ms (s : ST) (v : List MSG) : c_bg (c_ms_ s v) = c_bg s := rfl
theorem c_bg_ck (s : ST) (v : Nat) : c_bg (c_ck_ s v) = c_bg s := rfl
theorem c_bg_cp (s : ST) (v : Nat) : c_bg (c_cp_ s v) = c_bg s := rfl
theorem c_bg_cu (s : ST) (v : Bool) : c_bg (c_cu_ s v) = c_bg s := rfl
theorem c_bg_cb (s : ST) (v : Int32) : c_bg (c_cb_ s v) = c_bg s := rfl
theorem c_bg_bg (s : ST) (v : PRS) : c_bg (c_bg_ s v) = v := rfl
