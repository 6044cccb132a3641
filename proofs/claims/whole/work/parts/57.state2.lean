/-! the state's getters over its setters, again, for 'simp only' without unfolding -/
theorem C_n_n (s : ST) (v : Nat) : c_n (c_n_ s v) = v := Eq.trans rfl rfl
theorem C_n_nm (s : ST) (v : Nat → Int32) : c_n (c_nm_ s v) = c_n s := Eq.trans rfl rfl
theorem C_n_bt (s : ST) (v : Nat → Int32) : c_n (c_bt_ s v) = c_n s := Eq.trans rfl rfl
theorem C_n_be (s : ST) (v : Nat → Nat) : c_n (c_be_ s v) = c_n s := Eq.trans rfl rfl
theorem C_n_ld (s : ST) (v : Nat → Int32) : c_n (c_ld_ s v) = c_n s := Eq.trans rfl rfl
theorem C_n_hs (s : ST) (v : Nat → Nat → Bool) : c_n (c_hs_ s v) = c_n s := Eq.trans rfl rfl
theorem C_n_kl (s : ST) (v : Nat → Nat → Nat → Option Nat) : c_n (c_kl_ s v) = c_n s := Eq.trans rfl rfl
theorem C_n_ol (s : ST) (v : Nat → Nat → Option Nat) : c_n (c_ol_ s v) = c_n s := Eq.trans rfl rfl
theorem C_n_pr (s : ST) (v : Nat → PRS) : c_n (c_pr_ s v) = c_n s := Eq.trans rfl rfl
theorem C_n_dr (s : ST) (v : Int32) : c_n (c_dr_ s v) = c_n s := Eq.trans rfl rfl
theorem C_n_ev (s : ST) (v : List Int32) : c_n (c_ev_ s v) = c_n s := Eq.trans rfl rfl
theorem C_n_na (s : ST) (v : Nat) : c_n (c_na_ s v) = c_n s := Eq.trans rfl rfl
theorem C_n_ak (s : ST) (v : Nat → AK) : c_n (c_ak_ s v) = c_n s := Eq.trans rfl rfl
theorem C_n_ms (s : ST) (v : List MSG) : c_n (c_ms_ s v) = c_n s := Eq.trans rfl rfl
theorem C_n_ck (s : ST) (v : Nat) : c_n (c_ck_ s v) = c_n s := Eq.trans rfl rfl
theorem C_n_cp (s : ST) (v : Nat) : c_n (c_cp_ s v) = c_n s := Eq.trans rfl rfl
theorem C_n_cu (s : ST) (v : Bool) : c_n (c_cu_ s v) = c_n s := Eq.trans rfl rfl
theorem C_n_cb (s : ST) (v : Int32) : c_n (c_cb_ s v) = c_n s := Eq.trans rfl rfl
theorem C_n_bg (s : ST) (v : PRS) : c_n (c_bg_ s v) = c_n s := Eq.trans rfl rfl
theorem C_nm_n (s : ST) (v : Nat) : c_nm (c_n_ s v) = c_nm s := Eq.trans rfl rfl
theorem C_nm_nm (s : ST) (v : Nat → Int32) : c_nm (c_nm_ s v) = v := Eq.trans rfl rfl
theorem C_nm_bt (s : ST) (v : Nat → Int32) : c_nm (c_bt_ s v) = c_nm s := Eq.trans rfl rfl
theorem C_nm_be (s : ST) (v : Nat → Nat) : c_nm (c_be_ s v) = c_nm s := Eq.trans rfl rfl
theorem C_nm_ld (s : ST) (v : Nat → Int32) : c_nm (c_ld_ s v) = c_nm s := Eq.trans rfl rfl
theorem C_nm_hs (s : ST) (v : Nat → Nat → Bool) : c_nm (c_hs_ s v) = c_nm s := Eq.trans rfl rfl
theorem C_nm_kl (s : ST) (v : Nat → Nat → Nat → Option Nat) : c_nm (c_kl_ s v) = c_nm s := Eq.trans rfl rfl
theorem C_nm_ol (s : ST) (v : Nat → Nat → Option Nat) : c_nm (c_ol_ s v) = c_nm s := Eq.trans rfl rfl
theorem C_nm_pr (s : ST) (v : Nat → PRS) : c_nm (c_pr_ s v) = c_nm s := Eq.trans rfl rfl
theorem C_nm_dr (s : ST) (v : Int32) : c_nm (c_dr_ s v) = c_nm s := Eq.trans rfl rfl
theorem C_nm_ev (s : ST) (v : List Int32) : c_nm (c_ev_ s v) = c_nm s := Eq.trans rfl rfl
theorem C_nm_na (s : ST) (v : Nat) : c_nm (c_na_ s v) = c_nm s := Eq.trans rfl rfl
theorem C_nm_ak (s : ST) (v : Nat → AK) : c_nm (c_ak_ s v) = c_nm s := Eq.trans rfl rfl
theorem C_nm_ms (s : ST) (v : List MSG) : c_nm (c_ms_ s v) = c_nm s := Eq.trans rfl rfl
theorem C_nm_ck (s : ST) (v : Nat) : c_nm (c_ck_ s v) = c_nm s := Eq.trans rfl rfl
theorem C_nm_cp (s : ST) (v : Nat) : c_nm (c_cp_ s v) = c_nm s := Eq.trans rfl rfl
theorem C_nm_cu (s : ST) (v : Bool) : c_nm (c_cu_ s v) = c_nm s := Eq.trans rfl rfl
theorem C_nm_cb (s : ST) (v : Int32) : c_nm (c_cb_ s v) = c_nm s := Eq.trans rfl rfl
theorem C_nm_bg (s : ST) (v : PRS) : c_nm (c_bg_ s v) = c_nm s := Eq.trans rfl rfl
theorem C_bt_n (s : ST) (v : Nat) : c_bt (c_n_ s v) = c_bt s := Eq.trans rfl rfl
theorem C_bt_nm (s : ST) (v : Nat → Int32) : c_bt (c_nm_ s v) = c_bt s := Eq.trans rfl rfl
theorem C_bt_bt (s : ST) (v : Nat → Int32) : c_bt (c_bt_ s v) = v := Eq.trans rfl rfl
theorem C_bt_be (s : ST) (v : Nat → Nat) : c_bt (c_be_ s v) = c_bt s := Eq.trans rfl rfl
theorem C_bt_ld (s : ST) (v : Nat → Int32) : c_bt (c_ld_ s v) = c_bt s := Eq.trans rfl rfl
theorem C_bt_hs (s : ST) (v : Nat → Nat → Bool) : c_bt (c_hs_ s v) = c_bt s := Eq.trans rfl rfl
theorem C_bt_kl (s : ST) (v : Nat → Nat → Nat → Option Nat) : c_bt (c_kl_ s v) = c_bt s := Eq.trans rfl rfl
theorem C_bt_ol (s : ST) (v : Nat → Nat → Option Nat) : c_bt (c_ol_ s v) = c_bt s := Eq.trans rfl rfl
theorem C_bt_pr (s : ST) (v : Nat → PRS) : c_bt (c_pr_ s v) = c_bt s := Eq.trans rfl rfl
theorem C_bt_dr (s : ST) (v : Int32) : c_bt (c_dr_ s v) = c_bt s := Eq.trans rfl rfl
theorem C_bt_ev (s : ST) (v : List Int32) : c_bt (c_ev_ s v) = c_bt s := Eq.trans rfl rfl
theorem C_bt_na (s : ST) (v : Nat) : c_bt (c_na_ s v) = c_bt s := Eq.trans rfl rfl
theorem C_bt_ak (s : ST) (v : Nat → AK) : c_bt (c_ak_ s v) = c_bt s := Eq.trans rfl rfl
theorem C_bt_ms (s : ST) (v : List MSG) : c_bt (c_ms_ s v) = c_bt s := Eq.trans rfl rfl
theorem C_bt_ck (s : ST) (v : Nat) : c_bt (c_ck_ s v) = c_bt s := Eq.trans rfl rfl
theorem C_bt_cp (s : ST) (v : Nat) : c_bt (c_cp_ s v) = c_bt s := Eq.trans rfl rfl
theorem C_bt_cu (s : ST) (v : Bool) : c_bt (c_cu_ s v) = c_bt s := Eq.trans rfl rfl
theorem C_bt_cb (s : ST) (v : Int32) : c_bt (c_cb_ s v) = c_bt s := Eq.trans rfl rfl
theorem C_bt_bg (s : ST) (v : PRS) : c_bt (c_bg_ s v) = c_bt s := Eq.trans rfl rfl
theorem C_be_n (s : ST) (v : Nat) : c_be (c_n_ s v) = c_be s := Eq.trans rfl rfl
theorem C_be_nm (s : ST) (v : Nat → Int32) : c_be (c_nm_ s v) = c_be s := Eq.trans rfl rfl
theorem C_be_bt (s : ST) (v : Nat → Int32) : c_be (c_bt_ s v) = c_be s := Eq.trans rfl rfl
theorem C_be_be (s : ST) (v : Nat → Nat) : c_be (c_be_ s v) = v := Eq.trans rfl rfl
theorem C_be_ld (s : ST) (v : Nat → Int32) : c_be (c_ld_ s v) = c_be s := Eq.trans rfl rfl
theorem C_be_hs (s : ST) (v : Nat → Nat → Bool) : c_be (c_hs_ s v) = c_be s := Eq.trans rfl rfl
theorem C_be_kl (s : ST) (v : Nat → Nat → Nat → Option Nat) : c_be (c_kl_ s v) = c_be s := Eq.trans rfl rfl
theorem C_be_ol (s : ST) (v : Nat → Nat → Option Nat) : c_be (c_ol_ s v) = c_be s := Eq.trans rfl rfl
theorem C_be_pr (s : ST) (v : Nat → PRS) : c_be (c_pr_ s v) = c_be s := Eq.trans rfl rfl
theorem C_be_dr (s : ST) (v : Int32) : c_be (c_dr_ s v) = c_be s := Eq.trans rfl rfl
theorem C_be_ev (s : ST) (v : List Int32) : c_be (c_ev_ s v) = c_be s := Eq.trans rfl rfl
theorem C_be_na (s : ST) (v : Nat) : c_be (c_na_ s v) = c_be s := Eq.trans rfl rfl
theorem C_be_ak (s : ST) (v : Nat → AK) : c_be (c_ak_ s v) = c_be s := Eq.trans rfl rfl
theorem C_be_ms (s : ST) (v : List MSG) : c_be (c_ms_ s v) = c_be s := Eq.trans rfl rfl
theorem C_be_ck (s : ST) (v : Nat) : c_be (c_ck_ s v) = c_be s := Eq.trans rfl rfl
theorem C_be_cp (s : ST) (v : Nat) : c_be (c_cp_ s v) = c_be s := Eq.trans rfl rfl
theorem C_be_cu (s : ST) (v : Bool) : c_be (c_cu_ s v) = c_be s := Eq.trans rfl rfl
theorem C_be_cb (s : ST) (v : Int32) : c_be (c_cb_ s v) = c_be s := Eq.trans rfl rfl
theorem C_be_bg (s : ST) (v : PRS) : c_be (c_bg_ s v) = c_be s := Eq.trans rfl rfl
theorem C_ld_n (s : ST) (v : Nat) : c_ld (c_n_ s v) = c_ld s := Eq.trans rfl rfl
theorem C_ld_nm (s : ST) (v : Nat → Int32) : c_ld (c_nm_ s v) = c_ld s := Eq.trans rfl rfl
theorem C_ld_bt (s : ST) (v : Nat → Int32) : c_ld (c_bt_ s v) = c_ld s := Eq.trans rfl rfl
theorem C_ld_be (s : ST) (v : Nat → Nat) : c_ld (c_be_ s v) = c_ld s := Eq.trans rfl rfl
theorem C_ld_ld (s : ST) (v : Nat → Int32) : c_ld (c_ld_ s v) = v := Eq.trans rfl rfl
theorem C_ld_hs (s : ST) (v : Nat → Nat → Bool) : c_ld (c_hs_ s v) = c_ld s := Eq.trans rfl rfl
theorem C_ld_kl (s : ST) (v : Nat → Nat → Nat → Option Nat) : c_ld (c_kl_ s v) = c_ld s := Eq.trans rfl rfl
theorem C_ld_ol (s : ST) (v : Nat → Nat → Option Nat) : c_ld (c_ol_ s v) = c_ld s := Eq.trans rfl rfl
theorem C_ld_pr (s : ST) (v : Nat → PRS) : c_ld (c_pr_ s v) = c_ld s := Eq.trans rfl rfl
theorem C_ld_dr (s : ST) (v : Int32) : c_ld (c_dr_ s v) = c_ld s := Eq.trans rfl rfl
theorem C_ld_ev (s : ST) (v : List Int32) : c_ld (c_ev_ s v) = c_ld s := Eq.trans rfl rfl
theorem C_ld_na (s : ST) (v : Nat) : c_ld (c_na_ s v) = c_ld s := Eq.trans rfl rfl
theorem C_ld_ak (s : ST) (v : Nat → AK) : c_ld (c_ak_ s v) = c_ld s := Eq.trans rfl rfl
theorem C_ld_ms (s : ST) (v : List MSG) : c_ld (c_ms_ s v) = c_ld s := Eq.trans rfl rfl
theorem C_ld_ck (s : ST) (v : Nat) : c_ld (c_ck_ s v) = c_ld s := Eq.trans rfl rfl
theorem C_ld_cp (s : ST) (v : Nat) : c_ld (c_cp_ s v) = c_ld s := Eq.trans rfl rfl
theorem C_ld_cu (s : ST) (v : Bool) : c_ld (c_cu_ s v) = c_ld s := Eq.trans rfl rfl
theorem C_ld_cb (s : ST) (v : Int32) : c_ld (c_cb_ s v) = c_ld s := Eq.trans rfl rfl
theorem C_ld_bg (s : ST) (v : PRS) : c_ld (c_bg_ s v) = c_ld s := Eq.trans rfl rfl
theorem C_hs_n (s : ST) (v : Nat) : c_hs (c_n_ s v) = c_hs s := Eq.trans rfl rfl
theorem C_hs_nm (s : ST) (v : Nat → Int32) : c_hs (c_nm_ s v) = c_hs s := Eq.trans rfl rfl
theorem C_hs_bt (s : ST) (v : Nat → Int32) : c_hs (c_bt_ s v) = c_hs s := Eq.trans rfl rfl
theorem C_hs_be (s : ST) (v : Nat → Nat) : c_hs (c_be_ s v) = c_hs s := Eq.trans rfl rfl
theorem C_hs_ld (s : ST) (v : Nat → Int32) : c_hs (c_ld_ s v) = c_hs s := Eq.trans rfl rfl
theorem C_hs_hs (s : ST) (v : Nat → Nat → Bool) : c_hs (c_hs_ s v) = v := Eq.trans rfl rfl
theorem C_hs_kl (s : ST) (v : Nat → Nat → Nat → Option Nat) : c_hs (c_kl_ s v) = c_hs s := Eq.trans rfl rfl
theorem C_hs_ol (s : ST) (v : Nat → Nat → Option Nat) : c_hs (c_ol_ s v) = c_hs s := Eq.trans rfl rfl
theorem C_hs_pr (s : ST) (v : Nat → PRS) : c_hs (c_pr_ s v) = c_hs s := Eq.trans rfl rfl
theorem C_hs_dr (s : ST) (v : Int32) : c_hs (c_dr_ s v) = c_hs s := Eq.trans rfl rfl
theorem C_hs_ev (s : ST) (v : List Int32) : c_hs (c_ev_ s v) = c_hs s := Eq.trans rfl rfl
theorem C_hs_na (s : ST) (v : Nat) : c_hs (c_na_ s v) = c_hs s := Eq.trans rfl rfl
theorem C_hs_ak (s : ST) (v : Nat → AK) : c_hs (c_ak_ s v) = c_hs s := Eq.trans rfl rfl
theorem C_hs_ms (s : ST) (v : List MSG) : c_hs (c_ms_ s v) = c_hs s := Eq.trans rfl rfl
theorem C_hs_ck (s : ST) (v : Nat) : c_hs (c_ck_ s v) = c_hs s := Eq.trans rfl rfl
theorem C_hs_cp (s : ST) (v : Nat) : c_hs (c_cp_ s v) = c_hs s := Eq.trans rfl rfl
theorem C_hs_cu (s : ST) (v : Bool) : c_hs (c_cu_ s v) = c_hs s := Eq.trans rfl rfl
theorem C_hs_cb (s : ST) (v : Int32) : c_hs (c_cb_ s v) = c_hs s := Eq.trans rfl rfl
theorem C_hs_bg (s : ST) (v : PRS) : c_hs (c_bg_ s v) = c_hs s := Eq.trans rfl rfl
theorem C_kl_n (s : ST) (v : Nat) : c_kl (c_n_ s v) = c_kl s := Eq.trans rfl rfl
theorem C_kl_nm (s : ST) (v : Nat → Int32) : c_kl (c_nm_ s v) = c_kl s := Eq.trans rfl rfl
theorem C_kl_bt (s : ST) (v : Nat → Int32) : c_kl (c_bt_ s v) = c_kl s := Eq.trans rfl rfl
theorem C_kl_be (s : ST) (v : Nat → Nat) : c_kl (c_be_ s v) = c_kl s := Eq.trans rfl rfl
theorem C_kl_ld (s : ST) (v : Nat → Int32) : c_kl (c_ld_ s v) = c_kl s := Eq.trans rfl rfl
theorem C_kl_hs (s : ST) (v : Nat → Nat → Bool) : c_kl (c_hs_ s v) = c_kl s := Eq.trans rfl rfl
theorem C_kl_kl (s : ST) (v : Nat → Nat → Nat → Option Nat) : c_kl (c_kl_ s v) = v := Eq.trans rfl rfl
theorem C_kl_ol (s : ST) (v : Nat → Nat → Option Nat) : c_kl (c_ol_ s v) = c_kl s := Eq.trans rfl rfl
theorem C_kl_pr (s : ST) (v : Nat → PRS) : c_kl (c_pr_ s v) = c_kl s := Eq.trans rfl rfl
theorem C_kl_dr (s : ST) (v : Int32) : c_kl (c_dr_ s v) = c_kl s := Eq.trans rfl rfl
theorem C_kl_ev (s : ST) (v : List Int32) : c_kl (c_ev_ s v) = c_kl s := Eq.trans rfl rfl
theorem C_kl_na (s : ST) (v : Nat) : c_kl (c_na_ s v) = c_kl s := Eq.trans rfl rfl
theorem C_kl_ak (s : ST) (v : Nat → AK) : c_kl (c_ak_ s v) = c_kl s := Eq.trans rfl rfl
theorem C_kl_ms (s : ST) (v : List MSG) : c_kl (c_ms_ s v) = c_kl s := Eq.trans rfl rfl
theorem C_kl_ck (s : ST) (v : Nat) : c_kl (c_ck_ s v) = c_kl s := Eq.trans rfl rfl
theorem C_kl_cp (s : ST) (v : Nat) : c_kl (c_cp_ s v) = c_kl s := Eq.trans rfl rfl
theorem C_kl_cu (s : ST) (v : Bool) : c_kl (c_cu_ s v) = c_kl s := Eq.trans rfl rfl
theorem C_kl_cb (s : ST) (v : Int32) : c_kl (c_cb_ s v) = c_kl s := Eq.trans rfl rfl
theorem C_kl_bg (s : ST) (v : PRS) : c_kl (c_bg_ s v) = c_kl s := Eq.trans rfl rfl
theorem C_ol_n (s : ST) (v : Nat) : c_ol (c_n_ s v) = c_ol s := Eq.trans rfl rfl
theorem C_ol_nm (s : ST) (v : Nat → Int32) : c_ol (c_nm_ s v) = c_ol s := Eq.trans rfl rfl
theorem C_ol_bt (s : ST) (v : Nat → Int32) : c_ol (c_bt_ s v) = c_ol s := Eq.trans rfl rfl
theorem C_ol_be (s : ST) (v : Nat → Nat) : c_ol (c_be_ s v) = c_ol s := Eq.trans rfl rfl
theorem C_ol_ld (s : ST) (v : Nat → Int32) : c_ol (c_ld_ s v) = c_ol s := Eq.trans rfl rfl
theorem C_ol_hs (s : ST) (v : Nat → Nat → Bool) : c_ol (c_hs_ s v) = c_ol s := Eq.trans rfl rfl
theorem C_ol_kl (s : ST) (v : Nat → Nat → Nat → Option Nat) : c_ol (c_kl_ s v) = c_ol s := Eq.trans rfl rfl
theorem C_ol_ol (s : ST) (v : Nat → Nat → Option Nat) : c_ol (c_ol_ s v) = v := Eq.trans rfl rfl
theorem C_ol_pr (s : ST) (v : Nat → PRS) : c_ol (c_pr_ s v) = c_ol s := Eq.trans rfl rfl
theorem C_ol_dr (s : ST) (v : Int32) : c_ol (c_dr_ s v) = c_ol s := Eq.trans rfl rfl
theorem C_ol_ev (s : ST) (v : List Int32) : c_ol (c_ev_ s v) = c_ol s := Eq.trans rfl rfl
theorem C_ol_na (s : ST) (v : Nat) : c_ol (c_na_ s v) = c_ol s := Eq.trans rfl rfl
theorem C_ol_ak (s : ST) (v : Nat → AK) : c_ol (c_ak_ s v) = c_ol s := Eq.trans rfl rfl
theorem C_ol_ms (s : ST) (v : List MSG) : c_ol (c_ms_ s v) = c_ol s := Eq.trans rfl rfl
theorem C_ol_ck (s : ST) (v : Nat) : c_ol (c_ck_ s v) = c_ol s := Eq.trans rfl rfl
theorem C_ol_cp (s : ST) (v : Nat) : c_ol (c_cp_ s v) = c_ol s := Eq.trans rfl rfl
theorem C_ol_cu (s : ST) (v : Bool) : c_ol (c_cu_ s v) = c_ol s := Eq.trans rfl rfl
theorem C_ol_cb (s : ST) (v : Int32) : c_ol (c_cb_ s v) = c_ol s := Eq.trans rfl rfl
theorem C_ol_bg (s : ST) (v : PRS) : c_ol (c_bg_ s v) = c_ol s := Eq.trans rfl rfl
theorem C_pr_n (s : ST) (v : Nat) : c_pr (c_n_ s v) = c_pr s := Eq.trans rfl rfl
theorem C_pr_nm (s : ST) (v : Nat → Int32) : c_pr (c_nm_ s v) = c_pr s := Eq.trans rfl rfl
theorem C_pr_bt (s : ST) (v : Nat → Int32) : c_pr (c_bt_ s v) = c_pr s := Eq.trans rfl rfl
theorem C_pr_be (s : ST) (v : Nat → Nat) : c_pr (c_be_ s v) = c_pr s := Eq.trans rfl rfl
theorem C_pr_ld (s : ST) (v : Nat → Int32) : c_pr (c_ld_ s v) = c_pr s := Eq.trans rfl rfl
theorem C_pr_hs (s : ST) (v : Nat → Nat → Bool) : c_pr (c_hs_ s v) = c_pr s := Eq.trans rfl rfl
theorem C_pr_kl (s : ST) (v : Nat → Nat → Nat → Option Nat) : c_pr (c_kl_ s v) = c_pr s := Eq.trans rfl rfl
theorem C_pr_ol (s : ST) (v : Nat → Nat → Option Nat) : c_pr (c_ol_ s v) = c_pr s := Eq.trans rfl rfl
theorem C_pr_pr (s : ST) (v : Nat → PRS) : c_pr (c_pr_ s v) = v := Eq.trans rfl rfl
theorem C_pr_dr (s : ST) (v : Int32) : c_pr (c_dr_ s v) = c_pr s := Eq.trans rfl rfl
theorem C_pr_ev (s : ST) (v : List Int32) : c_pr (c_ev_ s v) = c_pr s := Eq.trans rfl rfl
theorem C_pr_na (s : ST) (v : Nat) : c_pr (c_na_ s v) = c_pr s := Eq.trans rfl rfl
theorem C_pr_ak (s : ST) (v : Nat → AK) : c_pr (c_ak_ s v) = c_pr s := Eq.trans rfl rfl
theorem C_pr_ms (s : ST) (v : List MSG) : c_pr (c_ms_ s v) = c_pr s := Eq.trans rfl rfl
theorem C_pr_ck (s : ST) (v : Nat) : c_pr (c_ck_ s v) = c_pr s := Eq.trans rfl rfl
theorem C_pr_cp (s : ST) (v : Nat) : c_pr (c_cp_ s v) = c_pr s := Eq.trans rfl rfl
theorem C_pr_cu (s : ST) (v : Bool) : c_pr (c_cu_ s v) = c_pr s := Eq.trans rfl rfl
theorem C_pr_cb (s : ST) (v : Int32) : c_pr (c_cb_ s v) = c_pr s := Eq.trans rfl rfl
theorem C_pr_bg (s : ST) (v : PRS) : c_pr (c_bg_ s v) = c_pr s := Eq.trans rfl rfl
theorem C_dr_n (s : ST) (v : Nat) : c_dr (c_n_ s v) = c_dr s := Eq.trans rfl rfl
theorem C_dr_nm (s : ST) (v : Nat → Int32) : c_dr (c_nm_ s v) = c_dr s := Eq.trans rfl rfl
theorem C_dr_bt (s : ST) (v : Nat → Int32) : c_dr (c_bt_ s v) = c_dr s := Eq.trans rfl rfl
theorem C_dr_be (s : ST) (v : Nat → Nat) : c_dr (c_be_ s v) = c_dr s := Eq.trans rfl rfl
theorem C_dr_ld (s : ST) (v : Nat → Int32) : c_dr (c_ld_ s v) = c_dr s := Eq.trans rfl rfl
theorem C_dr_hs (s : ST) (v : Nat → Nat → Bool) : c_dr (c_hs_ s v) = c_dr s := Eq.trans rfl rfl
theorem C_dr_kl (s : ST) (v : Nat → Nat → Nat → Option Nat) : c_dr (c_kl_ s v) = c_dr s := Eq.trans rfl rfl
theorem C_dr_ol (s : ST) (v : Nat → Nat → Option Nat) : c_dr (c_ol_ s v) = c_dr s := Eq.trans rfl rfl
theorem C_dr_pr (s : ST) (v : Nat → PRS) : c_dr (c_pr_ s v) = c_dr s := Eq.trans rfl rfl
theorem C_dr_dr (s : ST) (v : Int32) : c_dr (c_dr_ s v) = v := Eq.trans rfl rfl
theorem C_dr_ev (s : ST) (v : List Int32) : c_dr (c_ev_ s v) = c_dr s := Eq.trans rfl rfl
theorem C_dr_na (s : ST) (v : Nat) : c_dr (c_na_ s v) = c_dr s := Eq.trans rfl rfl
theorem C_dr_ak (s : ST) (v : Nat → AK) : c_dr (c_ak_ s v) = c_dr s := Eq.trans rfl rfl
theorem C_dr_ms (s : ST) (v : List MSG) : c_dr (c_ms_ s v) = c_dr s := Eq.trans rfl rfl
theorem C_dr_ck (s : ST) (v : Nat) : c_dr (c_ck_ s v) = c_dr s := Eq.trans rfl rfl
theorem C_dr_cp (s : ST) (v : Nat) : c_dr (c_cp_ s v) = c_dr s := Eq.trans rfl rfl
theorem C_dr_cu (s : ST) (v : Bool) : c_dr (c_cu_ s v) = c_dr s := Eq.trans rfl rfl
theorem C_dr_cb (s : ST) (v : Int32) : c_dr (c_cb_ s v) = c_dr s := Eq.trans rfl rfl
theorem C_dr_bg (s : ST) (v : PRS) : c_dr (c_bg_ s v) = c_dr s := Eq.trans rfl rfl
theorem C_ev_n (s : ST) (v : Nat) : c_ev (c_n_ s v) = c_ev s := Eq.trans rfl rfl
theorem C_ev_nm (s : ST) (v : Nat → Int32) : c_ev (c_nm_ s v) = c_ev s := Eq.trans rfl rfl
theorem C_ev_bt (s : ST) (v : Nat → Int32) : c_ev (c_bt_ s v) = c_ev s := Eq.trans rfl rfl
theorem C_ev_be (s : ST) (v : Nat → Nat) : c_ev (c_be_ s v) = c_ev s := Eq.trans rfl rfl
theorem C_ev_ld (s : ST) (v : Nat → Int32) : c_ev (c_ld_ s v) = c_ev s := Eq.trans rfl rfl
theorem C_ev_hs (s : ST) (v : Nat → Nat → Bool) : c_ev (c_hs_ s v) = c_ev s := Eq.trans rfl rfl
theorem C_ev_kl (s : ST) (v : Nat → Nat → Nat → Option Nat) : c_ev (c_kl_ s v) = c_ev s := Eq.trans rfl rfl
theorem C_ev_ol (s : ST) (v : Nat → Nat → Option Nat) : c_ev (c_ol_ s v) = c_ev s := Eq.trans rfl rfl
theorem C_ev_pr (s : ST) (v : Nat → PRS) : c_ev (c_pr_ s v) = c_ev s := Eq.trans rfl rfl
theorem C_ev_dr (s : ST) (v : Int32) : c_ev (c_dr_ s v) = c_ev s := Eq.trans rfl rfl
theorem C_ev_ev (s : ST) (v : List Int32) : c_ev (c_ev_ s v) = v := Eq.trans rfl rfl
theorem C_ev_na (s : ST) (v : Nat) : c_ev (c_na_ s v) = c_ev s := Eq.trans rfl rfl
theorem C_ev_ak (s : ST) (v : Nat → AK) : c_ev (c_ak_ s v) = c_ev s := Eq.trans rfl rfl
theorem C_ev_ms (s : ST) (v : List MSG) : c_ev (c_ms_ s v) = c_ev s := Eq.trans rfl rfl
theorem C_ev_ck (s : ST) (v : Nat) : c_ev (c_ck_ s v) = c_ev s := Eq.trans rfl rfl
theorem C_ev_cp (s : ST) (v : Nat) : c_ev (c_cp_ s v) = c_ev s := Eq.trans rfl rfl
theorem C_ev_cu (s : ST) (v : Bool) : c_ev (c_cu_ s v) = c_ev s := Eq.trans rfl rfl
theorem C_ev_cb (s : ST) (v : Int32) : c_ev (c_cb_ s v) = c_ev s := Eq.trans rfl rfl
theorem C_ev_bg (s : ST) (v : PRS) : c_ev (c_bg_ s v) = c_ev s := Eq.trans rfl rfl
theorem C_na_n (s : ST) (v : Nat) : c_na (c_n_ s v) = c_na s := Eq.trans rfl rfl
theorem C_na_nm (s : ST) (v : Nat → Int32) : c_na (c_nm_ s v) = c_na s := Eq.trans rfl rfl
theorem C_na_bt (s : ST) (v : Nat → Int32) : c_na (c_bt_ s v) = c_na s := Eq.trans rfl rfl
theorem C_na_be (s : ST) (v : Nat → Nat) : c_na (c_be_ s v) = c_na s := Eq.trans rfl rfl
theorem C_na_ld (s : ST) (v : Nat → Int32) : c_na (c_ld_ s v) = c_na s := Eq.trans rfl rfl
theorem C_na_hs (s : ST) (v : Nat → Nat → Bool) : c_na (c_hs_ s v) = c_na s := Eq.trans rfl rfl
theorem C_na_kl (s : ST) (v : Nat → Nat → Nat → Option Nat) : c_na (c_kl_ s v) = c_na s := Eq.trans rfl rfl
theorem C_na_ol (s : ST) (v : Nat → Nat → Option Nat) : c_na (c_ol_ s v) = c_na s := Eq.trans rfl rfl
theorem C_na_pr (s : ST) (v : Nat → PRS) : c_na (c_pr_ s v) = c_na s := Eq.trans rfl rfl
theorem C_na_dr (s : ST) (v : Int32) : c_na (c_dr_ s v) = c_na s := Eq.trans rfl rfl
theorem C_na_ev (s : ST) (v : List Int32) : c_na (c_ev_ s v) = c_na s := Eq.trans rfl rfl
theorem C_na_na (s : ST) (v : Nat) : c_na (c_na_ s v) = v := Eq.trans rfl rfl
theorem C_na_ak (s : ST) (v : Nat → AK) : c_na (c_ak_ s v) = c_na s := Eq.trans rfl rfl
theorem C_na_ms (s : ST) (v : List MSG) : c_na (c_ms_ s v) = c_na s := Eq.trans rfl rfl
theorem C_na_ck (s : ST) (v : Nat) : c_na (c_ck_ s v) = c_na s := Eq.trans rfl rfl
theorem C_na_cp (s : ST) (v : Nat) : c_na (c_cp_ s v) = c_na s := Eq.trans rfl rfl
theorem C_na_cu (s : ST) (v : Bool) : c_na (c_cu_ s v) = c_na s := Eq.trans rfl rfl
theorem C_na_cb (s : ST) (v : Int32) : c_na (c_cb_ s v) = c_na s := Eq.trans rfl rfl
theorem C_na_bg (s : ST) (v : PRS) : c_na (c_bg_ s v) = c_na s := Eq.trans rfl rfl
theorem C_ak_n (s : ST) (v : Nat) : c_ak (c_n_ s v) = c_ak s := Eq.trans rfl rfl
theorem C_ak_nm (s : ST) (v : Nat → Int32) : c_ak (c_nm_ s v) = c_ak s := Eq.trans rfl rfl
theorem C_ak_bt (s : ST) (v : Nat → Int32) : c_ak (c_bt_ s v) = c_ak s := Eq.trans rfl rfl
theorem C_ak_be (s : ST) (v : Nat → Nat) : c_ak (c_be_ s v) = c_ak s := Eq.trans rfl rfl
theorem C_ak_ld (s : ST) (v : Nat → Int32) : c_ak (c_ld_ s v) = c_ak s := Eq.trans rfl rfl
theorem C_ak_hs (s : ST) (v : Nat → Nat → Bool) : c_ak (c_hs_ s v) = c_ak s := Eq.trans rfl rfl
theorem C_ak_kl (s : ST) (v : Nat → Nat → Nat → Option Nat) : c_ak (c_kl_ s v) = c_ak s := Eq.trans rfl rfl
theorem C_ak_ol (s : ST) (v : Nat → Nat → Option Nat) : c_ak (c_ol_ s v) = c_ak s := Eq.trans rfl rfl
theorem C_ak_pr (s : ST) (v : Nat → PRS) : c_ak (c_pr_ s v) = c_ak s := Eq.trans rfl rfl
theorem C_ak_dr (s : ST) (v : Int32) : c_ak (c_dr_ s v) = c_ak s := Eq.trans rfl rfl
theorem C_ak_ev (s : ST) (v : List Int32) : c_ak (c_ev_ s v) = c_ak s := Eq.trans rfl rfl
theorem C_ak_na (s : ST) (v : Nat) : c_ak (c_na_ s v) = c_ak s := Eq.trans rfl rfl
theorem C_ak_ak (s : ST) (v : Nat → AK) : c_ak (c_ak_ s v) = v := Eq.trans rfl rfl
theorem C_ak_ms (s : ST) (v : List MSG) : c_ak (c_ms_ s v) = c_ak s := Eq.trans rfl rfl
theorem C_ak_ck (s : ST) (v : Nat) : c_ak (c_ck_ s v) = c_ak s := Eq.trans rfl rfl
theorem C_ak_cp (s : ST) (v : Nat) : c_ak (c_cp_ s v) = c_ak s := Eq.trans rfl rfl
theorem C_ak_cu (s : ST) (v : Bool) : c_ak (c_cu_ s v) = c_ak s := Eq.trans rfl rfl
theorem C_ak_cb (s : ST) (v : Int32) : c_ak (c_cb_ s v) = c_ak s := Eq.trans rfl rfl
theorem C_ak_bg (s : ST) (v : PRS) : c_ak (c_bg_ s v) = c_ak s := Eq.trans rfl rfl
theorem C_ms_n (s : ST) (v : Nat) : c_ms (c_n_ s v) = c_ms s := Eq.trans rfl rfl
theorem C_ms_nm (s : ST) (v : Nat → Int32) : c_ms (c_nm_ s v) = c_ms s := Eq.trans rfl rfl
theorem C_ms_bt (s : ST) (v : Nat → Int32) : c_ms (c_bt_ s v) = c_ms s := Eq.trans rfl rfl
theorem C_ms_be (s : ST) (v : Nat → Nat) : c_ms (c_be_ s v) = c_ms s := Eq.trans rfl rfl
theorem C_ms_ld (s : ST) (v : Nat → Int32) : c_ms (c_ld_ s v) = c_ms s := Eq.trans rfl rfl
theorem C_ms_hs (s : ST) (v : Nat → Nat → Bool) : c_ms (c_hs_ s v) = c_ms s := Eq.trans rfl rfl
theorem C_ms_kl (s : ST) (v : Nat → Nat → Nat → Option Nat) : c_ms (c_kl_ s v) = c_ms s := Eq.trans rfl rfl
theorem C_ms_ol (s : ST) (v : Nat → Nat → Option Nat) : c_ms (c_ol_ s v) = c_ms s := Eq.trans rfl rfl
theorem C_ms_pr (s : ST) (v : Nat → PRS) : c_ms (c_pr_ s v) = c_ms s := Eq.trans rfl rfl
theorem C_ms_dr (s : ST) (v : Int32) : c_ms (c_dr_ s v) = c_ms s := Eq.trans rfl rfl
theorem C_ms_ev (s : ST) (v : List Int32) : c_ms (c_ev_ s v) = c_ms s := Eq.trans rfl rfl
theorem C_ms_na (s : ST) (v : Nat) : c_ms (c_na_ s v) = c_ms s := Eq.trans rfl rfl
theorem C_ms_ak (s : ST) (v : Nat → AK) : c_ms (c_ak_ s v) = c_ms s := Eq.trans rfl rfl
theorem C_ms_ms (s : ST) (v : List MSG) : c_ms (c_ms_ s v) = v := Eq.trans rfl rfl
theorem C_ms_ck (s : ST) (v : Nat) : c_ms (c_ck_ s v) = c_ms s := Eq.trans rfl rfl
theorem C_ms_cp (s : ST) (v : Nat) : c_ms (c_cp_ s v) = c_ms s := Eq.trans rfl rfl
theorem C_ms_cu (s : ST) (v : Bool) : c_ms (c_cu_ s v) = c_ms s := Eq.trans rfl rfl
theorem C_ms_cb (s : ST) (v : Int32) : c_ms (c_cb_ s v) = c_ms s := Eq.trans rfl rfl
theorem C_ms_bg (s : ST) (v : PRS) : c_ms (c_bg_ s v) = c_ms s := Eq.trans rfl rfl
theorem C_ck_n (s : ST) (v : Nat) : c_ck (c_n_ s v) = c_ck s := Eq.trans rfl rfl
theorem C_ck_nm (s : ST) (v : Nat → Int32) : c_ck (c_nm_ s v) = c_ck s := Eq.trans rfl rfl
theorem C_ck_bt (s : ST) (v : Nat → Int32) : c_ck (c_bt_ s v) = c_ck s := Eq.trans rfl rfl
theorem C_ck_be (s : ST) (v : Nat → Nat) : c_ck (c_be_ s v) = c_ck s := Eq.trans rfl rfl
theorem C_ck_ld (s : ST) (v : Nat → Int32) : c_ck (c_ld_ s v) = c_ck s := Eq.trans rfl rfl
theorem C_ck_hs (s : ST) (v : Nat → Nat → Bool) : c_ck (c_hs_ s v) = c_ck s := Eq.trans rfl rfl
theorem C_ck_kl (s : ST) (v : Nat → Nat → Nat → Option Nat) : c_ck (c_kl_ s v) = c_ck s := Eq.trans rfl rfl
theorem C_ck_ol (s : ST) (v : Nat → Nat → Option Nat) : c_ck (c_ol_ s v) = c_ck s := Eq.trans rfl rfl
theorem C_ck_pr (s : ST) (v : Nat → PRS) : c_ck (c_pr_ s v) = c_ck s := Eq.trans rfl rfl
theorem C_ck_dr (s : ST) (v : Int32) : c_ck (c_dr_ s v) = c_ck s := Eq.trans rfl rfl
theorem C_ck_ev (s : ST) (v : List Int32) : c_ck (c_ev_ s v) = c_ck s := Eq.trans rfl rfl
theorem C_ck_na (s : ST) (v : Nat) : c_ck (c_na_ s v) = c_ck s := Eq.trans rfl rfl
theorem C_ck_ak (s : ST) (v : Nat → AK) : c_ck (c_ak_ s v) = c_ck s := Eq.trans rfl rfl
theorem C_ck_ms (s : ST) (v : List MSG) : c_ck (c_ms_ s v) = c_ck s := Eq.trans rfl rfl
theorem C_ck_ck (s : ST) (v : Nat) : c_ck (c_ck_ s v) = v := Eq.trans rfl rfl
theorem C_ck_cp (s : ST) (v : Nat) : c_ck (c_cp_ s v) = c_ck s := Eq.trans rfl rfl
theorem C_ck_cu (s : ST) (v : Bool) : c_ck (c_cu_ s v) = c_ck s := Eq.trans rfl rfl
theorem C_ck_cb (s : ST) (v : Int32) : c_ck (c_cb_ s v) = c_ck s := Eq.trans rfl rfl
theorem C_ck_bg (s : ST) (v : PRS) : c_ck (c_bg_ s v) = c_ck s := Eq.trans rfl rfl
theorem C_cp_n (s : ST) (v : Nat) : c_cp (c_n_ s v) = c_cp s := Eq.trans rfl rfl
theorem C_cp_nm (s : ST) (v : Nat → Int32) : c_cp (c_nm_ s v) = c_cp s := Eq.trans rfl rfl
theorem C_cp_bt (s : ST) (v : Nat → Int32) : c_cp (c_bt_ s v) = c_cp s := Eq.trans rfl rfl
theorem C_cp_be (s : ST) (v : Nat → Nat) : c_cp (c_be_ s v) = c_cp s := Eq.trans rfl rfl
theorem C_cp_ld (s : ST) (v : Nat → Int32) : c_cp (c_ld_ s v) = c_cp s := Eq.trans rfl rfl
theorem C_cp_hs (s : ST) (v : Nat → Nat → Bool) : c_cp (c_hs_ s v) = c_cp s := Eq.trans rfl rfl
theorem C_cp_kl (s : ST) (v : Nat → Nat → Nat → Option Nat) : c_cp (c_kl_ s v) = c_cp s := Eq.trans rfl rfl
theorem C_cp_ol (s : ST) (v : Nat → Nat → Option Nat) : c_cp (c_ol_ s v) = c_cp s := Eq.trans rfl rfl
theorem C_cp_pr (s : ST) (v : Nat → PRS) : c_cp (c_pr_ s v) = c_cp s := Eq.trans rfl rfl
theorem C_cp_dr (s : ST) (v : Int32) : c_cp (c_dr_ s v) = c_cp s := Eq.trans rfl rfl
theorem C_cp_ev (s : ST) (v : List Int32) : c_cp (c_ev_ s v) = c_cp s := Eq.trans rfl rfl
theorem C_cp_na (s : ST) (v : Nat) : c_cp (c_na_ s v) = c_cp s := Eq.trans rfl rfl
theorem C_cp_ak (s : ST) (v : Nat → AK) : c_cp (c_ak_ s v) = c_cp s := Eq.trans rfl rfl
theorem C_cp_ms (s : ST) (v : List MSG) : c_cp (c_ms_ s v) = c_cp s := Eq.trans rfl rfl
theorem C_cp_ck (s : ST) (v : Nat) : c_cp (c_ck_ s v) = c_cp s := Eq.trans rfl rfl
theorem C_cp_cp (s : ST) (v : Nat) : c_cp (c_cp_ s v) = v := Eq.trans rfl rfl
theorem C_cp_cu (s : ST) (v : Bool) : c_cp (c_cu_ s v) = c_cp s := Eq.trans rfl rfl
theorem C_cp_cb (s : ST) (v : Int32) : c_cp (c_cb_ s v) = c_cp s := Eq.trans rfl rfl
theorem C_cp_bg (s : ST) (v : PRS) : c_cp (c_bg_ s v) = c_cp s := Eq.trans rfl rfl
theorem C_cu_n (s : ST) (v : Nat) : c_cu (c_n_ s v) = c_cu s := Eq.trans rfl rfl
theorem C_cu_nm (s : ST) (v : Nat → Int32) : c_cu (c_nm_ s v) = c_cu s := Eq.trans rfl rfl
theorem C_cu_bt (s : ST) (v : Nat → Int32) : c_cu (c_bt_ s v) = c_cu s := Eq.trans rfl rfl
theorem C_cu_be (s : ST) (v : Nat → Nat) : c_cu (c_be_ s v) = c_cu s := Eq.trans rfl rfl
theorem C_cu_ld (s : ST) (v : Nat → Int32) : c_cu (c_ld_ s v) = c_cu s := Eq.trans rfl rfl
theorem C_cu_hs (s : ST) (v : Nat → Nat → Bool) : c_cu (c_hs_ s v) = c_cu s := Eq.trans rfl rfl
theorem C_cu_kl (s : ST) (v : Nat → Nat → Nat → Option Nat) : c_cu (c_kl_ s v) = c_cu s := Eq.trans rfl rfl
theorem C_cu_ol (s : ST) (v : Nat → Nat → Option Nat) : c_cu (c_ol_ s v) = c_cu s := Eq.trans rfl rfl
theorem C_cu_pr (s : ST) (v : Nat → PRS) : c_cu (c_pr_ s v) = c_cu s := Eq.trans rfl rfl
theorem C_cu_dr (s : ST) (v : Int32) : c_cu (c_dr_ s v) = c_cu s := Eq.trans rfl rfl
theorem C_cu_ev (s : ST) (v : List Int32) : c_cu (c_ev_ s v) = c_cu s := Eq.trans rfl rfl
theorem C_cu_na (s : ST) (v : Nat) : c_cu (c_na_ s v) = c_cu s := Eq.trans rfl rfl
theorem C_cu_ak (s : ST) (v : Nat → AK) : c_cu (c_ak_ s v) = c_cu s := Eq.trans rfl rfl
theorem C_cu_ms (s : ST) (v : List MSG) : c_cu (c_ms_ s v) = c_cu s := Eq.trans rfl rfl
theorem C_cu_ck (s : ST) (v : Nat) : c_cu (c_ck_ s v) = c_cu s := Eq.trans rfl rfl
theorem C_cu_cp (s : ST) (v : Nat) : c_cu (c_cp_ s v) = c_cu s := Eq.trans rfl rfl
theorem C_cu_cu (s : ST) (v : Bool) : c_cu (c_cu_ s v) = v := Eq.trans rfl rfl
theorem C_cu_cb (s : ST) (v : Int32) : c_cu (c_cb_ s v) = c_cu s := Eq.trans rfl rfl
theorem C_cu_bg (s : ST) (v : PRS) : c_cu (c_bg_ s v) = c_cu s := Eq.trans rfl rfl
theorem C_cb_n (s : ST) (v : Nat) : c_cb (c_n_ s v) = c_cb s := Eq.trans rfl rfl
theorem C_cb_nm (s : ST) (v : Nat → Int32) : c_cb (c_nm_ s v) = c_cb s := Eq.trans rfl rfl
theorem C_cb_bt (s : ST) (v : Nat → Int32) : c_cb (c_bt_ s v) = c_cb s := Eq.trans rfl rfl
theorem C_cb_be (s : ST) (v : Nat → Nat) : c_cb (c_be_ s v) = c_cb s := Eq.trans rfl rfl
theorem C_cb_ld (s : ST) (v : Nat → Int32) : c_cb (c_ld_ s v) = c_cb s := Eq.trans rfl rfl
theorem C_cb_hs (s : ST) (v : Nat → Nat → Bool) : c_cb (c_hs_ s v) = c_cb s := Eq.trans rfl rfl
theorem C_cb_kl (s : ST) (v : Nat → Nat → Nat → Option Nat) : c_cb (c_kl_ s v) = c_cb s := Eq.trans rfl rfl
theorem C_cb_ol (s : ST) (v : Nat → Nat → Option Nat) : c_cb (c_ol_ s v) = c_cb s := Eq.trans rfl rfl
theorem C_cb_pr (s : ST) (v : Nat → PRS) : c_cb (c_pr_ s v) = c_cb s := Eq.trans rfl rfl
theorem C_cb_dr (s : ST) (v : Int32) : c_cb (c_dr_ s v) = c_cb s := Eq.trans rfl rfl
theorem C_cb_ev (s : ST) (v : List Int32) : c_cb (c_ev_ s v) = c_cb s := Eq.trans rfl rfl
theorem C_cb_na (s : ST) (v : Nat) : c_cb (c_na_ s v) = c_cb s := Eq.trans rfl rfl
theorem C_cb_ak (s : ST) (v : Nat → AK) : c_cb (c_ak_ s v) = c_cb s := Eq.trans rfl rfl
theorem C_cb_ms (s : ST) (v : List MSG) : c_cb (c_ms_ s v) = c_cb s := Eq.trans rfl rfl
theorem C_cb_ck (s : ST) (v : Nat) : c_cb (c_ck_ s v) = c_cb s := Eq.trans rfl rfl
theorem C_cb_cp (s : ST) (v : Nat) : c_cb (c_cp_ s v) = c_cb s := Eq.trans rfl rfl
theorem C_cb_cu (s : ST) (v : Bool) : c_cb (c_cu_ s v) = c_cb s := Eq.trans rfl rfl
theorem C_cb_cb (s : ST) (v : Int32) : c_cb (c_cb_ s v) = v := Eq.trans rfl rfl
theorem C_cb_bg (s : ST) (v : PRS) : c_cb (c_bg_ s v) = c_cb s := Eq.trans rfl rfl
theorem C_bg_n (s : ST) (v : Nat) : c_bg (c_n_ s v) = c_bg s := Eq.trans rfl rfl
theorem C_bg_nm (s : ST) (v : Nat → Int32) : c_bg (c_nm_ s v) = c_bg s := Eq.trans rfl rfl
theorem C_bg_bt (s : ST) (v : Nat → Int32) : c_bg (c_bt_ s v) = c_bg s := Eq.trans rfl rfl
theorem C_bg_be (s : ST) (v : Nat → Nat) : c_bg (c_be_ s v) = c_bg s := Eq.trans rfl rfl
theorem C_bg_ld (s : ST) (v : Nat → Int32) : c_bg (c_ld_ s v) = c_bg s := Eq.trans rfl rfl
theorem C_bg_hs (s : ST) (v : Nat → Nat → Bool) : c_bg (c_hs_ s v) = c_bg s := Eq.trans rfl rfl
theorem C_bg_kl (s : ST) (v : Nat → Nat → Nat → Option Nat) : c_bg (c_kl_ s v) = c_bg s := Eq.trans rfl rfl
theorem C_bg_ol (s : ST) (v : Nat → Nat → Option Nat) : c_bg (c_ol_ s v) = c_bg s := Eq.trans rfl rfl
theorem C_bg_pr (s : ST) (v : Nat → PRS) : c_bg (c_pr_ s v) = c_bg s := Eq.trans rfl rfl
theorem C_bg_dr (s : ST) (v : Int32) : c_bg (c_dr_ s v) = c_bg s := Eq.trans rfl rfl
theorem C_bg_ev (s : ST) (v : List Int32) : c_bg (c_ev_ s v) = c_bg s := Eq.trans rfl rfl
theorem C_bg_na (s : ST) (v : Nat) : c_bg (c_na_ s v) = c_bg s := Eq.trans rfl rfl
theorem C_bg_ak (s : ST) (v : Nat → AK) : c_bg (c_ak_ s v) = c_bg s := Eq.trans rfl rfl
theorem C_bg_ms (s : ST) (v : List MSG) : c_bg (c_ms_ s v) = c_bg s := Eq.trans rfl rfl
theorem C_bg_ck (s : ST) (v : Nat) : c_bg (c_ck_ s v) = c_bg s := Eq.trans rfl rfl
theorem C_bg_cp (s : ST) (v : Nat) : c_bg (c_cp_ s v) = c_bg s := Eq.trans rfl rfl
theorem C_bg_cu (s : ST) (v : Bool) : c_bg (c_cu_ s v) = c_bg s := Eq.trans rfl rfl
theorem C_bg_cb (s : ST) (v : Int32) : c_bg (c_cb_ s v) = c_bg s := Eq.trans rfl rfl
theorem C_bg_bg (s : ST) (v : PRS) : c_bg (c_bg_ s v) = v := Eq.trans rfl rfl
