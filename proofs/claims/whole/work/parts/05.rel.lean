/-! the machine's heap and the small machine's memory -/
abbrev PP : Type := va_G × (Nat → ClassId) × Nat × Nat × Nat × (Nat → Int32) × (Nat → Option Cell)
abbrev qD (P : PP) : va_G := P.1
abbrev qA (P : PP) : Nat → ClassId := P.2.1
abbrev qB (P : PP) : Nat := P.2.2.1
abbrev qb (P : PP) : Nat := P.2.2.2.1
abbrev qL (P : PP) : Nat := P.2.2.2.2.1
abbrev qx (P : PP) : Nat → Int32 := P.2.2.2.2.2.1
abbrev qH (P : PP) : Nat → Option Cell := P.2.2.2.2.2.2
abbrev AM : Type := Nat → Nat → Nat
def cv (ρ : AM) (v : AV) : Value := match v with
  | .inl x => .int x
  | .inr (.inl x) => .long x
  | .inr (.inr (_, none)) => .null
  | .inr (.inr (t, some n)) => .ref (ρ t n)
def lvq (m : MM) (v : AV) : Prop := match v with
  | .inr (.inr (t, some n)) => n < mC m t
  | _ => True
def la (m : MM) : List AV → Prop
  | [] => True
  | v :: r => lvq m v ∧ la m r
def pv (ρ : AM) : Nat → LV → List (Nat × Value)
  | _, [] => []
  | k, none :: l => pv ρ (k + 1) l
  | k, some v :: l => (k, cv ρ v) :: pv ρ (k + 1) l
theorem pv_of {ρ : AM} : ∀ {ls : LV} {k j : Nat} {v : AV}, lg ls j = some v → (k + j, cv ρ v) ∈ pv ρ k ls
  | [], k, j, v, h => by simp [lg] at h
  | none :: l, k, 0, v, h => by simp [lg] at h
  | none :: l, k, j + 1, v, h => by
    have := pv_of (ρ := ρ) (ls := l) (k := k + 1) (j := j) (v := v) (by simpa [lg] using h)
    simp only [pv]
    rw [show k + (j + 1) = k + 1 + j by omega]
    exact this
  | some w :: l, k, 0, v, h => by
    simp only [lg, Option.some.injEq] at h
    subst h
    exact List.mem_cons_self
  | some w :: l, k, j + 1, v, h => by
    have := pv_of (ρ := ρ) (ls := l) (k := k + 1) (j := j) (v := v) (by simpa [lg] using h)
    rw [show k + (j + 1) = k + 1 + j by omega]
    exact List.mem_cons_of_mem _ this
theorem pv_inv {ρ : AM} : ∀ {ls : LV} {k : Nat} {q : Nat × Value}, q ∈ pv ρ k ls → ∃ j v, q = (k + j, cv ρ v) ∧ lg ls j = some v
  | [], k, q, h => by cases h
  | none :: l, k, q, h => by
    obtain ⟨j, v, h1, h2⟩ := pv_inv (ls := l) (k := k + 1) h
    exact ⟨j + 1, v, by rw [h1, show k + 1 + j = k + (j + 1) by omega], by simpa [lg] using h2⟩
  | some w :: l, k, q, h => by
    rcases List.mem_cons.mp h with h | h
    · exact ⟨0, w, h, rfl⟩
    · obtain ⟨j, v, h1, h2⟩ := pv_inv (ls := l) (k := k + 1) h
      exact ⟨j + 1, v, by rw [h1, show k + 1 + j = k + (j + 1) by omega], by simpa [lg] using h2⟩
theorem lg_sg_ne : ∀ {ls : LV} {k j : Nat} {v : AV}, j ≠ k → lg (sg ls k v) j = lg ls j
  | [], k, j, v, h => rfl
  | o :: l, 0, 0, v, h => absurd rfl h
  | o :: l, 0, j + 1, v, h => rfl
  | o :: l, k + 1, 0, v, h => rfl
  | o :: l, k + 1, j + 1, v, h => by
    simp only [sg, lg]
    exact lg_sg_ne (fun e => h (by rw [e]))
theorem lg_sg_eq : ∀ {ls : LV} {k : Nat} {v w : AV}, lg (sg ls k v) k = some w → w = v
  | [], k, v, w, h => by simp [sg, lg] at h
  | o :: l, 0, v, w, h => by simpa [sg, lg, eq_comm] using h
  | o :: l, k + 1, v, w, h => lg_sg_eq (ls := l) (by simpa [sg, lg] using h)
theorem cv_cat (ρ : AM) (v : AV) : (cv ρ v).category = cat v := by
  rcases v with x | x | ⟨t, _ | n⟩ <;> rfl
theorem st_has {ρ : AM} {ls : LV} {lsA : Array Slot} {nL k : Nat} {v : AV} (h : lv_has lsA nL ((k, cv ρ v) :: (pv ρ 0 ls).filter (fun q => !(q.1 == k) && !(q.1 + 1 == k && q.2.category == 2)))) (hf : lf ls k = true) : lv_has lsA nL (pv ρ 0 (sg ls k v)) := by
  refine ⟨h.1, h.2.1, fun q hq => ?_⟩
  obtain ⟨j, w, rfl, hj⟩ := pv_inv hq
  simp only [Nat.zero_add]
  by_cases hjk : j = k
  · subst hjk
    rw [lg_sg_eq hj]
    exact h.2.2 _ List.mem_cons_self
  · rw [lg_sg_ne hjk] at hj
    refine h.2.2 (j, cv ρ w) (List.mem_cons_of_mem _ (List.mem_filter.mpr ⟨by simpa using pv_of (ρ := ρ) (k := 0) hj, ?_⟩))
    simp only [Bool.and_eq_true, Bool.not_eq_true', beq_eq_false_iff_ne, ne_eq, Bool.and_eq_false_imp, beq_iff_eq]
    refine ⟨hjk, fun e => ?_⟩
    rw [cv_cat]
    subst e
    simp only [lf, Nat.add_sub_cancel, hj] at hf
    rcases w with x | x | x
    · simp [cat]
    · simp at hf
    · simp [cat]
def ce (P : PP) (ρ : AM) (m : MM) (r n : Nat) (H : Heap) : Prop := match ek r with
  | some e => H[ρ r n]? = some (arrV (qA P e) (mN m r n) (fun j => cv ρ (xg m r n j)))
  | none => t_OB (ρ r n) ((qD P).1 (r - 1)) (NN (r - 1)) ((qD P).2 (r - 1)) H (fun k => cv ρ (xg m r n k))
/-- what the tables say of the classes, in a state -/
def KK (P : PP) (s : State) : Prop :=
  (∀ c, c < 8 → u_Kn s (cn c) (TT c) (NN c) ((qD P).1 c) ((qD P).2 c)) ∧
  (∀ e, e ∈ [0, 1, 2, 3, 5, 8, 10] → ArrOfT s (qA P e) (ft e) ∧ va_RA s (qA P e) (ft e)) ∧
  (∀ q, q ∈ vX → va_Nw (wX q) s) ∧
  (∀ t, t ∈ vO → va_AO (cn (t - 1)) s) ∧
  (∃ scr : Cell, qH P (qb P) = some scr ∧ s.isArrayOf scr .int ∧ scr.vm ≠ .unknown ∧ scr.slots.size = qL P ∧ ∀ j : Nat, j < qL P → scr.slots[j]? = some (.int (qx P j)))
theorem KK.moved {P : PP} {s U : State} (hW : s.WarmedH U.vm) (h : KK P s) : KK P U := by
  obtain ⟨h1, h2, h3, h4, scr, h5, h6, h7⟩ := h
  have hal := hW.alike
  exact ⟨fun c hc => u_Kn_moved hal (h1 c hc), fun e he => ⟨arrOfT_moved hal (h2 e he).1, (h2 e he).2.moved hal⟩, fun q hq => va_Nw.warmM hW (h3 q hq), fun t ht => (h4 t ht).moved hal, scr, h5, State.isArrayOf_alike hal h6, h7⟩
def Rl (P : PP) (ρ : AM) (m : MM) (H : Heap) : Prop :=
  (∀ r n, 1 ≤ r → n < mC m r → ce P ρ m r n H) ∧
  (∀ r n r' n', n < mC m r → n' < mC m r' → ρ r n = ρ r' n' → r = r' ∧ n = n') ∧
  (∀ r n, 1 ≤ r → n < mC m r → qB P ≤ ρ r n) ∧
  (qB P ≤ H.size ∧ ∀ q : Nat, q < qB P → H[q]? = qH P q) ∧
  (qb P < qB P ∧ ρ 0 0 = qb P ∧ mC m 0 = 1 ∧ mN m 0 0 = qL P ∧ ∀ j, j < qL P → mI m 0 0 j = qx P j) ∧
  (∀ r n k, 1 ≤ r → n < mC m r → lvq m (xg m r n k))
theorem ce.kept {P : PP} {ρ : AM} {m : MM} {r n : Nat} {H H1 : Heap} (h : ce P ρ m r n H) (hq : H1[ρ r n]? = H[ρ r n]?) : ce P ρ m r n H1 := by
  unfold ce at h ⊢
  cases he : ek r with
  | some e => rw [he] at h; exact hq.trans h
  | none => rw [he] at h; exact h.kept hq
theorem ce.lt {P : PP} {ρ : AM} {m : MM} {r n : Nat} {H : Heap} (h : ce P ρ m r n H) : ρ r n < H.size := by
  unfold ce at h
  cases he : ek r with
  | some e => rw [he] at h; exact (Array.getElem?_eq_some_iff.mp h).1
  | none =>
    rw [he] at h
    obtain ⟨cell, h2, -⟩ := h
    exact (Array.getElem?_eq_some_iff.mp h2).1
theorem ce.to {P : PP} {ρ ρ' : AM} {m m' : MM} {r n : Nat} {H : Heap} (h : ce P ρ m r n H) (ha : ρ' r n = ρ r n) (hn : mN m' r n = mN m r n) (hv : ∀ k, cv ρ' (xg m' r n k) = cv ρ (xg m r n k)) : ce P ρ' m' r n H := by
  unfold ce at h ⊢
  cases he : ek r with
  | some e =>
    rw [he] at h
    simp only [ha, hn]
    rw [h]
    congr 2
    funext j
    exact (hv j).symm
  | none =>
    rw [he] at h
    simp only [ha]
    exact t_OB.to h (fun k _ => (hv k).symm)
/-! writes -/
theorem mC_wr (m : MM) (r n k : Nat) (v : AV) (a : Nat) : mC (wr m r n k v) a = mC m a := by
  rcases v with x | x | ⟨t, o⟩ <;> rfl
theorem mN_wr (m : MM) (r n k : Nat) (v : AV) (a b : Nat) : mN (wr m r n k v) a b = mN m a b := by
  rcases v with x | x | ⟨t, o⟩ <;> rfl
theorem mT_wr (m : MM) (r n k : Nat) (v : AV) : mT (wr m r n k v) = mT m := by
  rcases v with x | x | ⟨t, o⟩ <;> rfl
theorem mS_wr (m : MM) (r n k : Nat) (v : AV) : mS (wr m r n k v) = mS m := by
  rcases v with x | x | ⟨t, o⟩ <;> rfl
theorem mI_wr_ne {m : MM} {r n k : Nat} {v : AV} {a b c : Nat} (h : ¬ (a = r ∧ b = n ∧ c = k)) : mI (wr m r n k v) a b c = mI m a b c := by
  rcases v with x | x | ⟨t, o⟩ <;> simp [wr, sI, sL, sR, mI, h]
theorem mL_wr_ne {m : MM} {r n k : Nat} {v : AV} {a b c : Nat} (h : ¬ (a = r ∧ b = n ∧ c = k)) : mL (wr m r n k v) a b c = mL m a b c := by
  rcases v with x | x | ⟨t, o⟩ <;> simp [wr, sI, sL, sR, mL, h]
theorem mR_wr_ne {m : MM} {r n k : Nat} {v : AV} {a b c : Nat} (h : ¬ (a = r ∧ b = n ∧ c = k)) : mR (wr m r n k v) a b c = mR m a b c := by
  rcases v with x | x | ⟨t, o⟩ <;> simp [wr, sI, sL, sR, mR, h]
theorem xg_wr_ne {m : MM} {r n k : Nat} {v : AV} {a b c : Nat} (h : ¬ (a = r ∧ b = n ∧ c = k)) : xg (wr m r n k v) a b c = xg m a b c := by
  unfold xg xc
  rw [mI_wr_ne h, mL_wr_ne h, mR_wr_ne h]
theorem lvq_wr {m : MM} {r n k : Nat} {v w : AV} (h : lvq m w) : lvq (wr m r n k v) w := by
  rcases w with x | x | ⟨t, _ | i⟩
  · trivial
  · trivial
  · trivial
  · show i < mC (wr m r n k v) t
    rw [mC_wr]; exact h
theorem xg_wr_eq (ρ : AM) {m : MM} {r n k : Nat} {v : AV} (h : fc (tk r k) v = true) : cv ρ (xg (wr m r n k v) r n k) = cv ρ v ∧ (lvq m v → lvq (wr m r n k v) (xg (wr m r n k v) r n k)) := by
  unfold xg
  generalize tk r k = e at h
  rcases v with x | x | ⟨t, o⟩
  · simp only [fc, Bool.or_eq_true, Bool.and_eq_true, beq_iff_eq] at h
    have hx : mI (wr m r n k (.inl x)) r n k = x := by simp [wr, sI, mI]
    rcases h with (h | h) | h
    · subst h; simp only [xc, hx]; exact ⟨trivial, fun _ => trivial⟩
    · rw [h.1]; simp only [xc, hx]; exact ⟨trivial, fun _ => trivial⟩
    · rw [h.1]; simp only [xc, hx]; exact ⟨trivial, fun _ => trivial⟩
  · simp only [fc, beq_iff_eq] at h
    subst h
    have hx : mL (wr m r n k (.inr (.inl x))) r n k = x := by simp [wr, sL, mL]
    simp only [xc, hx]; exact ⟨trivial, fun _ => trivial⟩
  · have hx : mR (wr m r n k (.inr (.inr (t, o)))) r n k = o := by simp [wr, sR, mR]
    simp only [fc, Bool.or_eq_true, Bool.and_eq_true, beq_iff_eq, decide_eq_true_eq] at h
    rcases h with ⟨rfl, h⟩ | h
    · obtain ⟨u, rfl⟩ : ∃ u, e = u + 4 := ⟨e - 4, by omega⟩
      simp only [xc, hx]; exact ⟨rfl, fun _ => trivial⟩
    · subst h
      simp only [xc, hx]
      exact ⟨trivial, fun q => lvq_wr q⟩
/-- one place of one cell was written -/
theorem rl_wr {P : PP} {ρ : AM} {m : MM} {H H' : Heap} {r n k : Nat} {v : AV} (h : Rl P ρ m H) (hr : 1 ≤ r) (hn : n < mC m r) (hf : fc (tk r k) v = true) (hv : lvq m v)
    (hc : ce P ρ (wr m r n k v) r n H') (hz : H'.size = H.size) (ho : ∀ q : Nat, q ≠ ρ r n → H'[q]? = H[q]?) : Rl P ρ (wr m r n k v) H' := by
  obtain ⟨h1, h2, h3, ⟨h4, h4b⟩, ⟨h5, h6, h7, h8, h9⟩, h10⟩ := h
  refine ⟨fun a b ha hb => ?_, fun a b a' b' hb hb' => ?_, fun a b ha hb => ?_, ⟨by rw [hz]; exact h4, fun q hq => ?_⟩, ⟨h5, h6, ?_, ?_, fun j hj => ?_⟩, fun a b c ha hb => ?_⟩
  · rw [mC_wr] at hb
    by_cases e : a = r ∧ b = n
    · rw [e.1, e.2]; exact hc
    · have hne : ρ a b ≠ ρ r n := fun q => e (h2 a b r n hb hn q)
      exact ((h1 a b ha hb).kept (ho _ hne)).to rfl (mN_wr _ _ _ _ _ _ _) (fun j => by rw [xg_wr_ne (fun q => e ⟨q.1, q.2.1⟩)])
  · rw [mC_wr] at hb hb'
    exact h2 a b a' b' hb hb'
  · rw [mC_wr] at hb
    exact h3 a b ha hb
  · rw [ho q (fun e => ?_)]
    · exact h4b q hq
    · have := h3 r n hr hn
      omega
  · rw [mC_wr]; exact h7
  · rw [mN_wr]; exact h8
  · rw [mI_wr_ne (fun q => by omega)]; exact h9 j hj
  · rw [mC_wr] at hb
    by_cases e : a = r ∧ b = n ∧ c = k
    · rw [e.1, e.2.1, e.2.2]; exact (xg_wr_eq ρ hf).2 hv
    · rw [xg_wr_ne e]; exact lvq_wr (h10 a b c ha hb)
/-! making -/
def za (e : Nat) : AV := match e with
  | 0 => .inl 0
  | 1 => .inl 0
  | 2 => .inl 0
  | 3 => .inr (.inl 0)
  | t + 4 => .inr (.inr (t, none))
theorem mC_al (m : MM) (r len sz a : Nat) : mC (al m r len sz) a = if a = r then mC m r + 1 else mC m a := rfl
theorem mN_al (m : MM) (r len sz a b : Nat) : mN (al m r len sz) a b = if a = r ∧ b = mC m r then len else mN m a b := rfl
theorem mI_al (m : MM) (r len sz a b c : Nat) : mI (al m r len sz) a b c = if a = r ∧ b = mC m r then 0 else mI m a b c := rfl
theorem mL_al (m : MM) (r len sz a b c : Nat) : mL (al m r len sz) a b c = if a = r ∧ b = mC m r then 0 else mL m a b c := rfl
theorem mR_al (m : MM) (r len sz a b c : Nat) : mR (al m r len sz) a b c = if a = r ∧ b = mC m r then none else mR m a b c := rfl
theorem mT_al (m : MM) (r len sz : Nat) : mT (al m r len sz) = mT m + 1 := rfl
theorem mS_al (m : MM) (r len sz : Nat) : mS (al m r len sz) = mS m + sz := rfl
theorem xg_al_ne {m : MM} {r len sz a b : Nat} (h : ¬ (a = r ∧ b = mC m r)) (c : Nat) : xg (al m r len sz) a b c = xg m a b c := by
  unfold xg xc
  simp only [mI_al, mL_al, mR_al, h, if_false]
theorem xg_al_eq (m : MM) (r len sz c : Nat) : xg (al m r len sz) r (mC m r) c = za (tk r c) := by
  unfold xg
  generalize tk r c = e
  match e with
  | 0 => simp [xc, za, mI_al]
  | 1 => simp [xc, za, mI_al]
  | 2 => simp [xc, za, mI_al]
  | 3 => simp [xc, za, mL_al]
  | t + 4 => simp [xc, za, mR_al]
theorem lvq_za (m : MM) (e : Nat) : lvq m (za e) := by
  match e with
  | 0 => trivial
  | 1 => trivial
  | 2 => trivial
  | 3 => trivial
  | t + 4 => trivial
def ua (ρ : AM) (r n a : Nat) : AM := fun x y => if x = r ∧ y = n then a else ρ x y
theorem lvq_le {m m' : MM} (h : ∀ r, mC m r ≤ mC m' r) {v : AV} (hv : lvq m v) : lvq m' v := by
  rcases v with x | x | ⟨t, _ | i⟩
  · trivial
  · trivial
  · trivial
  · exact Nat.lt_of_lt_of_le hv (h t)
theorem la_le {m m' : MM} (h : ∀ r, mC m r ≤ mC m' r) : ∀ {st : List AV}, la m st → la m' st
  | [], _ => trivial
  | _ :: _, hv => ⟨lvq_le h hv.1, la_le h hv.2⟩
theorem cv_ag {ρ ρ' : AM} {m : MM} (h : ∀ r n, n < mC m r → ρ' r n = ρ r n) {v : AV} (hv : lvq m v) : cv ρ' v = cv ρ v := by
  rcases v with x | x | ⟨t, _ | i⟩
  · rfl
  · rfl
  · rfl
  · show Value.ref _ = Value.ref _
    rw [h t i hv]
theorem map_ag {ρ ρ' : AM} {m : MM} (h : ∀ r n, n < mC m r → ρ' r n = ρ r n) : ∀ {st : List AV}, la m st → st.map (cv ρ') = st.map (cv ρ)
  | [], _ => rfl
  | v :: r, hv => by rw [List.map_cons, List.map_cons, cv_ag h hv.1, map_ag h hv.2]
theorem pv_ag {ρ ρ' : AM} {m : MM} (h : ∀ r n, n < mC m r → ρ' r n = ρ r n) : ∀ {ls : LV} {k : Nat}, (∀ j v, lg ls j = some v → lvq m v) → pv ρ' k ls = pv ρ k ls
  | [], _, _ => rfl
  | none :: l, k, hv => by
    simp only [pv]
    exact pv_ag h (fun j v hj => hv (j + 1) v (by simpa [lg] using hj))
  | some w :: l, k, hv => by
    simp only [pv]
    rw [cv_ag h (hv 0 w rfl), pv_ag h (fun j v hj => hv (j + 1) v (by simpa [lg] using hj))]
theorem mC_al_le (m : MM) (r len sz a : Nat) : mC m a ≤ mC (al m r len sz) a := by
  rw [mC_al]; split
  · rename_i h; rw [h]; omega
  · exact Nat.le_refl _
/-- a cell was made -/
theorem rl_al {P : PP} {ρ : AM} {m : MM} {H H' : Heap} {r len sz : Nat} (h : Rl P ρ m H) (hr : 1 ≤ r) (hz : H'.size = H.size + 1) (ho : ∀ q : Nat, q < H.size → H'[q]? = H[q]?)
    (hc : ce P (ua ρ r (mC m r) H.size) (al m r len sz) r (mC m r) H') : Rl P (ua ρ r (mC m r) H.size) (al m r len sz) H' := by
  obtain ⟨h1, h2, h3, ⟨h4, h4b⟩, ⟨h5, h6, h7, h8, h9⟩, h10⟩ := h
  have hag : ∀ a b, b < mC m a → ua ρ r (mC m r) H.size a b = ρ a b := fun a b hb => if_neg (fun e => by rw [e.1, e.2] at hb; omega)
  have hnew : ua ρ r (mC m r) H.size r (mC m r) = H.size := if_pos ⟨rfl, rfl⟩
  have hsp : ∀ a b, b < mC (al m r len sz) a → (a = r ∧ b = mC m r) ∨ (¬ (a = r ∧ b = mC m r) ∧ b < mC m a) := fun a b hb => by
    rw [mC_al] at hb
    by_cases e : a = r
    · rw [if_pos e] at hb
      subst e
      by_cases e2 : b = mC m a
      · exact Or.inl ⟨rfl, e2⟩
      · exact Or.inr ⟨fun q => e2 q.2, by omega⟩
    · rw [if_neg e] at hb
      exact Or.inr ⟨fun q => e q.1, hb⟩
  have hlow : ∀ a b, b < mC m a → ρ a b < H.size := fun a b hb => by
    by_cases ha : 1 ≤ a
    · exact (h1 a b ha hb).lt
    · have : a = 0 := by omega
      subst this
      rw [h7] at hb
      have : b = 0 := by omega
      subst this
      rw [h6]; omega
  refine ⟨fun a b ha hb => ?_, fun a b a' b' hb hb' he => ?_, fun a b ha hb => ?_, ⟨by omega, fun q hq => ?_⟩, ⟨h5, ?_, ?_, ?_, fun j hj => ?_⟩, fun a b c ha hb => ?_⟩
  · rcases hsp a b hb with e | ⟨e, hb⟩
    · rw [e.1, e.2]; exact hc
    · have hl := hlow a b hb
      refine ((h1 a b ha hb).kept (ho _ hl)).to (hag a b hb) ?_ (fun k => ?_)
      · rw [mN_al, if_neg e]
      · rw [xg_al_ne e, cv_ag hag (h10 a b k ha hb)]
  · rcases hsp a b hb with e | ⟨e, hb⟩ <;> rcases hsp a' b' hb' with e' | ⟨e', hb'⟩
    · exact ⟨e.1.trans e'.1.symm, e.2.trans e'.2.symm⟩
    · rw [e.1, e.2, hnew, hag a' b' hb'] at he
      have := hlow a' b' hb'
      omega
    · rw [e'.1, e'.2, hnew, hag a b hb] at he
      have := hlow a b hb
      omega
    · rw [hag a b hb, hag a' b' hb'] at he
      exact h2 a b a' b' hb hb' he
  · rcases hsp a b hb with e | ⟨e, hb⟩
    · rw [e.1, e.2, hnew]; exact h4
    · rw [hag a b hb]; exact h3 a b ha hb
  · rw [ho q (by omega)]; exact h4b q hq
  · rw [hag 0 0 (by rw [h7]; exact Nat.one_pos)]; exact h6
  · rw [mC_al, if_neg (by omega)]; exact h7
  · rw [mN_al, if_neg (fun e => by omega)]; exact h8
  · rw [mI_al, if_neg (fun e => by omega)]; exact h9 j hj
  · rcases hsp a b hb with e | ⟨e, hb⟩
    · rw [e.1, e.2, xg_al_eq]; exact lvq_za _ _
    · rw [xg_al_ne e]; exact lvq_le (mC_al_le m r len sz) (h10 a b c ha hb)
/-! the tables' words -/
def gw : List Cond := lw_tbl.filter goodWord
theorem gw_in {w : Cond} (h : w ∈ tables_1) (hg : goodWord w = true) : w ∈ gw := List.mem_filter.mpr ⟨List.mem_append_right _ h, hg⟩
theorem gw_F {q : (Nat × Nat) × (Nat × Nat)} (h : q ∈ vF) : wF q ∈ gw := gw_in (vF_in q h) rfl
theorem gw_M {q : (Nat × Nat) × (Nat × Nat)} (h : q ∈ vM) : wM q ∈ gw := gw_in (vM_in q h) rfl
theorem gw_C {q : (Nat × Nat) × Nat} (h : q ∈ vC) : wC q ∈ gw := gw_in (vC_in q h) rfl
theorem gw_c {q : (Nat × Nat) × Int32} (h : q ∈ vc) : wc q ∈ gw := gw_in (vc_in q h) rfl
theorem gw_L {q : (Nat × Nat) × Int64} (h : q ∈ vL) : wL q ∈ gw := gw_in (vL_in q h) rfl
theorem gw_K {q : Nat} (h : q ∈ vK) : wK q ∈ gw := gw_in (vK_in q h) rfl
theorem gw_I {q : Nat} (h : q ∈ vI) : wI q ∈ gw := gw_in (vI_in q h) rfl
theorem gw_T {q : Nat} (h : q ∈ vT) : wT q ∈ gw := gw_in (vT_in q h) rfl
theorem gw_N {q : Nat} (h : q ∈ vN) : wN q ∈ gw := gw_in (vN_in q h) rfl
theorem gw_Z {q : Nat} (h : q ∈ vZ) : wZ q ∈ gw := gw_in (vZ_in q h) rfl
theorem gw_A {q : Nat} (h : q ∈ vA) : wA q ∈ gw := gw_in (vA_in q h) rfl
theorem gw_Y {q : Nat × Nat} (h : q ∈ vY) : wY q ∈ gw := gw_in (vY_in q h) (by unfold wY u_lay; split <;> rfl)
theorem gw_S {q : Nat} (h : q ∈ vS) : wS q ∈ gw := gw_in (vS_in q h) rfl
theorem gw_P {q : Nat} (h : q ∈ vP) : wS q ∈ gw := by
  refine List.mem_filter.mpr ⟨List.mem_append_left _ ?_, rfl⟩
  unfold k2_sels
  rw [vP_eq, List.map_map]
  exact List.mem_map.mpr ⟨q, h, rfl⟩
theorem gw_good : GoodIn gw gw := fun w h => ⟨h, good_of_word (List.mem_filter.mp h).2⟩
theorem lk_mem {α : Type} : ∀ {l : List ((Nat × Nat) × α)} {a b : Nat} {q : α}, lk l a b = some q → ((a, b), q) ∈ l
  | [], a, b, q, h => by cases h
  | x :: l, a, b, q, h => by
    unfold lk at h
    by_cases e : x.1.1 = a ∧ x.1.2 = b
    · rw [if_pos e] at h
      obtain ⟨⟨x1, x2⟩, x3⟩ := x
      obtain ⟨rfl, rfl⟩ := e
      cases h
      exact List.mem_cons_self
    · rw [if_neg e] at h
      exact List.mem_cons_of_mem _ (lk_mem h)
def tyT (c k : Nat) : FieldType := match c with
  | 0 => tyX0 k
  | 1 => tyX1 k
  | 2 => tyX2 k
  | 3 => tyX3 k
  | 4 => tyX4 k
  | 5 => tyX5 k
  | 6 => tyX6 k
  | _ => tyX7 k
theorem tyT_ok : ∀ c, c < 8 → ∀ k, k < NN c → parseFieldDescriptor (TT c k).2.2.1 = some (tyT c k) := by
  intro c hc
  match c, hc with
  | 0, _ => exact tyX0_ok
  | 1, _ => exact tyX1_ok
  | 2, _ => exact tyX2_ok
  | 3, _ => exact tyX3_ok
  | 4, _ => exact tyX4_ok
  | 5, _ => exact tyX5_ok
  | 6, _ => exact tyX6_ok
  | 7, _ => exact tyX7_ok
theorem nmT : ∀ c, c < 8 → ∀ a, a < NN c → ∀ b, b < NN c → a ≠ b → (TT c a).2.1 ≠ (TT c b).2.1 := by
  intro c hc
  match c, hc with
  | 0, _ => exact nmX0
  | 1, _ => exact nmX1
  | 2, _ => exact nmX2
  | 3, _ => exact nmX3
  | 4, _ => exact nmX4
  | 5, _ => exact nmX5
  | 6, _ => exact nmX6
  | 7, _ => exact nmX7
/-- the sorts of the fields are those of the classes -/
def fo (e : Nat) (ty : FieldType) : Bool := match e, ty with
  | 0, .int => true
  | 1, .boolean => true
  | 3, .long => true
  | _ + 4, .object _ => true
  | _ + 4, .array _ => true
  | _, _ => false
theorem fo_ok : ∀ c, c < 8 → ∀ k, k < NN c → fo (fk (c + 1) k) (tyT c k) = true := by decide +kernel
theorem ek_obj : ∀ r, 1 ≤ r → r ≤ 8 → ek r = none := by
  intro r h1 h2
  match r, h1, h2 with
  | 1, _, _ => rfl
  | 2, _, _ => rfl
  | 3, _, _ => rfl
  | 4, _, _ => rfl
  | 5, _, _ => rfl
  | 6, _, _ => rfl
  | 7, _, _ => rfl
  | 8, _, _ => rfl
theorem tk_obj {r : Nat} (h1 : 1 ≤ r) (h2 : r ≤ 8) (k : Nat) : tk r k = fk r k := by
  unfold tk; rw [ek_obj r h1 h2]
theorem TT_own : ∀ c, c < 8 → ∀ k, k < NN c → (TT c k).1 = cn c := by decide +kernel
theorem vF_ok : ∀ q ∈ vF, 1 ≤ q.2.1 ∧ q.2.1 ≤ 8 ∧ q.2.2 < NN (q.2.1 - 1) := by decide +kernel
theorem vY_all : ∀ c, c < 8 → ∀ k, k < NN c → (c, k) ∈ vY := by decide +kernel
theorem u_ws_gw {c : Nat} (hc : c < 8) : ∀ w ∈ u_ws (cn c) (TT c) (NN c), w ∈ gw := by
  intro w hw
  obtain ⟨k, hk, rfl⟩ := List.mem_map.mp hw
  exact gw_Y (vY_all c hc k (List.mem_range.mp hk))
theorem fo_fits (ρ : AM) {e : Nat} {ty : FieldType} {v : AV} (h : fo e ty = true) (hf : fc e v = true) : narrow ty (cv ρ v) = cv ρ v ∧ fits ty (cv ρ v) = true := by
  rcases v with x | x | ⟨t, o⟩
  · simp only [fc, Bool.or_eq_true, Bool.and_eq_true, beq_iff_eq] at hf
    rcases hf with (hf | hf) | hf
    · subst hf
      cases ty <;> simp [fo] at h
      exact ⟨rfl, rfl⟩
    · rw [hf.1] at h
      cases ty <;> simp [fo] at h
      rcases hf.2 with hx | hx <;> subst hx <;> exact ⟨rfl, rfl⟩
    · rw [hf.1] at h
      cases ty <;> simp [fo] at h
  · simp only [fc, beq_iff_eq] at hf
    subst hf
    cases ty <;> simp [fo] at h
    exact ⟨rfl, rfl⟩
  · obtain ⟨u, rfl⟩ : ∃ u, e = u + 4 := by
      simp only [fc, Bool.or_eq_true, Bool.and_eq_true, beq_iff_eq, decide_eq_true_eq] at hf
      rcases hf with hf | hf
      · exact ⟨e - 4, by omega⟩
      · exact ⟨t, hf⟩
    cases ty <;> simp [fo] at h <;> cases o <;> exact ⟨rfl, rfl⟩
theorem fo_zero (ρ : AM) {e : Nat} {ty : FieldType} (h : fo e ty = true) : defaultValue ty = cv ρ (za e) := by
  match e with
  | 0 => cases ty <;> simp [fo] at h <;> rfl
  | 1 => cases ty <;> simp [fo] at h <;> rfl
  | 2 => cases ty <;> simp [fo] at h
  | 3 => cases ty <;> simp [fo] at h <;> rfl
  | t + 4 => cases ty <;> simp [fo] at h <;> rfl
