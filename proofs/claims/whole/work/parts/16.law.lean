/-! printed by wip/gen/eqs.py -/
/-! L_law: 169 -/
theorem d169_0 : decode (mt 169).2.1 0 = .ok (.new 7, 3) := by decide +kernel
theorem s169_0 {ls : LV} {st : List AV} {m : MM} : go 169 0 ls st m = go 169 3 ls (.inr (.inr (7, some (mC m 7))) :: st) (al m 7 0 9) := e_1 d169_0 (Or.inl rfl) (by rw [xi, show lk nwL (mt 169).2.2.1 7 = some 7 by decide +kernel]; rfl)
theorem d169_3 : decode (mt 169).2.1 3 = .ok (.dup, 1) := by decide +kernel
theorem s169_3 {ls : LV} {st : List AV} {m : MM} {x : Nat × Option Nat} : go 169 3 ls (.inr (.inr x) :: st) m = go 169 4 ls (.inr (.inr x) :: .inr (.inr x) :: st) m := e_1 d169_3 (Or.inl rfl) rfl
theorem d169_4 : decode (mt 169).2.1 4 = .ok (.invokespecial 9, 3) := by decide +kernel
theorem s169_4 {ls : LV} {m : MM} {w0 : AV} {n : Nat} : go 169 4 ls [.inr (.inr (7, some n)), w0] m = bd (go 37 0 [some (.inr (.inr (7, some n)))] [] m) (fun v m2 => go 169 7 ls (v.toList ++ [w0]) m2) := e_spec (y1 := 37) (na := 0) (as := []) (rest := [w0]) d169_4 (by decide +kernel) rfl (by decide +kernel) (show (ent [.inr (.inr (7, some n))]).length ≤ (mt 37).2.2.2.1 from Nat.le_of_ble_eq_true rfl) (cats_le (Nat.le_of_ble_eq_true rfl)) (by decide +kernel)
theorem d169_7 : decode (mt 169).2.1 7 = .ok (.astore_n 1, 1) := by decide +kernel
theorem s169_7i {a1 a2 a3 : Option AV} {z : Int32} {st : List AV} {m : MM} {x : Nat × Option Nat} : go 169 7 [some (.inl z), a1, a2, a3] (.inr (.inr x) :: st) m = go 169 8 [some (.inl z), some (.inr (.inr x)), a2, a3] st m := e_1 d169_7 (Or.inl rfl) rfl
theorem s169_7r {a1 a2 a3 : Option AV} {z : Nat × Option Nat} {st : List AV} {m : MM} {x : Nat × Option Nat} : go 169 7 [some (.inr (.inr z)), a1, a2, a3] (.inr (.inr x) :: st) m = go 169 8 [some (.inr (.inr z)), some (.inr (.inr x)), a2, a3] st m := e_1 d169_7 (Or.inl rfl) rfl
theorem s169_7n {a1 a2 a3 : Option AV} {st : List AV} {m : MM} {x : Nat × Option Nat} : go 169 7 [none, a1, a2, a3] (.inr (.inr x) :: st) m = go 169 8 [none, some (.inr (.inr x)), a2, a3] st m := e_1 d169_7 (Or.inl rfl) rfl
theorem d169_8 : decode (mt 169).2.1 8 = .ok (.new 10, 3) := by decide +kernel
theorem s169_8 {ls : LV} {st : List AV} {m : MM} : go 169 8 ls st m = go 169 11 ls (.inr (.inr (8, some (mC m 8))) :: st) (al m 8 0 48) := e_1 d169_8 (Or.inl rfl) (by rw [xi, show lk nwL (mt 169).2.2.1 10 = some 8 by decide +kernel]; rfl)
theorem d169_11 : decode (mt 169).2.1 11 = .ok (.dup, 1) := by decide +kernel
theorem s169_11 {ls : LV} {st : List AV} {m : MM} {x : Nat × Option Nat} : go 169 11 ls (.inr (.inr x) :: st) m = go 169 12 ls (.inr (.inr x) :: .inr (.inr x) :: st) m := e_1 d169_11 (Or.inl rfl) rfl
theorem d169_12 : decode (mt 169).2.1 12 = .ok (.invokespecial 12, 3) := by decide +kernel
theorem s169_12 {ls : LV} {m : MM} {w0 : AV} {n : Nat} : go 169 12 ls [.inr (.inr (8, some n)), w0] m = bd (go 102 0 [some (.inr (.inr (8, some n)))] [] m) (fun v m2 => go 169 15 ls (v.toList ++ [w0]) m2) := e_spec (y1 := 102) (na := 0) (as := []) (rest := [w0]) d169_12 (by decide +kernel) rfl (by decide +kernel) (show (ent [.inr (.inr (8, some n))]).length ≤ (mt 102).2.2.2.1 from Nat.le_of_ble_eq_true rfl) (cats_le (Nat.le_of_ble_eq_true rfl)) (by decide +kernel)
theorem d169_15 : decode (mt 169).2.1 15 = .ok (.astore_n 2, 1) := by decide +kernel
theorem s169_15i {a0 a2 a3 : Option AV} {z : Int32} {st : List AV} {m : MM} {x : Nat × Option Nat} : go 169 15 [a0, some (.inl z), a2, a3] (.inr (.inr x) :: st) m = go 169 16 [a0, some (.inl z), some (.inr (.inr x)), a3] st m := e_1 d169_15 (Or.inl rfl) rfl
theorem s169_15r {a0 a2 a3 : Option AV} {z : Nat × Option Nat} {st : List AV} {m : MM} {x : Nat × Option Nat} : go 169 15 [a0, some (.inr (.inr z)), a2, a3] (.inr (.inr x) :: st) m = go 169 16 [a0, some (.inr (.inr z)), some (.inr (.inr x)), a3] st m := e_1 d169_15 (Or.inl rfl) rfl
theorem s169_15n {a0 a2 a3 : Option AV} {st : List AV} {m : MM} {x : Nat × Option Nat} : go 169 15 [a0, none, a2, a3] (.inr (.inr x) :: st) m = go 169 16 [a0, none, some (.inr (.inr x)), a3] st m := e_1 d169_15 (Or.inl rfl) rfl
theorem d169_16 : decode (mt 169).2.1 16 = .ok (.iconst 0, 1) := by decide +kernel
theorem s169_16 {ls : LV} {st : List AV} {m : MM} : go 169 16 ls st m = go 169 17 ls (.inl 0 :: st) m := e_1 d169_16 (Or.inl rfl) rfl
theorem d169_17 : decode (mt 169).2.1 17 = .ok (.istore_n 3, 1) := by decide +kernel
theorem s169_17i {a0 a1 a3 : Option AV} {z : Int32} {st : List AV} {m : MM} {x : Int32} : go 169 17 [a0, a1, some (.inl z), a3] (.inl x :: st) m = go 169 18 [a0, a1, some (.inl z), some (.inl x)] st m := e_1 d169_17 (Or.inl rfl) rfl
theorem s169_17r {a0 a1 a3 : Option AV} {z : Nat × Option Nat} {st : List AV} {m : MM} {x : Int32} : go 169 17 [a0, a1, some (.inr (.inr z)), a3] (.inl x :: st) m = go 169 18 [a0, a1, some (.inr (.inr z)), some (.inl x)] st m := e_1 d169_17 (Or.inl rfl) rfl
theorem s169_17n {a0 a1 a3 : Option AV} {st : List AV} {m : MM} {x : Int32} : go 169 17 [a0, a1, none, a3] (.inl x :: st) m = go 169 18 [a0, a1, none, some (.inl x)] st m := e_1 d169_17 (Or.inl rfl) rfl
theorem d169_18 : decode (mt 169).2.1 18 = .ok (.iload_n 3, 1) := by decide +kernel
theorem s169_18 {a0 a1 a2 : Option AV} {st : List AV} {m : MM} {x : Int32} : go 169 18 [a0, a1, a2, some (.inl x)] st m = go 169 19 [a0, a1, a2, some (.inl x)] (.inl x :: st) m := e_1 d169_18 (Or.inl rfl) rfl
theorem d169_19 : decode (mt 169).2.1 19 = .ok (.aload_n 0, 1) := by decide +kernel
theorem s169_19 {a1 a2 a3 : Option AV} {st : List AV} {m : MM} {x : Nat × Option Nat} : go 169 19 [some (.inr (.inr x)), a1, a2, a3] st m = go 169 20 [some (.inr (.inr x)), a1, a2, a3] (.inr (.inr x) :: st) m := e_1 d169_19 (Or.inl rfl) rfl
theorem d169_20 : decode (mt 169).2.1 20 = .ok (.arraylength, 1) := by decide +kernel
theorem s169_20 {ls : LV} {st : List AV} {m : MM} {n : Nat} : go 169 20 ls (.inr (.inr (0, some n)) :: st) m = go 169 21 ls (.inl (nI (mN m 0 n)) :: st) m := e_1 d169_20 (Or.inl rfl) rfl
theorem d169_21 : decode (mt 169).2.1 21 = .ok (.iconst 5, 1) := by decide +kernel
theorem s169_21 {ls : LV} {st : List AV} {m : MM} : go 169 21 ls st m = go 169 22 ls (.inl 5 :: st) m := e_1 d169_21 (Or.inl rfl) rfl
theorem d169_22 : decode (mt 169).2.1 22 = .ok (.isub, 1) := by decide +kernel
theorem s169_22 {ls : LV} {st : List AV} {m : MM} {a b : Int32} : go 169 22 ls (.inl b :: .inl a :: st) m = go 169 23 ls (.inl (a - b) :: st) m := e_1 d169_22 (Or.inl rfl) rfl
theorem d169_23 : decode (mt 169).2.1 23 = .ok (.if_icmp .gt 1046, 3) := by decide +kernel
theorem s169_23 {ls : LV} {st : List AV} {m : MM} {a b : Int32} : go 169 23 ls (.inl b :: .inl a :: st) m = if b < a then go 169 1069 ls st m else go 169 26 ls st m := e_if (t := 1069) (b := hc .gt a b) d169_23 (Or.inl rfl) (by simp only [xi, pI, jm_some (t := 1069) (show ((23 : Nat) : Int) + 1046 = ((1069 : Nat) : Int) by decide), Option.bind_some]) (by simp [hc])
theorem d169_26 : decode (mt 169).2.1 26 = .ok (.aload_n 0, 1) := by decide +kernel
theorem s169_26 {a1 a2 a3 : Option AV} {st : List AV} {m : MM} {x : Nat × Option Nat} : go 169 26 [some (.inr (.inr x)), a1, a2, a3] st m = go 169 27 [some (.inr (.inr x)), a1, a2, a3] (.inr (.inr x) :: st) m := e_1 d169_26 (Or.inl rfl) rfl
theorem d169_27 : decode (mt 169).2.1 27 = .ok (.iload_n 3, 1) := by decide +kernel
theorem s169_27 {a0 a1 a2 : Option AV} {st : List AV} {m : MM} {x : Int32} : go 169 27 [a0, a1, a2, some (.inl x)] st m = go 169 28 [a0, a1, a2, some (.inl x)] (.inl x :: st) m := e_1 d169_27 (Or.inl rfl) rfl
theorem d169_28 : decode (mt 169).2.1 28 = .ok (.iaload, 1) := by decide +kernel
theorem s169_28 {ls : LV} {st : List AV} {m : MM} {n : Nat} {i : Int32} : go 169 28 ls (.inl i :: .inr (.inr (0, some n)) :: st) m = ixk (ix i (mN m 0 n)) (fun j => go 169 29 ls (.inl (mI m 0 n j) :: st) m) := e_ald d169_28 (fun j hj => by simp only [xi, pI, pA, hj, Option.bind_some]; rfl) (fun hj => by simp only [xi, pI, pA, hj, Option.bind_none])
theorem d169_29 : decode (mt 169).2.1 29 = .ok (.bipush 31, 2) := by decide +kernel
theorem s169_29 {ls : LV} {st : List AV} {m : MM} : go 169 29 ls st m = go 169 31 ls (.inl 31 :: st) m := e_1 d169_29 (Or.inl rfl) rfl
theorem d169_31 : decode (mt 169).2.1 31 = .ok (.iand, 1) := by decide +kernel
theorem s169_31 {ls : LV} {st : List AV} {m : MM} {a b : Int32} : go 169 31 ls (.inl b :: .inl a :: st) m = go 169 32 ls (.inl (a &&& b) :: st) m := e_1 d169_31 (Or.inl rfl) rfl
theorem d169_32 : decode (mt 169).2.1 32 = .ok (.tableswitch 1031 0 28 #[132, 165, 188, 211, 244, 267, 300, 333, 376, 419, 492, 525, 558, 591, 624, 648, 671, 694, 727, 760, 783, 826, 859, 893, 916, 959, 972, 995, 1008], 132) := by decide +kernel
theorem s169_32_0 {ls : LV} {st : List AV} {m : MM} : go 169 32 ls (.inl 0 :: st) m = go 169 164 ls st m := e_1 d169_32 (Or.inr rfl) (by rw [xi]; rfl)
theorem s169_32_1 {ls : LV} {st : List AV} {m : MM} : go 169 32 ls (.inl 1 :: st) m = go 169 197 ls st m := e_1 d169_32 (Or.inr rfl) (by rw [xi]; rfl)
theorem s169_32_2 {ls : LV} {st : List AV} {m : MM} : go 169 32 ls (.inl 2 :: st) m = go 169 220 ls st m := e_1 d169_32 (Or.inr rfl) (by rw [xi]; rfl)
theorem s169_32_3 {ls : LV} {st : List AV} {m : MM} : go 169 32 ls (.inl 3 :: st) m = go 169 243 ls st m := e_1 d169_32 (Or.inr rfl) (by rw [xi]; rfl)
theorem s169_32_4 {ls : LV} {st : List AV} {m : MM} : go 169 32 ls (.inl 4 :: st) m = go 169 276 ls st m := e_1 d169_32 (Or.inr rfl) (by rw [xi]; rfl)
theorem s169_32_5 {ls : LV} {st : List AV} {m : MM} : go 169 32 ls (.inl 5 :: st) m = go 169 299 ls st m := e_1 d169_32 (Or.inr rfl) (by rw [xi]; rfl)
theorem s169_32_6 {ls : LV} {st : List AV} {m : MM} : go 169 32 ls (.inl 6 :: st) m = go 169 332 ls st m := e_1 d169_32 (Or.inr rfl) (by rw [xi]; rfl)
theorem s169_32_7 {ls : LV} {st : List AV} {m : MM} : go 169 32 ls (.inl 7 :: st) m = go 169 365 ls st m := e_1 d169_32 (Or.inr rfl) (by rw [xi]; rfl)
theorem s169_32_8 {ls : LV} {st : List AV} {m : MM} : go 169 32 ls (.inl 8 :: st) m = go 169 408 ls st m := e_1 d169_32 (Or.inr rfl) (by rw [xi]; rfl)
theorem s169_32_9 {ls : LV} {st : List AV} {m : MM} : go 169 32 ls (.inl 9 :: st) m = go 169 451 ls st m := e_1 d169_32 (Or.inr rfl) (by rw [xi]; rfl)
theorem s169_32_10 {ls : LV} {st : List AV} {m : MM} : go 169 32 ls (.inl 10 :: st) m = go 169 524 ls st m := e_1 d169_32 (Or.inr rfl) (by rw [xi]; rfl)
theorem s169_32_11 {ls : LV} {st : List AV} {m : MM} : go 169 32 ls (.inl 11 :: st) m = go 169 557 ls st m := e_1 d169_32 (Or.inr rfl) (by rw [xi]; rfl)
theorem s169_32_12 {ls : LV} {st : List AV} {m : MM} : go 169 32 ls (.inl 12 :: st) m = go 169 590 ls st m := e_1 d169_32 (Or.inr rfl) (by rw [xi]; rfl)
theorem s169_32_13 {ls : LV} {st : List AV} {m : MM} : go 169 32 ls (.inl 13 :: st) m = go 169 623 ls st m := e_1 d169_32 (Or.inr rfl) (by rw [xi]; rfl)
theorem s169_32_14 {ls : LV} {st : List AV} {m : MM} : go 169 32 ls (.inl 14 :: st) m = go 169 656 ls st m := e_1 d169_32 (Or.inr rfl) (by rw [xi]; rfl)
theorem s169_32_15 {ls : LV} {st : List AV} {m : MM} : go 169 32 ls (.inl 15 :: st) m = go 169 680 ls st m := e_1 d169_32 (Or.inr rfl) (by rw [xi]; rfl)
theorem s169_32_16 {ls : LV} {st : List AV} {m : MM} : go 169 32 ls (.inl 16 :: st) m = go 169 703 ls st m := e_1 d169_32 (Or.inr rfl) (by rw [xi]; rfl)
theorem s169_32_17 {ls : LV} {st : List AV} {m : MM} : go 169 32 ls (.inl 17 :: st) m = go 169 726 ls st m := e_1 d169_32 (Or.inr rfl) (by rw [xi]; rfl)
theorem s169_32_18 {ls : LV} {st : List AV} {m : MM} : go 169 32 ls (.inl 18 :: st) m = go 169 759 ls st m := e_1 d169_32 (Or.inr rfl) (by rw [xi]; rfl)
theorem s169_32_19 {ls : LV} {st : List AV} {m : MM} : go 169 32 ls (.inl 19 :: st) m = go 169 792 ls st m := e_1 d169_32 (Or.inr rfl) (by rw [xi]; rfl)
theorem s169_32_20 {ls : LV} {st : List AV} {m : MM} : go 169 32 ls (.inl 20 :: st) m = go 169 815 ls st m := e_1 d169_32 (Or.inr rfl) (by rw [xi]; rfl)
theorem s169_32_21 {ls : LV} {st : List AV} {m : MM} : go 169 32 ls (.inl 21 :: st) m = go 169 858 ls st m := e_1 d169_32 (Or.inr rfl) (by rw [xi]; rfl)
theorem s169_32_22 {ls : LV} {st : List AV} {m : MM} : go 169 32 ls (.inl 22 :: st) m = go 169 891 ls st m := e_1 d169_32 (Or.inr rfl) (by rw [xi]; rfl)
theorem s169_32_23 {ls : LV} {st : List AV} {m : MM} : go 169 32 ls (.inl 23 :: st) m = go 169 925 ls st m := e_1 d169_32 (Or.inr rfl) (by rw [xi]; rfl)
theorem s169_32_24 {ls : LV} {st : List AV} {m : MM} : go 169 32 ls (.inl 24 :: st) m = go 169 948 ls st m := e_1 d169_32 (Or.inr rfl) (by rw [xi]; rfl)
theorem s169_32_25 {ls : LV} {st : List AV} {m : MM} : go 169 32 ls (.inl 25 :: st) m = go 169 991 ls st m := e_1 d169_32 (Or.inr rfl) (by rw [xi]; rfl)
theorem s169_32_26 {ls : LV} {st : List AV} {m : MM} : go 169 32 ls (.inl 26 :: st) m = go 169 1004 ls st m := e_1 d169_32 (Or.inr rfl) (by rw [xi]; rfl)
theorem s169_32_27 {ls : LV} {st : List AV} {m : MM} : go 169 32 ls (.inl 27 :: st) m = go 169 1027 ls st m := e_1 d169_32 (Or.inr rfl) (by rw [xi]; rfl)
theorem s169_32_28 {ls : LV} {st : List AV} {m : MM} : go 169 32 ls (.inl 28 :: st) m = go 169 1040 ls st m := e_1 d169_32 (Or.inr rfl) (by rw [xi]; rfl)
theorem s169_32_d {ls : LV} {st : List AV} {m : MM} {a : Int32} (h : a.toInt < 0 ∨ 28 < a.toInt) : go 169 32 ls (.inl a :: st) m = go 169 1063 ls st m := e_1 d169_32 (Or.inr rfl) (by simp only [xi, pI, if_pos h, jm_some (t := 1063) (show ((32 : Nat) : Int) + 1031 = ((1063 : Nat) : Int) by decide), Option.bind_some]; rw [if_pos (by omega)])
theorem d169_164 : decode (mt 169).2.1 164 = .ok (.aload_n 1, 1) := by decide +kernel
theorem s169_164 {a0 a2 a3 : Option AV} {st : List AV} {m : MM} {x : Nat × Option Nat} : go 169 164 [a0, some (.inr (.inr x)), a2, a3] st m = go 169 165 [a0, some (.inr (.inr x)), a2, a3] (.inr (.inr x) :: st) m := e_1 d169_164 (Or.inl rfl) rfl
theorem d169_165 : decode (mt 169).2.1 165 = .ok (.aload_n 0, 1) := by decide +kernel
theorem s169_165 {a1 a2 a3 : Option AV} {st : List AV} {m : MM} {x : Nat × Option Nat} : go 169 165 [some (.inr (.inr x)), a1, a2, a3] st m = go 169 166 [some (.inr (.inr x)), a1, a2, a3] (.inr (.inr x) :: st) m := e_1 d169_165 (Or.inl rfl) rfl
theorem d169_166 : decode (mt 169).2.1 166 = .ok (.iload_n 3, 1) := by decide +kernel
theorem s169_166 {a0 a1 a2 : Option AV} {st : List AV} {m : MM} {x : Int32} : go 169 166 [a0, a1, a2, some (.inl x)] st m = go 169 167 [a0, a1, a2, some (.inl x)] (.inl x :: st) m := e_1 d169_166 (Or.inl rfl) rfl
theorem d169_167 : decode (mt 169).2.1 167 = .ok (.iconst 1, 1) := by decide +kernel
theorem s169_167 {ls : LV} {st : List AV} {m : MM} : go 169 167 ls st m = go 169 168 ls (.inl 1 :: st) m := e_1 d169_167 (Or.inl rfl) rfl
theorem d169_168 : decode (mt 169).2.1 168 = .ok (.iadd, 1) := by decide +kernel
theorem s169_168 {ls : LV} {st : List AV} {m : MM} {a b : Int32} : go 169 168 ls (.inl b :: .inl a :: st) m = go 169 169 ls (.inl (a + b) :: st) m := e_1 d169_168 (Or.inl rfl) rfl
theorem d169_169 : decode (mt 169).2.1 169 = .ok (.iaload, 1) := by decide +kernel
theorem s169_169 {ls : LV} {st : List AV} {m : MM} {n : Nat} {i : Int32} : go 169 169 ls (.inl i :: .inr (.inr (0, some n)) :: st) m = ixk (ix i (mN m 0 n)) (fun j => go 169 170 ls (.inl (mI m 0 n j) :: st) m) := e_ald d169_169 (fun j hj => by simp only [xi, pI, pA, hj, Option.bind_some]; rfl) (fun hj => by simp only [xi, pI, pA, hj, Option.bind_none])
theorem d169_170 : decode (mt 169).2.1 170 = .ok (.aload_n 0, 1) := by decide +kernel
theorem s169_170 {a1 a2 a3 : Option AV} {st : List AV} {m : MM} {x : Nat × Option Nat} : go 169 170 [some (.inr (.inr x)), a1, a2, a3] st m = go 169 171 [some (.inr (.inr x)), a1, a2, a3] (.inr (.inr x) :: st) m := e_1 d169_170 (Or.inl rfl) rfl
theorem d169_171 : decode (mt 169).2.1 171 = .ok (.iload_n 3, 1) := by decide +kernel
theorem s169_171 {a0 a1 a2 : Option AV} {st : List AV} {m : MM} {x : Int32} : go 169 171 [a0, a1, a2, some (.inl x)] st m = go 169 172 [a0, a1, a2, some (.inl x)] (.inl x :: st) m := e_1 d169_171 (Or.inl rfl) rfl
theorem d169_172 : decode (mt 169).2.1 172 = .ok (.iconst 2, 1) := by decide +kernel
theorem s169_172 {ls : LV} {st : List AV} {m : MM} : go 169 172 ls st m = go 169 173 ls (.inl 2 :: st) m := e_1 d169_172 (Or.inl rfl) rfl
theorem d169_173 : decode (mt 169).2.1 173 = .ok (.iadd, 1) := by decide +kernel
theorem s169_173 {ls : LV} {st : List AV} {m : MM} {a b : Int32} : go 169 173 ls (.inl b :: .inl a :: st) m = go 169 174 ls (.inl (a + b) :: st) m := e_1 d169_173 (Or.inl rfl) rfl
theorem d169_174 : decode (mt 169).2.1 174 = .ok (.iaload, 1) := by decide +kernel
theorem s169_174 {ls : LV} {st : List AV} {m : MM} {n : Nat} {i : Int32} : go 169 174 ls (.inl i :: .inr (.inr (0, some n)) :: st) m = ixk (ix i (mN m 0 n)) (fun j => go 169 175 ls (.inl (mI m 0 n j) :: st) m) := e_ald d169_174 (fun j hj => by simp only [xi, pI, pA, hj, Option.bind_some]; rfl) (fun hj => by simp only [xi, pI, pA, hj, Option.bind_none])
theorem d169_175 : decode (mt 169).2.1 175 = .ok (.invokevirtual 13, 3) := by decide +kernel
theorem s169_175 {ls : LV} {m : MM} {x0 : Int32} {x1 : Int32} {n : Nat} : go 169 175 ls [.inl x1, .inl x0, .inr (.inr (7, some n))] m = bd (go 38 0 [some (.inr (.inr (7, some n))), some (.inl x0), some (.inl x1)] [] m) (fun v m2 => go 169 178 ls (v.toList ++ []) m2) := e_virt (y1 := 38) (na := 2) (as := [.inl x0, .inl x1]) (rest := []) d169_175 (by decide +kernel) rfl (by decide +kernel) (show (ent [.inr (.inr (7, some n)), .inl x0, .inl x1]).length ≤ (mt 38).2.2.2.1 from Nat.le_of_ble_eq_true rfl) (cats_le (Nat.le_of_ble_eq_true rfl)) (by decide +kernel)
theorem d169_178 : decode (mt 169).2.1 178 = .ok (.aload_n 2, 1) := by decide +kernel
theorem s169_178 {a0 a1 a3 : Option AV} {st : List AV} {m : MM} {x : Nat × Option Nat} : go 169 178 [a0, a1, some (.inr (.inr x)), a3] st m = go 169 179 [a0, a1, some (.inr (.inr x)), a3] (.inr (.inr x) :: st) m := e_1 d169_178 (Or.inl rfl) rfl
theorem d169_179 : decode (mt 169).2.1 179 = .ok (.aload_n 0, 1) := by decide +kernel
theorem s169_179 {a1 a2 a3 : Option AV} {st : List AV} {m : MM} {x : Nat × Option Nat} : go 169 179 [some (.inr (.inr x)), a1, a2, a3] st m = go 169 180 [some (.inr (.inr x)), a1, a2, a3] (.inr (.inr x) :: st) m := e_1 d169_179 (Or.inl rfl) rfl
theorem d169_180 : decode (mt 169).2.1 180 = .ok (.iload_n 3, 1) := by decide +kernel
theorem s169_180 {a0 a1 a2 : Option AV} {st : List AV} {m : MM} {x : Int32} : go 169 180 [a0, a1, a2, some (.inl x)] st m = go 169 181 [a0, a1, a2, some (.inl x)] (.inl x :: st) m := e_1 d169_180 (Or.inl rfl) rfl
theorem d169_181 : decode (mt 169).2.1 181 = .ok (.iconst 1, 1) := by decide +kernel
theorem s169_181 {ls : LV} {st : List AV} {m : MM} : go 169 181 ls st m = go 169 182 ls (.inl 1 :: st) m := e_1 d169_181 (Or.inl rfl) rfl
theorem d169_182 : decode (mt 169).2.1 182 = .ok (.iadd, 1) := by decide +kernel
theorem s169_182 {ls : LV} {st : List AV} {m : MM} {a b : Int32} : go 169 182 ls (.inl b :: .inl a :: st) m = go 169 183 ls (.inl (a + b) :: st) m := e_1 d169_182 (Or.inl rfl) rfl
theorem d169_183 : decode (mt 169).2.1 183 = .ok (.iaload, 1) := by decide +kernel
theorem s169_183 {ls : LV} {st : List AV} {m : MM} {n : Nat} {i : Int32} : go 169 183 ls (.inl i :: .inr (.inr (0, some n)) :: st) m = ixk (ix i (mN m 0 n)) (fun j => go 169 184 ls (.inl (mI m 0 n j) :: st) m) := e_ald d169_183 (fun j hj => by simp only [xi, pI, pA, hj, Option.bind_some]; rfl) (fun hj => by simp only [xi, pI, pA, hj, Option.bind_none])
theorem d169_184 : decode (mt 169).2.1 184 = .ok (.aload_n 0, 1) := by decide +kernel
theorem s169_184 {a1 a2 a3 : Option AV} {st : List AV} {m : MM} {x : Nat × Option Nat} : go 169 184 [some (.inr (.inr x)), a1, a2, a3] st m = go 169 185 [some (.inr (.inr x)), a1, a2, a3] (.inr (.inr x) :: st) m := e_1 d169_184 (Or.inl rfl) rfl
theorem d169_185 : decode (mt 169).2.1 185 = .ok (.iload_n 3, 1) := by decide +kernel
theorem s169_185 {a0 a1 a2 : Option AV} {st : List AV} {m : MM} {x : Int32} : go 169 185 [a0, a1, a2, some (.inl x)] st m = go 169 186 [a0, a1, a2, some (.inl x)] (.inl x :: st) m := e_1 d169_185 (Or.inl rfl) rfl
theorem d169_186 : decode (mt 169).2.1 186 = .ok (.iconst 2, 1) := by decide +kernel
theorem s169_186 {ls : LV} {st : List AV} {m : MM} : go 169 186 ls st m = go 169 187 ls (.inl 2 :: st) m := e_1 d169_186 (Or.inl rfl) rfl
theorem d169_187 : decode (mt 169).2.1 187 = .ok (.iadd, 1) := by decide +kernel
theorem s169_187 {ls : LV} {st : List AV} {m : MM} {a b : Int32} : go 169 187 ls (.inl b :: .inl a :: st) m = go 169 188 ls (.inl (a + b) :: st) m := e_1 d169_187 (Or.inl rfl) rfl
theorem d169_188 : decode (mt 169).2.1 188 = .ok (.iaload, 1) := by decide +kernel
theorem s169_188 {ls : LV} {st : List AV} {m : MM} {n : Nat} {i : Int32} : go 169 188 ls (.inl i :: .inr (.inr (0, some n)) :: st) m = ixk (ix i (mN m 0 n)) (fun j => go 169 189 ls (.inl (mI m 0 n j) :: st) m) := e_ald d169_188 (fun j hj => by simp only [xi, pI, pA, hj, Option.bind_some]; rfl) (fun hj => by simp only [xi, pI, pA, hj, Option.bind_none])
theorem d169_189 : decode (mt 169).2.1 189 = .ok (.invokevirtual 17, 3) := by decide +kernel
theorem s169_189 {ls : LV} {m : MM} {x0 : Int32} {x1 : Int32} {w0 : AV} {n : Nat} : go 169 189 ls [.inl x1, .inl x0, .inr (.inr (8, some n)), w0] m = bd (go 109 0 [some (.inr (.inr (8, some n))), some (.inl x0), some (.inl x1)] [] m) (fun v m2 => go 169 192 ls (v.toList ++ [w0]) m2) := e_virt (y1 := 109) (na := 2) (as := [.inl x0, .inl x1]) (rest := [w0]) d169_189 (by decide +kernel) rfl (by decide +kernel) (show (ent [.inr (.inr (8, some n)), .inl x0, .inl x1]).length ≤ (mt 109).2.2.2.1 from Nat.le_of_ble_eq_true rfl) (cats_le (Nat.le_of_ble_eq_true rfl)) (by decide +kernel)
theorem d169_192 : decode (mt 169).2.1 192 = .ok (.if_icmp .eq 871, 3) := by decide +kernel
theorem s169_192 {ls : LV} {st : List AV} {m : MM} {a b : Int32} : go 169 192 ls (.inl b :: .inl a :: st) m = if a = b then go 169 1063 ls st m else go 169 195 ls st m := e_if (t := 1063) (b := hc .eq a b) d169_192 (Or.inl rfl) (by simp only [xi, pI, jm_some (t := 1063) (show ((192 : Nat) : Int) + 871 = ((1063 : Nat) : Int) by decide), Option.bind_some]) (by simp [hc])
theorem d169_195 : decode (mt 169).2.1 195 = .ok (.iconst 0, 1) := by decide +kernel
theorem s169_195 {ls : LV} {st : List AV} {m : MM} : go 169 195 ls st m = go 169 196 ls (.inl 0 :: st) m := e_1 d169_195 (Or.inl rfl) rfl
theorem d169_196 : decode (mt 169).2.1 196 = .ok (.ireturn, 1) := by decide +kernel
theorem s169_196b0 {ls : LV} {m : MM} : go 169 196 ls [.inl 0] m = some (some (.inl 0), m) := e_bool d169_196 (by decide +kernel) (by decide)
theorem s169_196b1 {ls : LV} {m : MM} : go 169 196 ls [.inl 1] m = some (some (.inl 1), m) := e_bool d169_196 (by decide +kernel) (by decide)
theorem d169_197 : decode (mt 169).2.1 197 = .ok (.aload_n 1, 1) := by decide +kernel
theorem s169_197 {a0 a2 a3 : Option AV} {st : List AV} {m : MM} {x : Nat × Option Nat} : go 169 197 [a0, some (.inr (.inr x)), a2, a3] st m = go 169 198 [a0, some (.inr (.inr x)), a2, a3] (.inr (.inr x) :: st) m := e_1 d169_197 (Or.inl rfl) rfl
theorem d169_198 : decode (mt 169).2.1 198 = .ok (.aload_n 0, 1) := by decide +kernel
theorem s169_198 {a1 a2 a3 : Option AV} {st : List AV} {m : MM} {x : Nat × Option Nat} : go 169 198 [some (.inr (.inr x)), a1, a2, a3] st m = go 169 199 [some (.inr (.inr x)), a1, a2, a3] (.inr (.inr x) :: st) m := e_1 d169_198 (Or.inl rfl) rfl
theorem d169_199 : decode (mt 169).2.1 199 = .ok (.iload_n 3, 1) := by decide +kernel
theorem s169_199 {a0 a1 a2 : Option AV} {st : List AV} {m : MM} {x : Int32} : go 169 199 [a0, a1, a2, some (.inl x)] st m = go 169 200 [a0, a1, a2, some (.inl x)] (.inl x :: st) m := e_1 d169_199 (Or.inl rfl) rfl
theorem d169_200 : decode (mt 169).2.1 200 = .ok (.iconst 1, 1) := by decide +kernel
theorem s169_200 {ls : LV} {st : List AV} {m : MM} : go 169 200 ls st m = go 169 201 ls (.inl 1 :: st) m := e_1 d169_200 (Or.inl rfl) rfl
theorem d169_201 : decode (mt 169).2.1 201 = .ok (.iadd, 1) := by decide +kernel
theorem s169_201 {ls : LV} {st : List AV} {m : MM} {a b : Int32} : go 169 201 ls (.inl b :: .inl a :: st) m = go 169 202 ls (.inl (a + b) :: st) m := e_1 d169_201 (Or.inl rfl) rfl
theorem d169_202 : decode (mt 169).2.1 202 = .ok (.iaload, 1) := by decide +kernel
theorem s169_202 {ls : LV} {st : List AV} {m : MM} {n : Nat} {i : Int32} : go 169 202 ls (.inl i :: .inr (.inr (0, some n)) :: st) m = ixk (ix i (mN m 0 n)) (fun j => go 169 203 ls (.inl (mI m 0 n j) :: st) m) := e_ald d169_202 (fun j hj => by simp only [xi, pI, pA, hj, Option.bind_some]; rfl) (fun hj => by simp only [xi, pI, pA, hj, Option.bind_none])
theorem d169_203 : decode (mt 169).2.1 203 = .ok (.invokevirtual 18, 3) := by decide +kernel
theorem s169_203 {ls : LV} {m : MM} {x0 : Int32} {n : Nat} : go 169 203 ls [.inl x0, .inr (.inr (7, some n))] m = bd (go 39 0 [some (.inr (.inr (7, some n))), some (.inl x0), none, none] [] m) (fun v m2 => go 169 206 ls (v.toList ++ []) m2) := e_virt (y1 := 39) (na := 1) (as := [.inl x0]) (rest := []) d169_203 (by decide +kernel) rfl (by decide +kernel) (show (ent [.inr (.inr (7, some n)), .inl x0]).length ≤ (mt 39).2.2.2.1 from Nat.le_of_ble_eq_true rfl) (cats_le (Nat.le_of_ble_eq_true rfl)) (by decide +kernel)
theorem d169_206 : decode (mt 169).2.1 206 = .ok (.aload_n 2, 1) := by decide +kernel
theorem s169_206 {a0 a1 a3 : Option AV} {st : List AV} {m : MM} {x : Nat × Option Nat} : go 169 206 [a0, a1, some (.inr (.inr x)), a3] st m = go 169 207 [a0, a1, some (.inr (.inr x)), a3] (.inr (.inr x) :: st) m := e_1 d169_206 (Or.inl rfl) rfl
theorem d169_207 : decode (mt 169).2.1 207 = .ok (.aload_n 0, 1) := by decide +kernel
theorem s169_207 {a1 a2 a3 : Option AV} {st : List AV} {m : MM} {x : Nat × Option Nat} : go 169 207 [some (.inr (.inr x)), a1, a2, a3] st m = go 169 208 [some (.inr (.inr x)), a1, a2, a3] (.inr (.inr x) :: st) m := e_1 d169_207 (Or.inl rfl) rfl
theorem d169_208 : decode (mt 169).2.1 208 = .ok (.iload_n 3, 1) := by decide +kernel
theorem s169_208 {a0 a1 a2 : Option AV} {st : List AV} {m : MM} {x : Int32} : go 169 208 [a0, a1, a2, some (.inl x)] st m = go 169 209 [a0, a1, a2, some (.inl x)] (.inl x :: st) m := e_1 d169_208 (Or.inl rfl) rfl
theorem d169_209 : decode (mt 169).2.1 209 = .ok (.iconst 1, 1) := by decide +kernel
theorem s169_209 {ls : LV} {st : List AV} {m : MM} : go 169 209 ls st m = go 169 210 ls (.inl 1 :: st) m := e_1 d169_209 (Or.inl rfl) rfl
theorem d169_210 : decode (mt 169).2.1 210 = .ok (.iadd, 1) := by decide +kernel
theorem s169_210 {ls : LV} {st : List AV} {m : MM} {a b : Int32} : go 169 210 ls (.inl b :: .inl a :: st) m = go 169 211 ls (.inl (a + b) :: st) m := e_1 d169_210 (Or.inl rfl) rfl
theorem d169_211 : decode (mt 169).2.1 211 = .ok (.iaload, 1) := by decide +kernel
theorem s169_211 {ls : LV} {st : List AV} {m : MM} {n : Nat} {i : Int32} : go 169 211 ls (.inl i :: .inr (.inr (0, some n)) :: st) m = ixk (ix i (mN m 0 n)) (fun j => go 169 212 ls (.inl (mI m 0 n j) :: st) m) := e_ald d169_211 (fun j hj => by simp only [xi, pI, pA, hj, Option.bind_some]; rfl) (fun hj => by simp only [xi, pI, pA, hj, Option.bind_none])
theorem d169_212 : decode (mt 169).2.1 212 = .ok (.invokevirtual 22, 3) := by decide +kernel
theorem s169_212 {ls : LV} {m : MM} {x0 : Int32} {w0 : AV} {n : Nat} : go 169 212 ls [.inl x0, .inr (.inr (8, some n)), w0] m = bd (go 110 0 [some (.inr (.inr (8, some n))), some (.inl x0)] [] m) (fun v m2 => go 169 215 ls (v.toList ++ [w0]) m2) := e_virt (y1 := 110) (na := 1) (as := [.inl x0]) (rest := [w0]) d169_212 (by decide +kernel) rfl (by decide +kernel) (show (ent [.inr (.inr (8, some n)), .inl x0]).length ≤ (mt 110).2.2.2.1 from Nat.le_of_ble_eq_true rfl) (cats_le (Nat.le_of_ble_eq_true rfl)) (by decide +kernel)
theorem d169_215 : decode (mt 169).2.1 215 = .ok (.if_icmp .eq 848, 3) := by decide +kernel
theorem s169_215 {ls : LV} {st : List AV} {m : MM} {a b : Int32} : go 169 215 ls (.inl b :: .inl a :: st) m = if a = b then go 169 1063 ls st m else go 169 218 ls st m := e_if (t := 1063) (b := hc .eq a b) d169_215 (Or.inl rfl) (by simp only [xi, pI, jm_some (t := 1063) (show ((215 : Nat) : Int) + 848 = ((1063 : Nat) : Int) by decide), Option.bind_some]) (by simp [hc])
theorem d169_218 : decode (mt 169).2.1 218 = .ok (.iconst 0, 1) := by decide +kernel
theorem s169_218 {ls : LV} {st : List AV} {m : MM} : go 169 218 ls st m = go 169 219 ls (.inl 0 :: st) m := e_1 d169_218 (Or.inl rfl) rfl
theorem d169_219 : decode (mt 169).2.1 219 = .ok (.ireturn, 1) := by decide +kernel
theorem s169_219b0 {ls : LV} {m : MM} : go 169 219 ls [.inl 0] m = some (some (.inl 0), m) := e_bool d169_219 (by decide +kernel) (by decide)
theorem s169_219b1 {ls : LV} {m : MM} : go 169 219 ls [.inl 1] m = some (some (.inl 1), m) := e_bool d169_219 (by decide +kernel) (by decide)
theorem d169_220 : decode (mt 169).2.1 220 = .ok (.aload_n 1, 1) := by decide +kernel
theorem s169_220 {a0 a2 a3 : Option AV} {st : List AV} {m : MM} {x : Nat × Option Nat} : go 169 220 [a0, some (.inr (.inr x)), a2, a3] st m = go 169 221 [a0, some (.inr (.inr x)), a2, a3] (.inr (.inr x) :: st) m := e_1 d169_220 (Or.inl rfl) rfl
theorem d169_221 : decode (mt 169).2.1 221 = .ok (.aload_n 0, 1) := by decide +kernel
theorem s169_221 {a1 a2 a3 : Option AV} {st : List AV} {m : MM} {x : Nat × Option Nat} : go 169 221 [some (.inr (.inr x)), a1, a2, a3] st m = go 169 222 [some (.inr (.inr x)), a1, a2, a3] (.inr (.inr x) :: st) m := e_1 d169_221 (Or.inl rfl) rfl
theorem d169_222 : decode (mt 169).2.1 222 = .ok (.iload_n 3, 1) := by decide +kernel
theorem s169_222 {a0 a1 a2 : Option AV} {st : List AV} {m : MM} {x : Int32} : go 169 222 [a0, a1, a2, some (.inl x)] st m = go 169 223 [a0, a1, a2, some (.inl x)] (.inl x :: st) m := e_1 d169_222 (Or.inl rfl) rfl
theorem d169_223 : decode (mt 169).2.1 223 = .ok (.iconst 1, 1) := by decide +kernel
theorem s169_223 {ls : LV} {st : List AV} {m : MM} : go 169 223 ls st m = go 169 224 ls (.inl 1 :: st) m := e_1 d169_223 (Or.inl rfl) rfl
theorem d169_224 : decode (mt 169).2.1 224 = .ok (.iadd, 1) := by decide +kernel
theorem s169_224 {ls : LV} {st : List AV} {m : MM} {a b : Int32} : go 169 224 ls (.inl b :: .inl a :: st) m = go 169 225 ls (.inl (a + b) :: st) m := e_1 d169_224 (Or.inl rfl) rfl
theorem d169_225 : decode (mt 169).2.1 225 = .ok (.iaload, 1) := by decide +kernel
theorem s169_225 {ls : LV} {st : List AV} {m : MM} {n : Nat} {i : Int32} : go 169 225 ls (.inl i :: .inr (.inr (0, some n)) :: st) m = ixk (ix i (mN m 0 n)) (fun j => go 169 226 ls (.inl (mI m 0 n j) :: st) m) := e_ald d169_225 (fun j hj => by simp only [xi, pI, pA, hj, Option.bind_some]; rfl) (fun hj => by simp only [xi, pI, pA, hj, Option.bind_none])
theorem d169_226 : decode (mt 169).2.1 226 = .ok (.invokevirtual 23, 3) := by decide +kernel
theorem s169_226 {ls : LV} {m : MM} {x0 : Int32} {n : Nat} : go 169 226 ls [.inl x0, .inr (.inr (7, some n))] m = bd (go 40 0 [some (.inr (.inr (7, some n))), some (.inl x0)] [] m) (fun v m2 => go 169 229 ls (v.toList ++ []) m2) := e_virt (y1 := 40) (na := 1) (as := [.inl x0]) (rest := []) d169_226 (by decide +kernel) rfl (by decide +kernel) (show (ent [.inr (.inr (7, some n)), .inl x0]).length ≤ (mt 40).2.2.2.1 from Nat.le_of_ble_eq_true rfl) (cats_le (Nat.le_of_ble_eq_true rfl)) (by decide +kernel)
theorem d169_229 : decode (mt 169).2.1 229 = .ok (.aload_n 2, 1) := by decide +kernel
theorem s169_229 {a0 a1 a3 : Option AV} {st : List AV} {m : MM} {x : Nat × Option Nat} : go 169 229 [a0, a1, some (.inr (.inr x)), a3] st m = go 169 230 [a0, a1, some (.inr (.inr x)), a3] (.inr (.inr x) :: st) m := e_1 d169_229 (Or.inl rfl) rfl
theorem d169_230 : decode (mt 169).2.1 230 = .ok (.aload_n 0, 1) := by decide +kernel
theorem s169_230 {a1 a2 a3 : Option AV} {st : List AV} {m : MM} {x : Nat × Option Nat} : go 169 230 [some (.inr (.inr x)), a1, a2, a3] st m = go 169 231 [some (.inr (.inr x)), a1, a2, a3] (.inr (.inr x) :: st) m := e_1 d169_230 (Or.inl rfl) rfl
theorem d169_231 : decode (mt 169).2.1 231 = .ok (.iload_n 3, 1) := by decide +kernel
theorem s169_231 {a0 a1 a2 : Option AV} {st : List AV} {m : MM} {x : Int32} : go 169 231 [a0, a1, a2, some (.inl x)] st m = go 169 232 [a0, a1, a2, some (.inl x)] (.inl x :: st) m := e_1 d169_231 (Or.inl rfl) rfl
theorem d169_232 : decode (mt 169).2.1 232 = .ok (.iconst 1, 1) := by decide +kernel
theorem s169_232 {ls : LV} {st : List AV} {m : MM} : go 169 232 ls st m = go 169 233 ls (.inl 1 :: st) m := e_1 d169_232 (Or.inl rfl) rfl
theorem d169_233 : decode (mt 169).2.1 233 = .ok (.iadd, 1) := by decide +kernel
theorem s169_233 {ls : LV} {st : List AV} {m : MM} {a b : Int32} : go 169 233 ls (.inl b :: .inl a :: st) m = go 169 234 ls (.inl (a + b) :: st) m := e_1 d169_233 (Or.inl rfl) rfl
theorem d169_234 : decode (mt 169).2.1 234 = .ok (.iaload, 1) := by decide +kernel
theorem s169_234 {ls : LV} {st : List AV} {m : MM} {n : Nat} {i : Int32} : go 169 234 ls (.inl i :: .inr (.inr (0, some n)) :: st) m = ixk (ix i (mN m 0 n)) (fun j => go 169 235 ls (.inl (mI m 0 n j) :: st) m) := e_ald d169_234 (fun j hj => by simp only [xi, pI, pA, hj, Option.bind_some]; rfl) (fun hj => by simp only [xi, pI, pA, hj, Option.bind_none])
theorem d169_235 : decode (mt 169).2.1 235 = .ok (.invokevirtual 26, 3) := by decide +kernel
theorem s169_235 {ls : LV} {m : MM} {x0 : Int32} {w0 : AV} {n : Nat} : go 169 235 ls [.inl x0, .inr (.inr (8, some n)), w0] m = bd (go 111 0 [some (.inr (.inr (8, some n))), some (.inl x0)] [] m) (fun v m2 => go 169 238 ls (v.toList ++ [w0]) m2) := e_virt (y1 := 111) (na := 1) (as := [.inl x0]) (rest := [w0]) d169_235 (by decide +kernel) rfl (by decide +kernel) (show (ent [.inr (.inr (8, some n)), .inl x0]).length ≤ (mt 111).2.2.2.1 from Nat.le_of_ble_eq_true rfl) (cats_le (Nat.le_of_ble_eq_true rfl)) (by decide +kernel)
theorem d169_238 : decode (mt 169).2.1 238 = .ok (.if_icmp .eq 825, 3) := by decide +kernel
theorem s169_238 {ls : LV} {st : List AV} {m : MM} {a b : Int32} : go 169 238 ls (.inl b :: .inl a :: st) m = if a = b then go 169 1063 ls st m else go 169 241 ls st m := e_if (t := 1063) (b := hc .eq a b) d169_238 (Or.inl rfl) (by simp only [xi, pI, jm_some (t := 1063) (show ((238 : Nat) : Int) + 825 = ((1063 : Nat) : Int) by decide), Option.bind_some]) (by simp [hc])
theorem d169_241 : decode (mt 169).2.1 241 = .ok (.iconst 0, 1) := by decide +kernel
theorem s169_241 {ls : LV} {st : List AV} {m : MM} : go 169 241 ls st m = go 169 242 ls (.inl 0 :: st) m := e_1 d169_241 (Or.inl rfl) rfl
theorem d169_242 : decode (mt 169).2.1 242 = .ok (.ireturn, 1) := by decide +kernel
theorem s169_242b0 {ls : LV} {m : MM} : go 169 242 ls [.inl 0] m = some (some (.inl 0), m) := e_bool d169_242 (by decide +kernel) (by decide)
theorem s169_242b1 {ls : LV} {m : MM} : go 169 242 ls [.inl 1] m = some (some (.inl 1), m) := e_bool d169_242 (by decide +kernel) (by decide)
theorem d169_243 : decode (mt 169).2.1 243 = .ok (.aload_n 1, 1) := by decide +kernel
theorem s169_243 {a0 a2 a3 : Option AV} {st : List AV} {m : MM} {x : Nat × Option Nat} : go 169 243 [a0, some (.inr (.inr x)), a2, a3] st m = go 169 244 [a0, some (.inr (.inr x)), a2, a3] (.inr (.inr x) :: st) m := e_1 d169_243 (Or.inl rfl) rfl
theorem d169_244 : decode (mt 169).2.1 244 = .ok (.aload_n 0, 1) := by decide +kernel
theorem s169_244 {a1 a2 a3 : Option AV} {st : List AV} {m : MM} {x : Nat × Option Nat} : go 169 244 [some (.inr (.inr x)), a1, a2, a3] st m = go 169 245 [some (.inr (.inr x)), a1, a2, a3] (.inr (.inr x) :: st) m := e_1 d169_244 (Or.inl rfl) rfl
theorem d169_245 : decode (mt 169).2.1 245 = .ok (.iload_n 3, 1) := by decide +kernel
theorem s169_245 {a0 a1 a2 : Option AV} {st : List AV} {m : MM} {x : Int32} : go 169 245 [a0, a1, a2, some (.inl x)] st m = go 169 246 [a0, a1, a2, some (.inl x)] (.inl x :: st) m := e_1 d169_245 (Or.inl rfl) rfl
theorem d169_246 : decode (mt 169).2.1 246 = .ok (.iconst 1, 1) := by decide +kernel
theorem s169_246 {ls : LV} {st : List AV} {m : MM} : go 169 246 ls st m = go 169 247 ls (.inl 1 :: st) m := e_1 d169_246 (Or.inl rfl) rfl
theorem d169_247 : decode (mt 169).2.1 247 = .ok (.iadd, 1) := by decide +kernel
theorem s169_247 {ls : LV} {st : List AV} {m : MM} {a b : Int32} : go 169 247 ls (.inl b :: .inl a :: st) m = go 169 248 ls (.inl (a + b) :: st) m := e_1 d169_247 (Or.inl rfl) rfl
theorem d169_248 : decode (mt 169).2.1 248 = .ok (.iaload, 1) := by decide +kernel
theorem s169_248 {ls : LV} {st : List AV} {m : MM} {n : Nat} {i : Int32} : go 169 248 ls (.inl i :: .inr (.inr (0, some n)) :: st) m = ixk (ix i (mN m 0 n)) (fun j => go 169 249 ls (.inl (mI m 0 n j) :: st) m) := e_ald d169_248 (fun j hj => by simp only [xi, pI, pA, hj, Option.bind_some]; rfl) (fun hj => by simp only [xi, pI, pA, hj, Option.bind_none])
theorem d169_249 : decode (mt 169).2.1 249 = .ok (.aload_n 0, 1) := by decide +kernel
theorem s169_249 {a1 a2 a3 : Option AV} {st : List AV} {m : MM} {x : Nat × Option Nat} : go 169 249 [some (.inr (.inr x)), a1, a2, a3] st m = go 169 250 [some (.inr (.inr x)), a1, a2, a3] (.inr (.inr x) :: st) m := e_1 d169_249 (Or.inl rfl) rfl
theorem d169_250 : decode (mt 169).2.1 250 = .ok (.iload_n 3, 1) := by decide +kernel
theorem s169_250 {a0 a1 a2 : Option AV} {st : List AV} {m : MM} {x : Int32} : go 169 250 [a0, a1, a2, some (.inl x)] st m = go 169 251 [a0, a1, a2, some (.inl x)] (.inl x :: st) m := e_1 d169_250 (Or.inl rfl) rfl
theorem d169_251 : decode (mt 169).2.1 251 = .ok (.iconst 2, 1) := by decide +kernel
theorem s169_251 {ls : LV} {st : List AV} {m : MM} : go 169 251 ls st m = go 169 252 ls (.inl 2 :: st) m := e_1 d169_251 (Or.inl rfl) rfl
theorem d169_252 : decode (mt 169).2.1 252 = .ok (.iadd, 1) := by decide +kernel
theorem s169_252 {ls : LV} {st : List AV} {m : MM} {a b : Int32} : go 169 252 ls (.inl b :: .inl a :: st) m = go 169 253 ls (.inl (a + b) :: st) m := e_1 d169_252 (Or.inl rfl) rfl
theorem d169_253 : decode (mt 169).2.1 253 = .ok (.iaload, 1) := by decide +kernel
theorem s169_253 {ls : LV} {st : List AV} {m : MM} {n : Nat} {i : Int32} : go 169 253 ls (.inl i :: .inr (.inr (0, some n)) :: st) m = ixk (ix i (mN m 0 n)) (fun j => go 169 254 ls (.inl (mI m 0 n j) :: st) m) := e_ald d169_253 (fun j hj => by simp only [xi, pI, pA, hj, Option.bind_some]; rfl) (fun hj => by simp only [xi, pI, pA, hj, Option.bind_none])
theorem d169_254 : decode (mt 169).2.1 254 = .ok (.invokevirtual 27, 3) := by decide +kernel
theorem s169_254 {ls : LV} {m : MM} {x0 : Int32} {x1 : Int32} {n : Nat} : go 169 254 ls [.inl x1, .inl x0, .inr (.inr (7, some n))] m = bd (go 45 0 [some (.inr (.inr (7, some n))), some (.inl x0), some (.inl x1), none, none, none] [] m) (fun v m2 => go 169 257 ls (v.toList ++ []) m2) := e_virt (y1 := 45) (na := 2) (as := [.inl x0, .inl x1]) (rest := []) d169_254 (by decide +kernel) rfl (by decide +kernel) (show (ent [.inr (.inr (7, some n)), .inl x0, .inl x1]).length ≤ (mt 45).2.2.2.1 from Nat.le_of_ble_eq_true rfl) (cats_le (Nat.le_of_ble_eq_true rfl)) (by decide +kernel)
theorem d169_257 : decode (mt 169).2.1 257 = .ok (.aload_n 2, 1) := by decide +kernel
theorem s169_257 {a0 a1 a3 : Option AV} {st : List AV} {m : MM} {x : Nat × Option Nat} : go 169 257 [a0, a1, some (.inr (.inr x)), a3] st m = go 169 258 [a0, a1, some (.inr (.inr x)), a3] (.inr (.inr x) :: st) m := e_1 d169_257 (Or.inl rfl) rfl
theorem d169_258 : decode (mt 169).2.1 258 = .ok (.aload_n 0, 1) := by decide +kernel
theorem s169_258 {a1 a2 a3 : Option AV} {st : List AV} {m : MM} {x : Nat × Option Nat} : go 169 258 [some (.inr (.inr x)), a1, a2, a3] st m = go 169 259 [some (.inr (.inr x)), a1, a2, a3] (.inr (.inr x) :: st) m := e_1 d169_258 (Or.inl rfl) rfl
theorem d169_259 : decode (mt 169).2.1 259 = .ok (.iload_n 3, 1) := by decide +kernel
theorem s169_259 {a0 a1 a2 : Option AV} {st : List AV} {m : MM} {x : Int32} : go 169 259 [a0, a1, a2, some (.inl x)] st m = go 169 260 [a0, a1, a2, some (.inl x)] (.inl x :: st) m := e_1 d169_259 (Or.inl rfl) rfl
theorem d169_260 : decode (mt 169).2.1 260 = .ok (.iconst 1, 1) := by decide +kernel
theorem s169_260 {ls : LV} {st : List AV} {m : MM} : go 169 260 ls st m = go 169 261 ls (.inl 1 :: st) m := e_1 d169_260 (Or.inl rfl) rfl
theorem d169_261 : decode (mt 169).2.1 261 = .ok (.iadd, 1) := by decide +kernel
theorem s169_261 {ls : LV} {st : List AV} {m : MM} {a b : Int32} : go 169 261 ls (.inl b :: .inl a :: st) m = go 169 262 ls (.inl (a + b) :: st) m := e_1 d169_261 (Or.inl rfl) rfl
theorem d169_262 : decode (mt 169).2.1 262 = .ok (.iaload, 1) := by decide +kernel
theorem s169_262 {ls : LV} {st : List AV} {m : MM} {n : Nat} {i : Int32} : go 169 262 ls (.inl i :: .inr (.inr (0, some n)) :: st) m = ixk (ix i (mN m 0 n)) (fun j => go 169 263 ls (.inl (mI m 0 n j) :: st) m) := e_ald d169_262 (fun j hj => by simp only [xi, pI, pA, hj, Option.bind_some]; rfl) (fun hj => by simp only [xi, pI, pA, hj, Option.bind_none])
theorem d169_263 : decode (mt 169).2.1 263 = .ok (.aload_n 0, 1) := by decide +kernel
theorem s169_263 {a1 a2 a3 : Option AV} {st : List AV} {m : MM} {x : Nat × Option Nat} : go 169 263 [some (.inr (.inr x)), a1, a2, a3] st m = go 169 264 [some (.inr (.inr x)), a1, a2, a3] (.inr (.inr x) :: st) m := e_1 d169_263 (Or.inl rfl) rfl
theorem d169_264 : decode (mt 169).2.1 264 = .ok (.iload_n 3, 1) := by decide +kernel
theorem s169_264 {a0 a1 a2 : Option AV} {st : List AV} {m : MM} {x : Int32} : go 169 264 [a0, a1, a2, some (.inl x)] st m = go 169 265 [a0, a1, a2, some (.inl x)] (.inl x :: st) m := e_1 d169_264 (Or.inl rfl) rfl
theorem d169_265 : decode (mt 169).2.1 265 = .ok (.iconst 2, 1) := by decide +kernel
theorem s169_265 {ls : LV} {st : List AV} {m : MM} : go 169 265 ls st m = go 169 266 ls (.inl 2 :: st) m := e_1 d169_265 (Or.inl rfl) rfl
theorem d169_266 : decode (mt 169).2.1 266 = .ok (.iadd, 1) := by decide +kernel
theorem s169_266 {ls : LV} {st : List AV} {m : MM} {a b : Int32} : go 169 266 ls (.inl b :: .inl a :: st) m = go 169 267 ls (.inl (a + b) :: st) m := e_1 d169_266 (Or.inl rfl) rfl
theorem d169_267 : decode (mt 169).2.1 267 = .ok (.iaload, 1) := by decide +kernel
theorem s169_267 {ls : LV} {st : List AV} {m : MM} {n : Nat} {i : Int32} : go 169 267 ls (.inl i :: .inr (.inr (0, some n)) :: st) m = ixk (ix i (mN m 0 n)) (fun j => go 169 268 ls (.inl (mI m 0 n j) :: st) m) := e_ald d169_267 (fun j hj => by simp only [xi, pI, pA, hj, Option.bind_some]; rfl) (fun hj => by simp only [xi, pI, pA, hj, Option.bind_none])
theorem d169_268 : decode (mt 169).2.1 268 = .ok (.invokevirtual 30, 3) := by decide +kernel
theorem s169_268 {ls : LV} {m : MM} {x0 : Int32} {x1 : Int32} {w0 : AV} {n : Nat} : go 169 268 ls [.inl x1, .inl x0, .inr (.inr (8, some n)), w0] m = bd (go 134 0 [some (.inr (.inr (8, some n))), some (.inl x0), some (.inl x1), none] [] m) (fun v m2 => go 169 271 ls (v.toList ++ [w0]) m2) := e_virt (y1 := 134) (na := 2) (as := [.inl x0, .inl x1]) (rest := [w0]) d169_268 (by decide +kernel) rfl (by decide +kernel) (show (ent [.inr (.inr (8, some n)), .inl x0, .inl x1]).length ≤ (mt 134).2.2.2.1 from Nat.le_of_ble_eq_true rfl) (cats_le (Nat.le_of_ble_eq_true rfl)) (by decide +kernel)
theorem d169_271 : decode (mt 169).2.1 271 = .ok (.if_icmp .eq 792, 3) := by decide +kernel
theorem s169_271 {ls : LV} {st : List AV} {m : MM} {a b : Int32} : go 169 271 ls (.inl b :: .inl a :: st) m = if a = b then go 169 1063 ls st m else go 169 274 ls st m := e_if (t := 1063) (b := hc .eq a b) d169_271 (Or.inl rfl) (by simp only [xi, pI, jm_some (t := 1063) (show ((271 : Nat) : Int) + 792 = ((1063 : Nat) : Int) by decide), Option.bind_some]) (by simp [hc])
theorem d169_274 : decode (mt 169).2.1 274 = .ok (.iconst 0, 1) := by decide +kernel
theorem s169_274 {ls : LV} {st : List AV} {m : MM} : go 169 274 ls st m = go 169 275 ls (.inl 0 :: st) m := e_1 d169_274 (Or.inl rfl) rfl
theorem d169_275 : decode (mt 169).2.1 275 = .ok (.ireturn, 1) := by decide +kernel
theorem s169_275b0 {ls : LV} {m : MM} : go 169 275 ls [.inl 0] m = some (some (.inl 0), m) := e_bool d169_275 (by decide +kernel) (by decide)
theorem s169_275b1 {ls : LV} {m : MM} : go 169 275 ls [.inl 1] m = some (some (.inl 1), m) := e_bool d169_275 (by decide +kernel) (by decide)
theorem d169_276 : decode (mt 169).2.1 276 = .ok (.aload_n 1, 1) := by decide +kernel
theorem s169_276 {a0 a2 a3 : Option AV} {st : List AV} {m : MM} {x : Nat × Option Nat} : go 169 276 [a0, some (.inr (.inr x)), a2, a3] st m = go 169 277 [a0, some (.inr (.inr x)), a2, a3] (.inr (.inr x) :: st) m := e_1 d169_276 (Or.inl rfl) rfl
theorem d169_277 : decode (mt 169).2.1 277 = .ok (.aload_n 0, 1) := by decide +kernel
theorem s169_277 {a1 a2 a3 : Option AV} {st : List AV} {m : MM} {x : Nat × Option Nat} : go 169 277 [some (.inr (.inr x)), a1, a2, a3] st m = go 169 278 [some (.inr (.inr x)), a1, a2, a3] (.inr (.inr x) :: st) m := e_1 d169_277 (Or.inl rfl) rfl
theorem d169_278 : decode (mt 169).2.1 278 = .ok (.iload_n 3, 1) := by decide +kernel
theorem s169_278 {a0 a1 a2 : Option AV} {st : List AV} {m : MM} {x : Int32} : go 169 278 [a0, a1, a2, some (.inl x)] st m = go 169 279 [a0, a1, a2, some (.inl x)] (.inl x :: st) m := e_1 d169_278 (Or.inl rfl) rfl
theorem d169_279 : decode (mt 169).2.1 279 = .ok (.iconst 1, 1) := by decide +kernel
theorem s169_279 {ls : LV} {st : List AV} {m : MM} : go 169 279 ls st m = go 169 280 ls (.inl 1 :: st) m := e_1 d169_279 (Or.inl rfl) rfl
theorem d169_280 : decode (mt 169).2.1 280 = .ok (.iadd, 1) := by decide +kernel
theorem s169_280 {ls : LV} {st : List AV} {m : MM} {a b : Int32} : go 169 280 ls (.inl b :: .inl a :: st) m = go 169 281 ls (.inl (a + b) :: st) m := e_1 d169_280 (Or.inl rfl) rfl
theorem d169_281 : decode (mt 169).2.1 281 = .ok (.iaload, 1) := by decide +kernel
theorem s169_281 {ls : LV} {st : List AV} {m : MM} {n : Nat} {i : Int32} : go 169 281 ls (.inl i :: .inr (.inr (0, some n)) :: st) m = ixk (ix i (mN m 0 n)) (fun j => go 169 282 ls (.inl (mI m 0 n j) :: st) m) := e_ald d169_281 (fun j hj => by simp only [xi, pI, pA, hj, Option.bind_some]; rfl) (fun hj => by simp only [xi, pI, pA, hj, Option.bind_none])
theorem d169_282 : decode (mt 169).2.1 282 = .ok (.invokevirtual 31, 3) := by decide +kernel
theorem s169_282 {ls : LV} {m : MM} {x0 : Int32} {n : Nat} : go 169 282 ls [.inl x0, .inr (.inr (7, some n))] m = bd (go 46 0 [some (.inr (.inr (7, some n))), some (.inl x0), none] [] m) (fun v m2 => go 169 285 ls (v.toList ++ []) m2) := e_virt (y1 := 46) (na := 1) (as := [.inl x0]) (rest := []) d169_282 (by decide +kernel) rfl (by decide +kernel) (show (ent [.inr (.inr (7, some n)), .inl x0]).length ≤ (mt 46).2.2.2.1 from Nat.le_of_ble_eq_true rfl) (cats_le (Nat.le_of_ble_eq_true rfl)) (by decide +kernel)
theorem d169_285 : decode (mt 169).2.1 285 = .ok (.aload_n 2, 1) := by decide +kernel
theorem s169_285 {a0 a1 a3 : Option AV} {st : List AV} {m : MM} {x : Nat × Option Nat} : go 169 285 [a0, a1, some (.inr (.inr x)), a3] st m = go 169 286 [a0, a1, some (.inr (.inr x)), a3] (.inr (.inr x) :: st) m := e_1 d169_285 (Or.inl rfl) rfl
theorem d169_286 : decode (mt 169).2.1 286 = .ok (.aload_n 0, 1) := by decide +kernel
theorem s169_286 {a1 a2 a3 : Option AV} {st : List AV} {m : MM} {x : Nat × Option Nat} : go 169 286 [some (.inr (.inr x)), a1, a2, a3] st m = go 169 287 [some (.inr (.inr x)), a1, a2, a3] (.inr (.inr x) :: st) m := e_1 d169_286 (Or.inl rfl) rfl
theorem d169_287 : decode (mt 169).2.1 287 = .ok (.iload_n 3, 1) := by decide +kernel
theorem s169_287 {a0 a1 a2 : Option AV} {st : List AV} {m : MM} {x : Int32} : go 169 287 [a0, a1, a2, some (.inl x)] st m = go 169 288 [a0, a1, a2, some (.inl x)] (.inl x :: st) m := e_1 d169_287 (Or.inl rfl) rfl
theorem d169_288 : decode (mt 169).2.1 288 = .ok (.iconst 1, 1) := by decide +kernel
theorem s169_288 {ls : LV} {st : List AV} {m : MM} : go 169 288 ls st m = go 169 289 ls (.inl 1 :: st) m := e_1 d169_288 (Or.inl rfl) rfl
theorem d169_289 : decode (mt 169).2.1 289 = .ok (.iadd, 1) := by decide +kernel
theorem s169_289 {ls : LV} {st : List AV} {m : MM} {a b : Int32} : go 169 289 ls (.inl b :: .inl a :: st) m = go 169 290 ls (.inl (a + b) :: st) m := e_1 d169_289 (Or.inl rfl) rfl
theorem d169_290 : decode (mt 169).2.1 290 = .ok (.iaload, 1) := by decide +kernel
theorem s169_290 {ls : LV} {st : List AV} {m : MM} {n : Nat} {i : Int32} : go 169 290 ls (.inl i :: .inr (.inr (0, some n)) :: st) m = ixk (ix i (mN m 0 n)) (fun j => go 169 291 ls (.inl (mI m 0 n j) :: st) m) := e_ald d169_290 (fun j hj => by simp only [xi, pI, pA, hj, Option.bind_some]; rfl) (fun hj => by simp only [xi, pI, pA, hj, Option.bind_none])
theorem d169_291 : decode (mt 169).2.1 291 = .ok (.invokevirtual 34, 3) := by decide +kernel
theorem s169_291 {ls : LV} {m : MM} {x0 : Int32} {w0 : AV} {n : Nat} : go 169 291 ls [.inl x0, .inr (.inr (8, some n)), w0] m = bd (go 135 0 [some (.inr (.inr (8, some n))), some (.inl x0), none, none] [] m) (fun v m2 => go 169 294 ls (v.toList ++ [w0]) m2) := e_virt (y1 := 135) (na := 1) (as := [.inl x0]) (rest := [w0]) d169_291 (by decide +kernel) rfl (by decide +kernel) (show (ent [.inr (.inr (8, some n)), .inl x0]).length ≤ (mt 135).2.2.2.1 from Nat.le_of_ble_eq_true rfl) (cats_le (Nat.le_of_ble_eq_true rfl)) (by decide +kernel)
theorem d169_294 : decode (mt 169).2.1 294 = .ok (.if_icmp .eq 769, 3) := by decide +kernel
theorem s169_294 {ls : LV} {st : List AV} {m : MM} {a b : Int32} : go 169 294 ls (.inl b :: .inl a :: st) m = if a = b then go 169 1063 ls st m else go 169 297 ls st m := e_if (t := 1063) (b := hc .eq a b) d169_294 (Or.inl rfl) (by simp only [xi, pI, jm_some (t := 1063) (show ((294 : Nat) : Int) + 769 = ((1063 : Nat) : Int) by decide), Option.bind_some]) (by simp [hc])
theorem d169_297 : decode (mt 169).2.1 297 = .ok (.iconst 0, 1) := by decide +kernel
theorem s169_297 {ls : LV} {st : List AV} {m : MM} : go 169 297 ls st m = go 169 298 ls (.inl 0 :: st) m := e_1 d169_297 (Or.inl rfl) rfl
theorem d169_298 : decode (mt 169).2.1 298 = .ok (.ireturn, 1) := by decide +kernel
theorem s169_298b0 {ls : LV} {m : MM} : go 169 298 ls [.inl 0] m = some (some (.inl 0), m) := e_bool d169_298 (by decide +kernel) (by decide)
theorem s169_298b1 {ls : LV} {m : MM} : go 169 298 ls [.inl 1] m = some (some (.inl 1), m) := e_bool d169_298 (by decide +kernel) (by decide)
theorem d169_299 : decode (mt 169).2.1 299 = .ok (.aload_n 1, 1) := by decide +kernel
theorem s169_299 {a0 a2 a3 : Option AV} {st : List AV} {m : MM} {x : Nat × Option Nat} : go 169 299 [a0, some (.inr (.inr x)), a2, a3] st m = go 169 300 [a0, some (.inr (.inr x)), a2, a3] (.inr (.inr x) :: st) m := e_1 d169_299 (Or.inl rfl) rfl
theorem d169_300 : decode (mt 169).2.1 300 = .ok (.aload_n 0, 1) := by decide +kernel
theorem s169_300 {a1 a2 a3 : Option AV} {st : List AV} {m : MM} {x : Nat × Option Nat} : go 169 300 [some (.inr (.inr x)), a1, a2, a3] st m = go 169 301 [some (.inr (.inr x)), a1, a2, a3] (.inr (.inr x) :: st) m := e_1 d169_300 (Or.inl rfl) rfl
theorem d169_301 : decode (mt 169).2.1 301 = .ok (.iload_n 3, 1) := by decide +kernel
theorem s169_301 {a0 a1 a2 : Option AV} {st : List AV} {m : MM} {x : Int32} : go 169 301 [a0, a1, a2, some (.inl x)] st m = go 169 302 [a0, a1, a2, some (.inl x)] (.inl x :: st) m := e_1 d169_301 (Or.inl rfl) rfl
theorem d169_302 : decode (mt 169).2.1 302 = .ok (.iconst 1, 1) := by decide +kernel
theorem s169_302 {ls : LV} {st : List AV} {m : MM} : go 169 302 ls st m = go 169 303 ls (.inl 1 :: st) m := e_1 d169_302 (Or.inl rfl) rfl
theorem d169_303 : decode (mt 169).2.1 303 = .ok (.iadd, 1) := by decide +kernel
theorem s169_303 {ls : LV} {st : List AV} {m : MM} {a b : Int32} : go 169 303 ls (.inl b :: .inl a :: st) m = go 169 304 ls (.inl (a + b) :: st) m := e_1 d169_303 (Or.inl rfl) rfl
theorem d169_304 : decode (mt 169).2.1 304 = .ok (.iaload, 1) := by decide +kernel
theorem s169_304 {ls : LV} {st : List AV} {m : MM} {n : Nat} {i : Int32} : go 169 304 ls (.inl i :: .inr (.inr (0, some n)) :: st) m = ixk (ix i (mN m 0 n)) (fun j => go 169 305 ls (.inl (mI m 0 n j) :: st) m) := e_ald d169_304 (fun j hj => by simp only [xi, pI, pA, hj, Option.bind_some]; rfl) (fun hj => by simp only [xi, pI, pA, hj, Option.bind_none])
theorem d169_305 : decode (mt 169).2.1 305 = .ok (.aload_n 0, 1) := by decide +kernel
theorem s169_305 {a1 a2 a3 : Option AV} {st : List AV} {m : MM} {x : Nat × Option Nat} : go 169 305 [some (.inr (.inr x)), a1, a2, a3] st m = go 169 306 [some (.inr (.inr x)), a1, a2, a3] (.inr (.inr x) :: st) m := e_1 d169_305 (Or.inl rfl) rfl
theorem d169_306 : decode (mt 169).2.1 306 = .ok (.iload_n 3, 1) := by decide +kernel
theorem s169_306 {a0 a1 a2 : Option AV} {st : List AV} {m : MM} {x : Int32} : go 169 306 [a0, a1, a2, some (.inl x)] st m = go 169 307 [a0, a1, a2, some (.inl x)] (.inl x :: st) m := e_1 d169_306 (Or.inl rfl) rfl
theorem d169_307 : decode (mt 169).2.1 307 = .ok (.iconst 2, 1) := by decide +kernel
theorem s169_307 {ls : LV} {st : List AV} {m : MM} : go 169 307 ls st m = go 169 308 ls (.inl 2 :: st) m := e_1 d169_307 (Or.inl rfl) rfl
theorem d169_308 : decode (mt 169).2.1 308 = .ok (.iadd, 1) := by decide +kernel
theorem s169_308 {ls : LV} {st : List AV} {m : MM} {a b : Int32} : go 169 308 ls (.inl b :: .inl a :: st) m = go 169 309 ls (.inl (a + b) :: st) m := e_1 d169_308 (Or.inl rfl) rfl
theorem d169_309 : decode (mt 169).2.1 309 = .ok (.iaload, 1) := by decide +kernel
theorem s169_309 {ls : LV} {st : List AV} {m : MM} {n : Nat} {i : Int32} : go 169 309 ls (.inl i :: .inr (.inr (0, some n)) :: st) m = ixk (ix i (mN m 0 n)) (fun j => go 169 310 ls (.inl (mI m 0 n j) :: st) m) := e_ald d169_309 (fun j hj => by simp only [xi, pI, pA, hj, Option.bind_some]; rfl) (fun hj => by simp only [xi, pI, pA, hj, Option.bind_none])
theorem d169_310 : decode (mt 169).2.1 310 = .ok (.invokevirtual 35, 3) := by decide +kernel
theorem s169_310 {ls : LV} {m : MM} {x0 : Int32} {x1 : Int32} {n : Nat} : go 169 310 ls [.inl x1, .inl x0, .inr (.inr (7, some n))] m = bd (go 47 0 [some (.inr (.inr (7, some n))), some (.inl x0), some (.inl x1), none] [] m) (fun v m2 => go 169 313 ls (v.toList ++ []) m2) := e_virt (y1 := 47) (na := 2) (as := [.inl x0, .inl x1]) (rest := []) d169_310 (by decide +kernel) rfl (by decide +kernel) (show (ent [.inr (.inr (7, some n)), .inl x0, .inl x1]).length ≤ (mt 47).2.2.2.1 from Nat.le_of_ble_eq_true rfl) (cats_le (Nat.le_of_ble_eq_true rfl)) (by decide +kernel)
theorem d169_313 : decode (mt 169).2.1 313 = .ok (.aload_n 2, 1) := by decide +kernel
theorem s169_313 {a0 a1 a3 : Option AV} {st : List AV} {m : MM} {x : Nat × Option Nat} : go 169 313 [a0, a1, some (.inr (.inr x)), a3] st m = go 169 314 [a0, a1, some (.inr (.inr x)), a3] (.inr (.inr x) :: st) m := e_1 d169_313 (Or.inl rfl) rfl
theorem d169_314 : decode (mt 169).2.1 314 = .ok (.aload_n 0, 1) := by decide +kernel
theorem s169_314 {a1 a2 a3 : Option AV} {st : List AV} {m : MM} {x : Nat × Option Nat} : go 169 314 [some (.inr (.inr x)), a1, a2, a3] st m = go 169 315 [some (.inr (.inr x)), a1, a2, a3] (.inr (.inr x) :: st) m := e_1 d169_314 (Or.inl rfl) rfl
theorem d169_315 : decode (mt 169).2.1 315 = .ok (.iload_n 3, 1) := by decide +kernel
theorem s169_315 {a0 a1 a2 : Option AV} {st : List AV} {m : MM} {x : Int32} : go 169 315 [a0, a1, a2, some (.inl x)] st m = go 169 316 [a0, a1, a2, some (.inl x)] (.inl x :: st) m := e_1 d169_315 (Or.inl rfl) rfl
theorem d169_316 : decode (mt 169).2.1 316 = .ok (.iconst 1, 1) := by decide +kernel
theorem s169_316 {ls : LV} {st : List AV} {m : MM} : go 169 316 ls st m = go 169 317 ls (.inl 1 :: st) m := e_1 d169_316 (Or.inl rfl) rfl
theorem d169_317 : decode (mt 169).2.1 317 = .ok (.iadd, 1) := by decide +kernel
theorem s169_317 {ls : LV} {st : List AV} {m : MM} {a b : Int32} : go 169 317 ls (.inl b :: .inl a :: st) m = go 169 318 ls (.inl (a + b) :: st) m := e_1 d169_317 (Or.inl rfl) rfl
theorem d169_318 : decode (mt 169).2.1 318 = .ok (.iaload, 1) := by decide +kernel
theorem s169_318 {ls : LV} {st : List AV} {m : MM} {n : Nat} {i : Int32} : go 169 318 ls (.inl i :: .inr (.inr (0, some n)) :: st) m = ixk (ix i (mN m 0 n)) (fun j => go 169 319 ls (.inl (mI m 0 n j) :: st) m) := e_ald d169_318 (fun j hj => by simp only [xi, pI, pA, hj, Option.bind_some]; rfl) (fun hj => by simp only [xi, pI, pA, hj, Option.bind_none])
theorem d169_319 : decode (mt 169).2.1 319 = .ok (.aload_n 0, 1) := by decide +kernel
theorem s169_319 {a1 a2 a3 : Option AV} {st : List AV} {m : MM} {x : Nat × Option Nat} : go 169 319 [some (.inr (.inr x)), a1, a2, a3] st m = go 169 320 [some (.inr (.inr x)), a1, a2, a3] (.inr (.inr x) :: st) m := e_1 d169_319 (Or.inl rfl) rfl
theorem d169_320 : decode (mt 169).2.1 320 = .ok (.iload_n 3, 1) := by decide +kernel
theorem s169_320 {a0 a1 a2 : Option AV} {st : List AV} {m : MM} {x : Int32} : go 169 320 [a0, a1, a2, some (.inl x)] st m = go 169 321 [a0, a1, a2, some (.inl x)] (.inl x :: st) m := e_1 d169_320 (Or.inl rfl) rfl
theorem d169_321 : decode (mt 169).2.1 321 = .ok (.iconst 2, 1) := by decide +kernel
theorem s169_321 {ls : LV} {st : List AV} {m : MM} : go 169 321 ls st m = go 169 322 ls (.inl 2 :: st) m := e_1 d169_321 (Or.inl rfl) rfl
theorem d169_322 : decode (mt 169).2.1 322 = .ok (.iadd, 1) := by decide +kernel
theorem s169_322 {ls : LV} {st : List AV} {m : MM} {a b : Int32} : go 169 322 ls (.inl b :: .inl a :: st) m = go 169 323 ls (.inl (a + b) :: st) m := e_1 d169_322 (Or.inl rfl) rfl
theorem d169_323 : decode (mt 169).2.1 323 = .ok (.iaload, 1) := by decide +kernel
theorem s169_323 {ls : LV} {st : List AV} {m : MM} {n : Nat} {i : Int32} : go 169 323 ls (.inl i :: .inr (.inr (0, some n)) :: st) m = ixk (ix i (mN m 0 n)) (fun j => go 169 324 ls (.inl (mI m 0 n j) :: st) m) := e_ald d169_323 (fun j hj => by simp only [xi, pI, pA, hj, Option.bind_some]; rfl) (fun hj => by simp only [xi, pI, pA, hj, Option.bind_none])
theorem d169_324 : decode (mt 169).2.1 324 = .ok (.invokevirtual 38, 3) := by decide +kernel
theorem s169_324 {ls : LV} {m : MM} {x0 : Int32} {x1 : Int32} {w0 : AV} {n : Nat} : go 169 324 ls [.inl x1, .inl x0, .inr (.inr (8, some n)), w0] m = bd (go 136 0 [some (.inr (.inr (8, some n))), some (.inl x0), some (.inl x1)] [] m) (fun v m2 => go 169 327 ls (v.toList ++ [w0]) m2) := e_virt (y1 := 136) (na := 2) (as := [.inl x0, .inl x1]) (rest := [w0]) d169_324 (by decide +kernel) rfl (by decide +kernel) (show (ent [.inr (.inr (8, some n)), .inl x0, .inl x1]).length ≤ (mt 136).2.2.2.1 from Nat.le_of_ble_eq_true rfl) (cats_le (Nat.le_of_ble_eq_true rfl)) (by decide +kernel)
theorem d169_327 : decode (mt 169).2.1 327 = .ok (.if_icmp .eq 736, 3) := by decide +kernel
theorem s169_327 {ls : LV} {st : List AV} {m : MM} {a b : Int32} : go 169 327 ls (.inl b :: .inl a :: st) m = if a = b then go 169 1063 ls st m else go 169 330 ls st m := e_if (t := 1063) (b := hc .eq a b) d169_327 (Or.inl rfl) (by simp only [xi, pI, jm_some (t := 1063) (show ((327 : Nat) : Int) + 736 = ((1063 : Nat) : Int) by decide), Option.bind_some]) (by simp [hc])
theorem d169_330 : decode (mt 169).2.1 330 = .ok (.iconst 0, 1) := by decide +kernel
theorem s169_330 {ls : LV} {st : List AV} {m : MM} : go 169 330 ls st m = go 169 331 ls (.inl 0 :: st) m := e_1 d169_330 (Or.inl rfl) rfl
theorem d169_331 : decode (mt 169).2.1 331 = .ok (.ireturn, 1) := by decide +kernel
theorem s169_331b0 {ls : LV} {m : MM} : go 169 331 ls [.inl 0] m = some (some (.inl 0), m) := e_bool d169_331 (by decide +kernel) (by decide)
theorem s169_331b1 {ls : LV} {m : MM} : go 169 331 ls [.inl 1] m = some (some (.inl 1), m) := e_bool d169_331 (by decide +kernel) (by decide)
theorem d169_332 : decode (mt 169).2.1 332 = .ok (.aload_n 1, 1) := by decide +kernel
theorem s169_332 {a0 a2 a3 : Option AV} {st : List AV} {m : MM} {x : Nat × Option Nat} : go 169 332 [a0, some (.inr (.inr x)), a2, a3] st m = go 169 333 [a0, some (.inr (.inr x)), a2, a3] (.inr (.inr x) :: st) m := e_1 d169_332 (Or.inl rfl) rfl
theorem d169_333 : decode (mt 169).2.1 333 = .ok (.aload_n 0, 1) := by decide +kernel
theorem s169_333 {a1 a2 a3 : Option AV} {st : List AV} {m : MM} {x : Nat × Option Nat} : go 169 333 [some (.inr (.inr x)), a1, a2, a3] st m = go 169 334 [some (.inr (.inr x)), a1, a2, a3] (.inr (.inr x) :: st) m := e_1 d169_333 (Or.inl rfl) rfl
theorem d169_334 : decode (mt 169).2.1 334 = .ok (.iload_n 3, 1) := by decide +kernel
theorem s169_334 {a0 a1 a2 : Option AV} {st : List AV} {m : MM} {x : Int32} : go 169 334 [a0, a1, a2, some (.inl x)] st m = go 169 335 [a0, a1, a2, some (.inl x)] (.inl x :: st) m := e_1 d169_334 (Or.inl rfl) rfl
theorem d169_335 : decode (mt 169).2.1 335 = .ok (.iconst 1, 1) := by decide +kernel
theorem s169_335 {ls : LV} {st : List AV} {m : MM} : go 169 335 ls st m = go 169 336 ls (.inl 1 :: st) m := e_1 d169_335 (Or.inl rfl) rfl
theorem d169_336 : decode (mt 169).2.1 336 = .ok (.iadd, 1) := by decide +kernel
theorem s169_336 {ls : LV} {st : List AV} {m : MM} {a b : Int32} : go 169 336 ls (.inl b :: .inl a :: st) m = go 169 337 ls (.inl (a + b) :: st) m := e_1 d169_336 (Or.inl rfl) rfl
theorem d169_337 : decode (mt 169).2.1 337 = .ok (.iaload, 1) := by decide +kernel
theorem s169_337 {ls : LV} {st : List AV} {m : MM} {n : Nat} {i : Int32} : go 169 337 ls (.inl i :: .inr (.inr (0, some n)) :: st) m = ixk (ix i (mN m 0 n)) (fun j => go 169 338 ls (.inl (mI m 0 n j) :: st) m) := e_ald d169_337 (fun j hj => by simp only [xi, pI, pA, hj, Option.bind_some]; rfl) (fun hj => by simp only [xi, pI, pA, hj, Option.bind_none])
theorem d169_338 : decode (mt 169).2.1 338 = .ok (.aload_n 0, 1) := by decide +kernel
theorem s169_338 {a1 a2 a3 : Option AV} {st : List AV} {m : MM} {x : Nat × Option Nat} : go 169 338 [some (.inr (.inr x)), a1, a2, a3] st m = go 169 339 [some (.inr (.inr x)), a1, a2, a3] (.inr (.inr x) :: st) m := e_1 d169_338 (Or.inl rfl) rfl
theorem d169_339 : decode (mt 169).2.1 339 = .ok (.iload_n 3, 1) := by decide +kernel
theorem s169_339 {a0 a1 a2 : Option AV} {st : List AV} {m : MM} {x : Int32} : go 169 339 [a0, a1, a2, some (.inl x)] st m = go 169 340 [a0, a1, a2, some (.inl x)] (.inl x :: st) m := e_1 d169_339 (Or.inl rfl) rfl
theorem d169_340 : decode (mt 169).2.1 340 = .ok (.iconst 2, 1) := by decide +kernel
theorem s169_340 {ls : LV} {st : List AV} {m : MM} : go 169 340 ls st m = go 169 341 ls (.inl 2 :: st) m := e_1 d169_340 (Or.inl rfl) rfl
theorem d169_341 : decode (mt 169).2.1 341 = .ok (.iadd, 1) := by decide +kernel
theorem s169_341 {ls : LV} {st : List AV} {m : MM} {a b : Int32} : go 169 341 ls (.inl b :: .inl a :: st) m = go 169 342 ls (.inl (a + b) :: st) m := e_1 d169_341 (Or.inl rfl) rfl
theorem d169_342 : decode (mt 169).2.1 342 = .ok (.iaload, 1) := by decide +kernel
theorem s169_342 {ls : LV} {st : List AV} {m : MM} {n : Nat} {i : Int32} : go 169 342 ls (.inl i :: .inr (.inr (0, some n)) :: st) m = ixk (ix i (mN m 0 n)) (fun j => go 169 343 ls (.inl (mI m 0 n j) :: st) m) := e_ald d169_342 (fun j hj => by simp only [xi, pI, pA, hj, Option.bind_some]; rfl) (fun hj => by simp only [xi, pI, pA, hj, Option.bind_none])
theorem d169_343 : decode (mt 169).2.1 343 = .ok (.invokevirtual 39, 3) := by decide +kernel
theorem s169_343 {ls : LV} {m : MM} {x0 : Int32} {x1 : Int32} {n : Nat} : go 169 343 ls [.inl x1, .inl x0, .inr (.inr (7, some n))] m = bd (go 52 0 [some (.inr (.inr (7, some n))), some (.inl x0), some (.inl x1)] [] m) (fun v m2 => go 169 346 ls (v.toList ++ []) m2) := e_virt (y1 := 52) (na := 2) (as := [.inl x0, .inl x1]) (rest := []) d169_343 (by decide +kernel) rfl (by decide +kernel) (show (ent [.inr (.inr (7, some n)), .inl x0, .inl x1]).length ≤ (mt 52).2.2.2.1 from Nat.le_of_ble_eq_true rfl) (cats_le (Nat.le_of_ble_eq_true rfl)) (by decide +kernel)
theorem d169_346 : decode (mt 169).2.1 346 = .ok (.aload_n 2, 1) := by decide +kernel
theorem s169_346 {a0 a1 a3 : Option AV} {st : List AV} {m : MM} {x : Nat × Option Nat} : go 169 346 [a0, a1, some (.inr (.inr x)), a3] st m = go 169 347 [a0, a1, some (.inr (.inr x)), a3] (.inr (.inr x) :: st) m := e_1 d169_346 (Or.inl rfl) rfl
theorem d169_347 : decode (mt 169).2.1 347 = .ok (.aload_n 0, 1) := by decide +kernel
theorem s169_347 {a1 a2 a3 : Option AV} {st : List AV} {m : MM} {x : Nat × Option Nat} : go 169 347 [some (.inr (.inr x)), a1, a2, a3] st m = go 169 348 [some (.inr (.inr x)), a1, a2, a3] (.inr (.inr x) :: st) m := e_1 d169_347 (Or.inl rfl) rfl
theorem d169_348 : decode (mt 169).2.1 348 = .ok (.iload_n 3, 1) := by decide +kernel
theorem s169_348 {a0 a1 a2 : Option AV} {st : List AV} {m : MM} {x : Int32} : go 169 348 [a0, a1, a2, some (.inl x)] st m = go 169 349 [a0, a1, a2, some (.inl x)] (.inl x :: st) m := e_1 d169_348 (Or.inl rfl) rfl
theorem d169_349 : decode (mt 169).2.1 349 = .ok (.iconst 1, 1) := by decide +kernel
theorem s169_349 {ls : LV} {st : List AV} {m : MM} : go 169 349 ls st m = go 169 350 ls (.inl 1 :: st) m := e_1 d169_349 (Or.inl rfl) rfl
theorem d169_350 : decode (mt 169).2.1 350 = .ok (.iadd, 1) := by decide +kernel
theorem s169_350 {ls : LV} {st : List AV} {m : MM} {a b : Int32} : go 169 350 ls (.inl b :: .inl a :: st) m = go 169 351 ls (.inl (a + b) :: st) m := e_1 d169_350 (Or.inl rfl) rfl
theorem d169_351 : decode (mt 169).2.1 351 = .ok (.iaload, 1) := by decide +kernel
theorem s169_351 {ls : LV} {st : List AV} {m : MM} {n : Nat} {i : Int32} : go 169 351 ls (.inl i :: .inr (.inr (0, some n)) :: st) m = ixk (ix i (mN m 0 n)) (fun j => go 169 352 ls (.inl (mI m 0 n j) :: st) m) := e_ald d169_351 (fun j hj => by simp only [xi, pI, pA, hj, Option.bind_some]; rfl) (fun hj => by simp only [xi, pI, pA, hj, Option.bind_none])
theorem d169_352 : decode (mt 169).2.1 352 = .ok (.aload_n 0, 1) := by decide +kernel
theorem s169_352 {a1 a2 a3 : Option AV} {st : List AV} {m : MM} {x : Nat × Option Nat} : go 169 352 [some (.inr (.inr x)), a1, a2, a3] st m = go 169 353 [some (.inr (.inr x)), a1, a2, a3] (.inr (.inr x) :: st) m := e_1 d169_352 (Or.inl rfl) rfl
theorem d169_353 : decode (mt 169).2.1 353 = .ok (.iload_n 3, 1) := by decide +kernel
theorem s169_353 {a0 a1 a2 : Option AV} {st : List AV} {m : MM} {x : Int32} : go 169 353 [a0, a1, a2, some (.inl x)] st m = go 169 354 [a0, a1, a2, some (.inl x)] (.inl x :: st) m := e_1 d169_353 (Or.inl rfl) rfl
theorem d169_354 : decode (mt 169).2.1 354 = .ok (.iconst 2, 1) := by decide +kernel
theorem s169_354 {ls : LV} {st : List AV} {m : MM} : go 169 354 ls st m = go 169 355 ls (.inl 2 :: st) m := e_1 d169_354 (Or.inl rfl) rfl
theorem d169_355 : decode (mt 169).2.1 355 = .ok (.iadd, 1) := by decide +kernel
theorem s169_355 {ls : LV} {st : List AV} {m : MM} {a b : Int32} : go 169 355 ls (.inl b :: .inl a :: st) m = go 169 356 ls (.inl (a + b) :: st) m := e_1 d169_355 (Or.inl rfl) rfl
theorem d169_356 : decode (mt 169).2.1 356 = .ok (.iaload, 1) := by decide +kernel
theorem s169_356 {ls : LV} {st : List AV} {m : MM} {n : Nat} {i : Int32} : go 169 356 ls (.inl i :: .inr (.inr (0, some n)) :: st) m = ixk (ix i (mN m 0 n)) (fun j => go 169 357 ls (.inl (mI m 0 n j) :: st) m) := e_ald d169_356 (fun j hj => by simp only [xi, pI, pA, hj, Option.bind_some]; rfl) (fun hj => by simp only [xi, pI, pA, hj, Option.bind_none])
theorem d169_357 : decode (mt 169).2.1 357 = .ok (.invokevirtual 42, 3) := by decide +kernel
theorem s169_357 {ls : LV} {m : MM} {x0 : Int32} {x1 : Int32} {w0 : AV} {n : Nat} : go 169 357 ls [.inl x1, .inl x0, .inr (.inr (8, some n)), w0] m = bd (go 138 0 [some (.inr (.inr (8, some n))), some (.inl x0), some (.inl x1)] [] m) (fun v m2 => go 169 360 ls (v.toList ++ [w0]) m2) := e_virt (y1 := 138) (na := 2) (as := [.inl x0, .inl x1]) (rest := [w0]) d169_357 (by decide +kernel) rfl (by decide +kernel) (show (ent [.inr (.inr (8, some n)), .inl x0, .inl x1]).length ≤ (mt 138).2.2.2.1 from Nat.le_of_ble_eq_true rfl) (cats_le (Nat.le_of_ble_eq_true rfl)) (by decide +kernel)
theorem d169_360 : decode (mt 169).2.1 360 = .ok (.if_icmp .eq 703, 3) := by decide +kernel
theorem s169_360 {ls : LV} {st : List AV} {m : MM} {a b : Int32} : go 169 360 ls (.inl b :: .inl a :: st) m = if a = b then go 169 1063 ls st m else go 169 363 ls st m := e_if (t := 1063) (b := hc .eq a b) d169_360 (Or.inl rfl) (by simp only [xi, pI, jm_some (t := 1063) (show ((360 : Nat) : Int) + 703 = ((1063 : Nat) : Int) by decide), Option.bind_some]) (by simp [hc])
theorem d169_363 : decode (mt 169).2.1 363 = .ok (.iconst 0, 1) := by decide +kernel
theorem s169_363 {ls : LV} {st : List AV} {m : MM} : go 169 363 ls st m = go 169 364 ls (.inl 0 :: st) m := e_1 d169_363 (Or.inl rfl) rfl
theorem d169_364 : decode (mt 169).2.1 364 = .ok (.ireturn, 1) := by decide +kernel
theorem s169_364b0 {ls : LV} {m : MM} : go 169 364 ls [.inl 0] m = some (some (.inl 0), m) := e_bool d169_364 (by decide +kernel) (by decide)
theorem s169_364b1 {ls : LV} {m : MM} : go 169 364 ls [.inl 1] m = some (some (.inl 1), m) := e_bool d169_364 (by decide +kernel) (by decide)
theorem d169_365 : decode (mt 169).2.1 365 = .ok (.aload_n 1, 1) := by decide +kernel
theorem s169_365 {a0 a2 a3 : Option AV} {st : List AV} {m : MM} {x : Nat × Option Nat} : go 169 365 [a0, some (.inr (.inr x)), a2, a3] st m = go 169 366 [a0, some (.inr (.inr x)), a2, a3] (.inr (.inr x) :: st) m := e_1 d169_365 (Or.inl rfl) rfl
theorem d169_366 : decode (mt 169).2.1 366 = .ok (.aload_n 0, 1) := by decide +kernel
theorem s169_366 {a1 a2 a3 : Option AV} {st : List AV} {m : MM} {x : Nat × Option Nat} : go 169 366 [some (.inr (.inr x)), a1, a2, a3] st m = go 169 367 [some (.inr (.inr x)), a1, a2, a3] (.inr (.inr x) :: st) m := e_1 d169_366 (Or.inl rfl) rfl
theorem d169_367 : decode (mt 169).2.1 367 = .ok (.iload_n 3, 1) := by decide +kernel
theorem s169_367 {a0 a1 a2 : Option AV} {st : List AV} {m : MM} {x : Int32} : go 169 367 [a0, a1, a2, some (.inl x)] st m = go 169 368 [a0, a1, a2, some (.inl x)] (.inl x :: st) m := e_1 d169_367 (Or.inl rfl) rfl
theorem d169_368 : decode (mt 169).2.1 368 = .ok (.iconst 1, 1) := by decide +kernel
theorem s169_368 {ls : LV} {st : List AV} {m : MM} : go 169 368 ls st m = go 169 369 ls (.inl 1 :: st) m := e_1 d169_368 (Or.inl rfl) rfl
theorem d169_369 : decode (mt 169).2.1 369 = .ok (.iadd, 1) := by decide +kernel
theorem s169_369 {ls : LV} {st : List AV} {m : MM} {a b : Int32} : go 169 369 ls (.inl b :: .inl a :: st) m = go 169 370 ls (.inl (a + b) :: st) m := e_1 d169_369 (Or.inl rfl) rfl
theorem d169_370 : decode (mt 169).2.1 370 = .ok (.iaload, 1) := by decide +kernel
theorem s169_370 {ls : LV} {st : List AV} {m : MM} {n : Nat} {i : Int32} : go 169 370 ls (.inl i :: .inr (.inr (0, some n)) :: st) m = ixk (ix i (mN m 0 n)) (fun j => go 169 371 ls (.inl (mI m 0 n j) :: st) m) := e_ald d169_370 (fun j hj => by simp only [xi, pI, pA, hj, Option.bind_some]; rfl) (fun hj => by simp only [xi, pI, pA, hj, Option.bind_none])
theorem d169_371 : decode (mt 169).2.1 371 = .ok (.aload_n 0, 1) := by decide +kernel
theorem s169_371 {a1 a2 a3 : Option AV} {st : List AV} {m : MM} {x : Nat × Option Nat} : go 169 371 [some (.inr (.inr x)), a1, a2, a3] st m = go 169 372 [some (.inr (.inr x)), a1, a2, a3] (.inr (.inr x) :: st) m := e_1 d169_371 (Or.inl rfl) rfl
theorem d169_372 : decode (mt 169).2.1 372 = .ok (.iload_n 3, 1) := by decide +kernel
theorem s169_372 {a0 a1 a2 : Option AV} {st : List AV} {m : MM} {x : Int32} : go 169 372 [a0, a1, a2, some (.inl x)] st m = go 169 373 [a0, a1, a2, some (.inl x)] (.inl x :: st) m := e_1 d169_372 (Or.inl rfl) rfl
theorem d169_373 : decode (mt 169).2.1 373 = .ok (.iconst 2, 1) := by decide +kernel
theorem s169_373 {ls : LV} {st : List AV} {m : MM} : go 169 373 ls st m = go 169 374 ls (.inl 2 :: st) m := e_1 d169_373 (Or.inl rfl) rfl
theorem d169_374 : decode (mt 169).2.1 374 = .ok (.iadd, 1) := by decide +kernel
theorem s169_374 {ls : LV} {st : List AV} {m : MM} {a b : Int32} : go 169 374 ls (.inl b :: .inl a :: st) m = go 169 375 ls (.inl (a + b) :: st) m := e_1 d169_374 (Or.inl rfl) rfl
theorem d169_375 : decode (mt 169).2.1 375 = .ok (.iaload, 1) := by decide +kernel
theorem s169_375 {ls : LV} {st : List AV} {m : MM} {n : Nat} {i : Int32} : go 169 375 ls (.inl i :: .inr (.inr (0, some n)) :: st) m = ixk (ix i (mN m 0 n)) (fun j => go 169 376 ls (.inl (mI m 0 n j) :: st) m) := e_ald d169_375 (fun j hj => by simp only [xi, pI, pA, hj, Option.bind_some]; rfl) (fun hj => by simp only [xi, pI, pA, hj, Option.bind_none])
theorem d169_376 : decode (mt 169).2.1 376 = .ok (.aload_n 0, 1) := by decide +kernel
theorem s169_376 {a1 a2 a3 : Option AV} {st : List AV} {m : MM} {x : Nat × Option Nat} : go 169 376 [some (.inr (.inr x)), a1, a2, a3] st m = go 169 377 [some (.inr (.inr x)), a1, a2, a3] (.inr (.inr x) :: st) m := e_1 d169_376 (Or.inl rfl) rfl
theorem d169_377 : decode (mt 169).2.1 377 = .ok (.iload_n 3, 1) := by decide +kernel
theorem s169_377 {a0 a1 a2 : Option AV} {st : List AV} {m : MM} {x : Int32} : go 169 377 [a0, a1, a2, some (.inl x)] st m = go 169 378 [a0, a1, a2, some (.inl x)] (.inl x :: st) m := e_1 d169_377 (Or.inl rfl) rfl
theorem d169_378 : decode (mt 169).2.1 378 = .ok (.iconst 3, 1) := by decide +kernel
theorem s169_378 {ls : LV} {st : List AV} {m : MM} : go 169 378 ls st m = go 169 379 ls (.inl 3 :: st) m := e_1 d169_378 (Or.inl rfl) rfl
theorem d169_379 : decode (mt 169).2.1 379 = .ok (.iadd, 1) := by decide +kernel
theorem s169_379 {ls : LV} {st : List AV} {m : MM} {a b : Int32} : go 169 379 ls (.inl b :: .inl a :: st) m = go 169 380 ls (.inl (a + b) :: st) m := e_1 d169_379 (Or.inl rfl) rfl
theorem d169_380 : decode (mt 169).2.1 380 = .ok (.iaload, 1) := by decide +kernel
theorem s169_380 {ls : LV} {st : List AV} {m : MM} {n : Nat} {i : Int32} : go 169 380 ls (.inl i :: .inr (.inr (0, some n)) :: st) m = ixk (ix i (mN m 0 n)) (fun j => go 169 381 ls (.inl (mI m 0 n j) :: st) m) := e_ald d169_380 (fun j hj => by simp only [xi, pI, pA, hj, Option.bind_some]; rfl) (fun hj => by simp only [xi, pI, pA, hj, Option.bind_none])
theorem d169_381 : decode (mt 169).2.1 381 = .ok (.invokevirtual 43, 3) := by decide +kernel
theorem s169_381 {ls : LV} {m : MM} {x0 : Int32} {x1 : Int32} {x2 : Int32} {n : Nat} : go 169 381 ls [.inl x2, .inl x1, .inl x0, .inr (.inr (7, some n))] m = bd (go 53 0 [some (.inr (.inr (7, some n))), some (.inl x0), some (.inl x1), some (.inl x2)] [] m) (fun v m2 => go 169 384 ls (v.toList ++ []) m2) := e_virt (y1 := 53) (na := 3) (as := [.inl x0, .inl x1, .inl x2]) (rest := []) d169_381 (by decide +kernel) rfl (by decide +kernel) (show (ent [.inr (.inr (7, some n)), .inl x0, .inl x1, .inl x2]).length ≤ (mt 53).2.2.2.1 from Nat.le_of_ble_eq_true rfl) (cats_le (Nat.le_of_ble_eq_true rfl)) (by decide +kernel)
theorem d169_384 : decode (mt 169).2.1 384 = .ok (.aload_n 2, 1) := by decide +kernel
theorem s169_384 {a0 a1 a3 : Option AV} {st : List AV} {m : MM} {x : Nat × Option Nat} : go 169 384 [a0, a1, some (.inr (.inr x)), a3] st m = go 169 385 [a0, a1, some (.inr (.inr x)), a3] (.inr (.inr x) :: st) m := e_1 d169_384 (Or.inl rfl) rfl
theorem d169_385 : decode (mt 169).2.1 385 = .ok (.aload_n 0, 1) := by decide +kernel
theorem s169_385 {a1 a2 a3 : Option AV} {st : List AV} {m : MM} {x : Nat × Option Nat} : go 169 385 [some (.inr (.inr x)), a1, a2, a3] st m = go 169 386 [some (.inr (.inr x)), a1, a2, a3] (.inr (.inr x) :: st) m := e_1 d169_385 (Or.inl rfl) rfl
theorem d169_386 : decode (mt 169).2.1 386 = .ok (.iload_n 3, 1) := by decide +kernel
theorem s169_386 {a0 a1 a2 : Option AV} {st : List AV} {m : MM} {x : Int32} : go 169 386 [a0, a1, a2, some (.inl x)] st m = go 169 387 [a0, a1, a2, some (.inl x)] (.inl x :: st) m := e_1 d169_386 (Or.inl rfl) rfl
theorem d169_387 : decode (mt 169).2.1 387 = .ok (.iconst 1, 1) := by decide +kernel
theorem s169_387 {ls : LV} {st : List AV} {m : MM} : go 169 387 ls st m = go 169 388 ls (.inl 1 :: st) m := e_1 d169_387 (Or.inl rfl) rfl
theorem d169_388 : decode (mt 169).2.1 388 = .ok (.iadd, 1) := by decide +kernel
theorem s169_388 {ls : LV} {st : List AV} {m : MM} {a b : Int32} : go 169 388 ls (.inl b :: .inl a :: st) m = go 169 389 ls (.inl (a + b) :: st) m := e_1 d169_388 (Or.inl rfl) rfl
theorem d169_389 : decode (mt 169).2.1 389 = .ok (.iaload, 1) := by decide +kernel
theorem s169_389 {ls : LV} {st : List AV} {m : MM} {n : Nat} {i : Int32} : go 169 389 ls (.inl i :: .inr (.inr (0, some n)) :: st) m = ixk (ix i (mN m 0 n)) (fun j => go 169 390 ls (.inl (mI m 0 n j) :: st) m) := e_ald d169_389 (fun j hj => by simp only [xi, pI, pA, hj, Option.bind_some]; rfl) (fun hj => by simp only [xi, pI, pA, hj, Option.bind_none])
theorem d169_390 : decode (mt 169).2.1 390 = .ok (.aload_n 0, 1) := by decide +kernel
theorem s169_390 {a1 a2 a3 : Option AV} {st : List AV} {m : MM} {x : Nat × Option Nat} : go 169 390 [some (.inr (.inr x)), a1, a2, a3] st m = go 169 391 [some (.inr (.inr x)), a1, a2, a3] (.inr (.inr x) :: st) m := e_1 d169_390 (Or.inl rfl) rfl
theorem d169_391 : decode (mt 169).2.1 391 = .ok (.iload_n 3, 1) := by decide +kernel
theorem s169_391 {a0 a1 a2 : Option AV} {st : List AV} {m : MM} {x : Int32} : go 169 391 [a0, a1, a2, some (.inl x)] st m = go 169 392 [a0, a1, a2, some (.inl x)] (.inl x :: st) m := e_1 d169_391 (Or.inl rfl) rfl
theorem d169_392 : decode (mt 169).2.1 392 = .ok (.iconst 2, 1) := by decide +kernel
theorem s169_392 {ls : LV} {st : List AV} {m : MM} : go 169 392 ls st m = go 169 393 ls (.inl 2 :: st) m := e_1 d169_392 (Or.inl rfl) rfl
theorem d169_393 : decode (mt 169).2.1 393 = .ok (.iadd, 1) := by decide +kernel
theorem s169_393 {ls : LV} {st : List AV} {m : MM} {a b : Int32} : go 169 393 ls (.inl b :: .inl a :: st) m = go 169 394 ls (.inl (a + b) :: st) m := e_1 d169_393 (Or.inl rfl) rfl
theorem d169_394 : decode (mt 169).2.1 394 = .ok (.iaload, 1) := by decide +kernel
theorem s169_394 {ls : LV} {st : List AV} {m : MM} {n : Nat} {i : Int32} : go 169 394 ls (.inl i :: .inr (.inr (0, some n)) :: st) m = ixk (ix i (mN m 0 n)) (fun j => go 169 395 ls (.inl (mI m 0 n j) :: st) m) := e_ald d169_394 (fun j hj => by simp only [xi, pI, pA, hj, Option.bind_some]; rfl) (fun hj => by simp only [xi, pI, pA, hj, Option.bind_none])
theorem d169_395 : decode (mt 169).2.1 395 = .ok (.aload_n 0, 1) := by decide +kernel
theorem s169_395 {a1 a2 a3 : Option AV} {st : List AV} {m : MM} {x : Nat × Option Nat} : go 169 395 [some (.inr (.inr x)), a1, a2, a3] st m = go 169 396 [some (.inr (.inr x)), a1, a2, a3] (.inr (.inr x) :: st) m := e_1 d169_395 (Or.inl rfl) rfl
theorem d169_396 : decode (mt 169).2.1 396 = .ok (.iload_n 3, 1) := by decide +kernel
theorem s169_396 {a0 a1 a2 : Option AV} {st : List AV} {m : MM} {x : Int32} : go 169 396 [a0, a1, a2, some (.inl x)] st m = go 169 397 [a0, a1, a2, some (.inl x)] (.inl x :: st) m := e_1 d169_396 (Or.inl rfl) rfl
theorem d169_397 : decode (mt 169).2.1 397 = .ok (.iconst 3, 1) := by decide +kernel
theorem s169_397 {ls : LV} {st : List AV} {m : MM} : go 169 397 ls st m = go 169 398 ls (.inl 3 :: st) m := e_1 d169_397 (Or.inl rfl) rfl
theorem d169_398 : decode (mt 169).2.1 398 = .ok (.iadd, 1) := by decide +kernel
theorem s169_398 {ls : LV} {st : List AV} {m : MM} {a b : Int32} : go 169 398 ls (.inl b :: .inl a :: st) m = go 169 399 ls (.inl (a + b) :: st) m := e_1 d169_398 (Or.inl rfl) rfl
theorem d169_399 : decode (mt 169).2.1 399 = .ok (.iaload, 1) := by decide +kernel
theorem s169_399 {ls : LV} {st : List AV} {m : MM} {n : Nat} {i : Int32} : go 169 399 ls (.inl i :: .inr (.inr (0, some n)) :: st) m = ixk (ix i (mN m 0 n)) (fun j => go 169 400 ls (.inl (mI m 0 n j) :: st) m) := e_ald d169_399 (fun j hj => by simp only [xi, pI, pA, hj, Option.bind_some]; rfl) (fun hj => by simp only [xi, pI, pA, hj, Option.bind_none])
theorem d169_400 : decode (mt 169).2.1 400 = .ok (.invokevirtual 47, 3) := by decide +kernel
theorem s169_400 {ls : LV} {m : MM} {x0 : Int32} {x1 : Int32} {x2 : Int32} {w0 : AV} {n : Nat} : go 169 400 ls [.inl x2, .inl x1, .inl x0, .inr (.inr (8, some n)), w0] m = bd (go 139 0 [some (.inr (.inr (8, some n))), some (.inl x0), some (.inl x1), some (.inl x2)] [] m) (fun v m2 => go 169 403 ls (v.toList ++ [w0]) m2) := e_virt (y1 := 139) (na := 3) (as := [.inl x0, .inl x1, .inl x2]) (rest := [w0]) d169_400 (by decide +kernel) rfl (by decide +kernel) (show (ent [.inr (.inr (8, some n)), .inl x0, .inl x1, .inl x2]).length ≤ (mt 139).2.2.2.1 from Nat.le_of_ble_eq_true rfl) (cats_le (Nat.le_of_ble_eq_true rfl)) (by decide +kernel)
theorem d169_403 : decode (mt 169).2.1 403 = .ok (.if_icmp .eq 660, 3) := by decide +kernel
theorem s169_403 {ls : LV} {st : List AV} {m : MM} {a b : Int32} : go 169 403 ls (.inl b :: .inl a :: st) m = if a = b then go 169 1063 ls st m else go 169 406 ls st m := e_if (t := 1063) (b := hc .eq a b) d169_403 (Or.inl rfl) (by simp only [xi, pI, jm_some (t := 1063) (show ((403 : Nat) : Int) + 660 = ((1063 : Nat) : Int) by decide), Option.bind_some]) (by simp [hc])
theorem d169_406 : decode (mt 169).2.1 406 = .ok (.iconst 0, 1) := by decide +kernel
theorem s169_406 {ls : LV} {st : List AV} {m : MM} : go 169 406 ls st m = go 169 407 ls (.inl 0 :: st) m := e_1 d169_406 (Or.inl rfl) rfl
theorem d169_407 : decode (mt 169).2.1 407 = .ok (.ireturn, 1) := by decide +kernel
theorem s169_407b0 {ls : LV} {m : MM} : go 169 407 ls [.inl 0] m = some (some (.inl 0), m) := e_bool d169_407 (by decide +kernel) (by decide)
theorem s169_407b1 {ls : LV} {m : MM} : go 169 407 ls [.inl 1] m = some (some (.inl 1), m) := e_bool d169_407 (by decide +kernel) (by decide)
theorem d169_408 : decode (mt 169).2.1 408 = .ok (.aload_n 1, 1) := by decide +kernel
theorem s169_408 {a0 a2 a3 : Option AV} {st : List AV} {m : MM} {x : Nat × Option Nat} : go 169 408 [a0, some (.inr (.inr x)), a2, a3] st m = go 169 409 [a0, some (.inr (.inr x)), a2, a3] (.inr (.inr x) :: st) m := e_1 d169_408 (Or.inl rfl) rfl
theorem d169_409 : decode (mt 169).2.1 409 = .ok (.aload_n 0, 1) := by decide +kernel
theorem s169_409 {a1 a2 a3 : Option AV} {st : List AV} {m : MM} {x : Nat × Option Nat} : go 169 409 [some (.inr (.inr x)), a1, a2, a3] st m = go 169 410 [some (.inr (.inr x)), a1, a2, a3] (.inr (.inr x) :: st) m := e_1 d169_409 (Or.inl rfl) rfl
theorem d169_410 : decode (mt 169).2.1 410 = .ok (.iload_n 3, 1) := by decide +kernel
theorem s169_410 {a0 a1 a2 : Option AV} {st : List AV} {m : MM} {x : Int32} : go 169 410 [a0, a1, a2, some (.inl x)] st m = go 169 411 [a0, a1, a2, some (.inl x)] (.inl x :: st) m := e_1 d169_410 (Or.inl rfl) rfl
theorem d169_411 : decode (mt 169).2.1 411 = .ok (.iconst 1, 1) := by decide +kernel
theorem s169_411 {ls : LV} {st : List AV} {m : MM} : go 169 411 ls st m = go 169 412 ls (.inl 1 :: st) m := e_1 d169_411 (Or.inl rfl) rfl
theorem d169_412 : decode (mt 169).2.1 412 = .ok (.iadd, 1) := by decide +kernel
theorem s169_412 {ls : LV} {st : List AV} {m : MM} {a b : Int32} : go 169 412 ls (.inl b :: .inl a :: st) m = go 169 413 ls (.inl (a + b) :: st) m := e_1 d169_412 (Or.inl rfl) rfl
theorem d169_413 : decode (mt 169).2.1 413 = .ok (.iaload, 1) := by decide +kernel
theorem s169_413 {ls : LV} {st : List AV} {m : MM} {n : Nat} {i : Int32} : go 169 413 ls (.inl i :: .inr (.inr (0, some n)) :: st) m = ixk (ix i (mN m 0 n)) (fun j => go 169 414 ls (.inl (mI m 0 n j) :: st) m) := e_ald d169_413 (fun j hj => by simp only [xi, pI, pA, hj, Option.bind_some]; rfl) (fun hj => by simp only [xi, pI, pA, hj, Option.bind_none])
theorem d169_414 : decode (mt 169).2.1 414 = .ok (.aload_n 0, 1) := by decide +kernel
theorem s169_414 {a1 a2 a3 : Option AV} {st : List AV} {m : MM} {x : Nat × Option Nat} : go 169 414 [some (.inr (.inr x)), a1, a2, a3] st m = go 169 415 [some (.inr (.inr x)), a1, a2, a3] (.inr (.inr x) :: st) m := e_1 d169_414 (Or.inl rfl) rfl
theorem d169_415 : decode (mt 169).2.1 415 = .ok (.iload_n 3, 1) := by decide +kernel
theorem s169_415 {a0 a1 a2 : Option AV} {st : List AV} {m : MM} {x : Int32} : go 169 415 [a0, a1, a2, some (.inl x)] st m = go 169 416 [a0, a1, a2, some (.inl x)] (.inl x :: st) m := e_1 d169_415 (Or.inl rfl) rfl
theorem d169_416 : decode (mt 169).2.1 416 = .ok (.iconst 2, 1) := by decide +kernel
theorem s169_416 {ls : LV} {st : List AV} {m : MM} : go 169 416 ls st m = go 169 417 ls (.inl 2 :: st) m := e_1 d169_416 (Or.inl rfl) rfl
theorem d169_417 : decode (mt 169).2.1 417 = .ok (.iadd, 1) := by decide +kernel
theorem s169_417 {ls : LV} {st : List AV} {m : MM} {a b : Int32} : go 169 417 ls (.inl b :: .inl a :: st) m = go 169 418 ls (.inl (a + b) :: st) m := e_1 d169_417 (Or.inl rfl) rfl
theorem d169_418 : decode (mt 169).2.1 418 = .ok (.iaload, 1) := by decide +kernel
theorem s169_418 {ls : LV} {st : List AV} {m : MM} {n : Nat} {i : Int32} : go 169 418 ls (.inl i :: .inr (.inr (0, some n)) :: st) m = ixk (ix i (mN m 0 n)) (fun j => go 169 419 ls (.inl (mI m 0 n j) :: st) m) := e_ald d169_418 (fun j hj => by simp only [xi, pI, pA, hj, Option.bind_some]; rfl) (fun hj => by simp only [xi, pI, pA, hj, Option.bind_none])
theorem d169_419 : decode (mt 169).2.1 419 = .ok (.aload_n 0, 1) := by decide +kernel
theorem s169_419 {a1 a2 a3 : Option AV} {st : List AV} {m : MM} {x : Nat × Option Nat} : go 169 419 [some (.inr (.inr x)), a1, a2, a3] st m = go 169 420 [some (.inr (.inr x)), a1, a2, a3] (.inr (.inr x) :: st) m := e_1 d169_419 (Or.inl rfl) rfl
theorem d169_420 : decode (mt 169).2.1 420 = .ok (.iload_n 3, 1) := by decide +kernel
theorem s169_420 {a0 a1 a2 : Option AV} {st : List AV} {m : MM} {x : Int32} : go 169 420 [a0, a1, a2, some (.inl x)] st m = go 169 421 [a0, a1, a2, some (.inl x)] (.inl x :: st) m := e_1 d169_420 (Or.inl rfl) rfl
theorem d169_421 : decode (mt 169).2.1 421 = .ok (.iconst 3, 1) := by decide +kernel
theorem s169_421 {ls : LV} {st : List AV} {m : MM} : go 169 421 ls st m = go 169 422 ls (.inl 3 :: st) m := e_1 d169_421 (Or.inl rfl) rfl
theorem d169_422 : decode (mt 169).2.1 422 = .ok (.iadd, 1) := by decide +kernel
theorem s169_422 {ls : LV} {st : List AV} {m : MM} {a b : Int32} : go 169 422 ls (.inl b :: .inl a :: st) m = go 169 423 ls (.inl (a + b) :: st) m := e_1 d169_422 (Or.inl rfl) rfl
theorem d169_423 : decode (mt 169).2.1 423 = .ok (.iaload, 1) := by decide +kernel
theorem s169_423 {ls : LV} {st : List AV} {m : MM} {n : Nat} {i : Int32} : go 169 423 ls (.inl i :: .inr (.inr (0, some n)) :: st) m = ixk (ix i (mN m 0 n)) (fun j => go 169 424 ls (.inl (mI m 0 n j) :: st) m) := e_ald d169_423 (fun j hj => by simp only [xi, pI, pA, hj, Option.bind_some]; rfl) (fun hj => by simp only [xi, pI, pA, hj, Option.bind_none])
theorem d169_424 : decode (mt 169).2.1 424 = .ok (.invokevirtual 48, 3) := by decide +kernel
theorem s169_424 {ls : LV} {m : MM} {x0 : Int32} {x1 : Int32} {x2 : Int32} {n : Nat} : go 169 424 ls [.inl x2, .inl x1, .inl x0, .inr (.inr (7, some n))] m = bd (go 54 0 [some (.inr (.inr (7, some n))), some (.inl x0), some (.inl x1), some (.inl x2)] [] m) (fun v m2 => go 169 427 ls (v.toList ++ []) m2) := e_virt (y1 := 54) (na := 3) (as := [.inl x0, .inl x1, .inl x2]) (rest := []) d169_424 (by decide +kernel) rfl (by decide +kernel) (show (ent [.inr (.inr (7, some n)), .inl x0, .inl x1, .inl x2]).length ≤ (mt 54).2.2.2.1 from Nat.le_of_ble_eq_true rfl) (cats_le (Nat.le_of_ble_eq_true rfl)) (by decide +kernel)
theorem d169_427 : decode (mt 169).2.1 427 = .ok (.aload_n 2, 1) := by decide +kernel
theorem s169_427 {a0 a1 a3 : Option AV} {st : List AV} {m : MM} {x : Nat × Option Nat} : go 169 427 [a0, a1, some (.inr (.inr x)), a3] st m = go 169 428 [a0, a1, some (.inr (.inr x)), a3] (.inr (.inr x) :: st) m := e_1 d169_427 (Or.inl rfl) rfl
theorem d169_428 : decode (mt 169).2.1 428 = .ok (.aload_n 0, 1) := by decide +kernel
theorem s169_428 {a1 a2 a3 : Option AV} {st : List AV} {m : MM} {x : Nat × Option Nat} : go 169 428 [some (.inr (.inr x)), a1, a2, a3] st m = go 169 429 [some (.inr (.inr x)), a1, a2, a3] (.inr (.inr x) :: st) m := e_1 d169_428 (Or.inl rfl) rfl
theorem d169_429 : decode (mt 169).2.1 429 = .ok (.iload_n 3, 1) := by decide +kernel
theorem s169_429 {a0 a1 a2 : Option AV} {st : List AV} {m : MM} {x : Int32} : go 169 429 [a0, a1, a2, some (.inl x)] st m = go 169 430 [a0, a1, a2, some (.inl x)] (.inl x :: st) m := e_1 d169_429 (Or.inl rfl) rfl
theorem d169_430 : decode (mt 169).2.1 430 = .ok (.iconst 1, 1) := by decide +kernel
theorem s169_430 {ls : LV} {st : List AV} {m : MM} : go 169 430 ls st m = go 169 431 ls (.inl 1 :: st) m := e_1 d169_430 (Or.inl rfl) rfl
theorem d169_431 : decode (mt 169).2.1 431 = .ok (.iadd, 1) := by decide +kernel
theorem s169_431 {ls : LV} {st : List AV} {m : MM} {a b : Int32} : go 169 431 ls (.inl b :: .inl a :: st) m = go 169 432 ls (.inl (a + b) :: st) m := e_1 d169_431 (Or.inl rfl) rfl
theorem d169_432 : decode (mt 169).2.1 432 = .ok (.iaload, 1) := by decide +kernel
theorem s169_432 {ls : LV} {st : List AV} {m : MM} {n : Nat} {i : Int32} : go 169 432 ls (.inl i :: .inr (.inr (0, some n)) :: st) m = ixk (ix i (mN m 0 n)) (fun j => go 169 433 ls (.inl (mI m 0 n j) :: st) m) := e_ald d169_432 (fun j hj => by simp only [xi, pI, pA, hj, Option.bind_some]; rfl) (fun hj => by simp only [xi, pI, pA, hj, Option.bind_none])
theorem d169_433 : decode (mt 169).2.1 433 = .ok (.aload_n 0, 1) := by decide +kernel
theorem s169_433 {a1 a2 a3 : Option AV} {st : List AV} {m : MM} {x : Nat × Option Nat} : go 169 433 [some (.inr (.inr x)), a1, a2, a3] st m = go 169 434 [some (.inr (.inr x)), a1, a2, a3] (.inr (.inr x) :: st) m := e_1 d169_433 (Or.inl rfl) rfl
theorem d169_434 : decode (mt 169).2.1 434 = .ok (.iload_n 3, 1) := by decide +kernel
theorem s169_434 {a0 a1 a2 : Option AV} {st : List AV} {m : MM} {x : Int32} : go 169 434 [a0, a1, a2, some (.inl x)] st m = go 169 435 [a0, a1, a2, some (.inl x)] (.inl x :: st) m := e_1 d169_434 (Or.inl rfl) rfl
theorem d169_435 : decode (mt 169).2.1 435 = .ok (.iconst 2, 1) := by decide +kernel
theorem s169_435 {ls : LV} {st : List AV} {m : MM} : go 169 435 ls st m = go 169 436 ls (.inl 2 :: st) m := e_1 d169_435 (Or.inl rfl) rfl
theorem d169_436 : decode (mt 169).2.1 436 = .ok (.iadd, 1) := by decide +kernel
theorem s169_436 {ls : LV} {st : List AV} {m : MM} {a b : Int32} : go 169 436 ls (.inl b :: .inl a :: st) m = go 169 437 ls (.inl (a + b) :: st) m := e_1 d169_436 (Or.inl rfl) rfl
theorem d169_437 : decode (mt 169).2.1 437 = .ok (.iaload, 1) := by decide +kernel
theorem s169_437 {ls : LV} {st : List AV} {m : MM} {n : Nat} {i : Int32} : go 169 437 ls (.inl i :: .inr (.inr (0, some n)) :: st) m = ixk (ix i (mN m 0 n)) (fun j => go 169 438 ls (.inl (mI m 0 n j) :: st) m) := e_ald d169_437 (fun j hj => by simp only [xi, pI, pA, hj, Option.bind_some]; rfl) (fun hj => by simp only [xi, pI, pA, hj, Option.bind_none])
theorem d169_438 : decode (mt 169).2.1 438 = .ok (.aload_n 0, 1) := by decide +kernel
theorem s169_438 {a1 a2 a3 : Option AV} {st : List AV} {m : MM} {x : Nat × Option Nat} : go 169 438 [some (.inr (.inr x)), a1, a2, a3] st m = go 169 439 [some (.inr (.inr x)), a1, a2, a3] (.inr (.inr x) :: st) m := e_1 d169_438 (Or.inl rfl) rfl
theorem d169_439 : decode (mt 169).2.1 439 = .ok (.iload_n 3, 1) := by decide +kernel
theorem s169_439 {a0 a1 a2 : Option AV} {st : List AV} {m : MM} {x : Int32} : go 169 439 [a0, a1, a2, some (.inl x)] st m = go 169 440 [a0, a1, a2, some (.inl x)] (.inl x :: st) m := e_1 d169_439 (Or.inl rfl) rfl
theorem d169_440 : decode (mt 169).2.1 440 = .ok (.iconst 3, 1) := by decide +kernel
theorem s169_440 {ls : LV} {st : List AV} {m : MM} : go 169 440 ls st m = go 169 441 ls (.inl 3 :: st) m := e_1 d169_440 (Or.inl rfl) rfl
theorem d169_441 : decode (mt 169).2.1 441 = .ok (.iadd, 1) := by decide +kernel
theorem s169_441 {ls : LV} {st : List AV} {m : MM} {a b : Int32} : go 169 441 ls (.inl b :: .inl a :: st) m = go 169 442 ls (.inl (a + b) :: st) m := e_1 d169_441 (Or.inl rfl) rfl
theorem d169_442 : decode (mt 169).2.1 442 = .ok (.iaload, 1) := by decide +kernel
theorem s169_442 {ls : LV} {st : List AV} {m : MM} {n : Nat} {i : Int32} : go 169 442 ls (.inl i :: .inr (.inr (0, some n)) :: st) m = ixk (ix i (mN m 0 n)) (fun j => go 169 443 ls (.inl (mI m 0 n j) :: st) m) := e_ald d169_442 (fun j hj => by simp only [xi, pI, pA, hj, Option.bind_some]; rfl) (fun hj => by simp only [xi, pI, pA, hj, Option.bind_none])
theorem d169_443 : decode (mt 169).2.1 443 = .ok (.invokevirtual 51, 3) := by decide +kernel
theorem s169_443 {ls : LV} {m : MM} {x0 : Int32} {x1 : Int32} {x2 : Int32} {w0 : AV} {n : Nat} : go 169 443 ls [.inl x2, .inl x1, .inl x0, .inr (.inr (8, some n)), w0] m = bd (go 140 0 [some (.inr (.inr (8, some n))), some (.inl x0), some (.inl x1), some (.inl x2)] [] m) (fun v m2 => go 169 446 ls (v.toList ++ [w0]) m2) := e_virt (y1 := 140) (na := 3) (as := [.inl x0, .inl x1, .inl x2]) (rest := [w0]) d169_443 (by decide +kernel) rfl (by decide +kernel) (show (ent [.inr (.inr (8, some n)), .inl x0, .inl x1, .inl x2]).length ≤ (mt 140).2.2.2.1 from Nat.le_of_ble_eq_true rfl) (cats_le (Nat.le_of_ble_eq_true rfl)) (by decide +kernel)
theorem d169_446 : decode (mt 169).2.1 446 = .ok (.if_icmp .eq 617, 3) := by decide +kernel
theorem s169_446 {ls : LV} {st : List AV} {m : MM} {a b : Int32} : go 169 446 ls (.inl b :: .inl a :: st) m = if a = b then go 169 1063 ls st m else go 169 449 ls st m := e_if (t := 1063) (b := hc .eq a b) d169_446 (Or.inl rfl) (by simp only [xi, pI, jm_some (t := 1063) (show ((446 : Nat) : Int) + 617 = ((1063 : Nat) : Int) by decide), Option.bind_some]) (by simp [hc])
theorem d169_449 : decode (mt 169).2.1 449 = .ok (.iconst 0, 1) := by decide +kernel
theorem s169_449 {ls : LV} {st : List AV} {m : MM} : go 169 449 ls st m = go 169 450 ls (.inl 0 :: st) m := e_1 d169_449 (Or.inl rfl) rfl
theorem d169_450 : decode (mt 169).2.1 450 = .ok (.ireturn, 1) := by decide +kernel
theorem s169_450b0 {ls : LV} {m : MM} : go 169 450 ls [.inl 0] m = some (some (.inl 0), m) := e_bool d169_450 (by decide +kernel) (by decide)
theorem s169_450b1 {ls : LV} {m : MM} : go 169 450 ls [.inl 1] m = some (some (.inl 1), m) := e_bool d169_450 (by decide +kernel) (by decide)
theorem d169_451 : decode (mt 169).2.1 451 = .ok (.aload_n 1, 1) := by decide +kernel
theorem s169_451 {a0 a2 a3 : Option AV} {st : List AV} {m : MM} {x : Nat × Option Nat} : go 169 451 [a0, some (.inr (.inr x)), a2, a3] st m = go 169 452 [a0, some (.inr (.inr x)), a2, a3] (.inr (.inr x) :: st) m := e_1 d169_451 (Or.inl rfl) rfl
theorem d169_452 : decode (mt 169).2.1 452 = .ok (.aload_n 0, 1) := by decide +kernel
theorem s169_452 {a1 a2 a3 : Option AV} {st : List AV} {m : MM} {x : Nat × Option Nat} : go 169 452 [some (.inr (.inr x)), a1, a2, a3] st m = go 169 453 [some (.inr (.inr x)), a1, a2, a3] (.inr (.inr x) :: st) m := e_1 d169_452 (Or.inl rfl) rfl
theorem d169_453 : decode (mt 169).2.1 453 = .ok (.iload_n 3, 1) := by decide +kernel
theorem s169_453 {a0 a1 a2 : Option AV} {st : List AV} {m : MM} {x : Int32} : go 169 453 [a0, a1, a2, some (.inl x)] st m = go 169 454 [a0, a1, a2, some (.inl x)] (.inl x :: st) m := e_1 d169_453 (Or.inl rfl) rfl
theorem d169_454 : decode (mt 169).2.1 454 = .ok (.iconst 1, 1) := by decide +kernel
theorem s169_454 {ls : LV} {st : List AV} {m : MM} : go 169 454 ls st m = go 169 455 ls (.inl 1 :: st) m := e_1 d169_454 (Or.inl rfl) rfl
theorem d169_455 : decode (mt 169).2.1 455 = .ok (.iadd, 1) := by decide +kernel
theorem s169_455 {ls : LV} {st : List AV} {m : MM} {a b : Int32} : go 169 455 ls (.inl b :: .inl a :: st) m = go 169 456 ls (.inl (a + b) :: st) m := e_1 d169_455 (Or.inl rfl) rfl
theorem d169_456 : decode (mt 169).2.1 456 = .ok (.iaload, 1) := by decide +kernel
theorem s169_456 {ls : LV} {st : List AV} {m : MM} {n : Nat} {i : Int32} : go 169 456 ls (.inl i :: .inr (.inr (0, some n)) :: st) m = ixk (ix i (mN m 0 n)) (fun j => go 169 457 ls (.inl (mI m 0 n j) :: st) m) := e_ald d169_456 (fun j hj => by simp only [xi, pI, pA, hj, Option.bind_some]; rfl) (fun hj => by simp only [xi, pI, pA, hj, Option.bind_none])
theorem d169_457 : decode (mt 169).2.1 457 = .ok (.aload_n 0, 1) := by decide +kernel
theorem s169_457 {a1 a2 a3 : Option AV} {st : List AV} {m : MM} {x : Nat × Option Nat} : go 169 457 [some (.inr (.inr x)), a1, a2, a3] st m = go 169 458 [some (.inr (.inr x)), a1, a2, a3] (.inr (.inr x) :: st) m := e_1 d169_457 (Or.inl rfl) rfl
theorem d169_458 : decode (mt 169).2.1 458 = .ok (.iload_n 3, 1) := by decide +kernel
theorem s169_458 {a0 a1 a2 : Option AV} {st : List AV} {m : MM} {x : Int32} : go 169 458 [a0, a1, a2, some (.inl x)] st m = go 169 459 [a0, a1, a2, some (.inl x)] (.inl x :: st) m := e_1 d169_458 (Or.inl rfl) rfl
theorem d169_459 : decode (mt 169).2.1 459 = .ok (.iconst 2, 1) := by decide +kernel
theorem s169_459 {ls : LV} {st : List AV} {m : MM} : go 169 459 ls st m = go 169 460 ls (.inl 2 :: st) m := e_1 d169_459 (Or.inl rfl) rfl
theorem d169_460 : decode (mt 169).2.1 460 = .ok (.iadd, 1) := by decide +kernel
theorem s169_460 {ls : LV} {st : List AV} {m : MM} {a b : Int32} : go 169 460 ls (.inl b :: .inl a :: st) m = go 169 461 ls (.inl (a + b) :: st) m := e_1 d169_460 (Or.inl rfl) rfl
theorem d169_461 : decode (mt 169).2.1 461 = .ok (.iaload, 1) := by decide +kernel
theorem s169_461 {ls : LV} {st : List AV} {m : MM} {n : Nat} {i : Int32} : go 169 461 ls (.inl i :: .inr (.inr (0, some n)) :: st) m = ixk (ix i (mN m 0 n)) (fun j => go 169 462 ls (.inl (mI m 0 n j) :: st) m) := e_ald d169_461 (fun j hj => by simp only [xi, pI, pA, hj, Option.bind_some]; rfl) (fun hj => by simp only [xi, pI, pA, hj, Option.bind_none])
theorem d169_462 : decode (mt 169).2.1 462 = .ok (.aload_n 0, 1) := by decide +kernel
theorem s169_462 {a1 a2 a3 : Option AV} {st : List AV} {m : MM} {x : Nat × Option Nat} : go 169 462 [some (.inr (.inr x)), a1, a2, a3] st m = go 169 463 [some (.inr (.inr x)), a1, a2, a3] (.inr (.inr x) :: st) m := e_1 d169_462 (Or.inl rfl) rfl
theorem d169_463 : decode (mt 169).2.1 463 = .ok (.iload_n 3, 1) := by decide +kernel
theorem s169_463 {a0 a1 a2 : Option AV} {st : List AV} {m : MM} {x : Int32} : go 169 463 [a0, a1, a2, some (.inl x)] st m = go 169 464 [a0, a1, a2, some (.inl x)] (.inl x :: st) m := e_1 d169_463 (Or.inl rfl) rfl
theorem d169_464 : decode (mt 169).2.1 464 = .ok (.iconst 3, 1) := by decide +kernel
theorem s169_464 {ls : LV} {st : List AV} {m : MM} : go 169 464 ls st m = go 169 465 ls (.inl 3 :: st) m := e_1 d169_464 (Or.inl rfl) rfl
theorem d169_465 : decode (mt 169).2.1 465 = .ok (.iadd, 1) := by decide +kernel
theorem s169_465 {ls : LV} {st : List AV} {m : MM} {a b : Int32} : go 169 465 ls (.inl b :: .inl a :: st) m = go 169 466 ls (.inl (a + b) :: st) m := e_1 d169_465 (Or.inl rfl) rfl
theorem d169_466 : decode (mt 169).2.1 466 = .ok (.iaload, 1) := by decide +kernel
theorem s169_466 {ls : LV} {st : List AV} {m : MM} {n : Nat} {i : Int32} : go 169 466 ls (.inl i :: .inr (.inr (0, some n)) :: st) m = ixk (ix i (mN m 0 n)) (fun j => go 169 467 ls (.inl (mI m 0 n j) :: st) m) := e_ald d169_466 (fun j hj => by simp only [xi, pI, pA, hj, Option.bind_some]; rfl) (fun hj => by simp only [xi, pI, pA, hj, Option.bind_none])
theorem d169_467 : decode (mt 169).2.1 467 = .ok (.i2l, 1) := by decide +kernel
theorem s169_467 {ls : LV} {st : List AV} {m : MM} {a : Int32} : go 169 467 ls (.inl a :: st) m = go 169 468 ls (.inr (.inl a.toInt64) :: st) m := e_1 d169_467 (Or.inl rfl) rfl
theorem d169_468 : decode (mt 169).2.1 468 = .ok (.bipush 32, 2) := by decide +kernel
theorem s169_468 {ls : LV} {st : List AV} {m : MM} : go 169 468 ls st m = go 169 470 ls (.inl 32 :: st) m := e_1 d169_468 (Or.inl rfl) rfl
theorem d169_470 : decode (mt 169).2.1 470 = .ok (.lshl, 1) := by decide +kernel
theorem s169_470 {ls : LV} {st : List AV} {m : MM} {a : Int64} {b : Int32} : go 169 470 ls (.inl b :: .inr (.inl a) :: st) m = go 169 471 ls (.inr (.inl (a <<< (b.toInt64 &&& 63))) :: st) m := e_1 d169_470 (Or.inl rfl) rfl
theorem d169_471 : decode (mt 169).2.1 471 = .ok (.aload_n 0, 1) := by decide +kernel
theorem s169_471 {a1 a2 a3 : Option AV} {st : List AV} {m : MM} {x : Nat × Option Nat} : go 169 471 [some (.inr (.inr x)), a1, a2, a3] st m = go 169 472 [some (.inr (.inr x)), a1, a2, a3] (.inr (.inr x) :: st) m := e_1 d169_471 (Or.inl rfl) rfl
theorem d169_472 : decode (mt 169).2.1 472 = .ok (.iload_n 3, 1) := by decide +kernel
theorem s169_472 {a0 a1 a2 : Option AV} {st : List AV} {m : MM} {x : Int32} : go 169 472 [a0, a1, a2, some (.inl x)] st m = go 169 473 [a0, a1, a2, some (.inl x)] (.inl x :: st) m := e_1 d169_472 (Or.inl rfl) rfl
theorem d169_473 : decode (mt 169).2.1 473 = .ok (.iconst 4, 1) := by decide +kernel
theorem s169_473 {ls : LV} {st : List AV} {m : MM} : go 169 473 ls st m = go 169 474 ls (.inl 4 :: st) m := e_1 d169_473 (Or.inl rfl) rfl
theorem d169_474 : decode (mt 169).2.1 474 = .ok (.iadd, 1) := by decide +kernel
theorem s169_474 {ls : LV} {st : List AV} {m : MM} {a b : Int32} : go 169 474 ls (.inl b :: .inl a :: st) m = go 169 475 ls (.inl (a + b) :: st) m := e_1 d169_474 (Or.inl rfl) rfl
theorem d169_475 : decode (mt 169).2.1 475 = .ok (.iaload, 1) := by decide +kernel
theorem s169_475 {ls : LV} {st : List AV} {m : MM} {n : Nat} {i : Int32} : go 169 475 ls (.inl i :: .inr (.inr (0, some n)) :: st) m = ixk (ix i (mN m 0 n)) (fun j => go 169 476 ls (.inl (mI m 0 n j) :: st) m) := e_ald d169_475 (fun j hj => by simp only [xi, pI, pA, hj, Option.bind_some]; rfl) (fun hj => by simp only [xi, pI, pA, hj, Option.bind_none])
theorem d169_476 : decode (mt 169).2.1 476 = .ok (.i2l, 1) := by decide +kernel
theorem s169_476 {ls : LV} {st : List AV} {m : MM} {a : Int32} : go 169 476 ls (.inl a :: st) m = go 169 477 ls (.inr (.inl a.toInt64) :: st) m := e_1 d169_476 (Or.inl rfl) rfl
theorem d169_477 : decode (mt 169).2.1 477 = .ok (.ldc2_w 52, 3) := by decide +kernel
theorem s169_477 {ls : LV} {st : List AV} {m : MM} : go 169 477 ls st m = go 169 480 ls (.inr (.inl 4294967295) :: st) m := e_1 d169_477 (Or.inl rfl) (by rw [xi, show lk c2L (mt 169).2.2.1 52 = some 4294967295 by decide +kernel]; rfl)
theorem d169_480 : decode (mt 169).2.1 480 = .ok (.land, 1) := by decide +kernel
theorem s169_480 {ls : LV} {st : List AV} {m : MM} {a b : Int64} : go 169 480 ls (.inr (.inl b) :: .inr (.inl a) :: st) m = go 169 481 ls (.inr (.inl (a &&& b)) :: st) m := e_1 d169_480 (Or.inl rfl) rfl
theorem d169_481 : decode (mt 169).2.1 481 = .ok (.lor, 1) := by decide +kernel
theorem s169_481 {ls : LV} {st : List AV} {m : MM} {a b : Int64} : go 169 481 ls (.inr (.inl b) :: .inr (.inl a) :: st) m = go 169 482 ls (.inr (.inl (a ||| b)) :: st) m := e_1 d169_481 (Or.inl rfl) rfl
theorem d169_482 : decode (mt 169).2.1 482 = .ok (.invokevirtual 54, 3) := by decide +kernel
theorem s169_482 {ls : LV} {m : MM} {x0 : Int32} {x1 : Int32} {x2 : Int64} {n : Nat} : go 169 482 ls [.inr (.inl x2), .inl x1, .inl x0, .inr (.inr (7, some n))] m = bd (go 55 0 [some (.inr (.inr (7, some n))), some (.inl x0), some (.inl x1), some (.inr (.inl x2)), none] [] m) (fun v m2 => go 169 485 ls (v.toList ++ []) m2) := e_virt (y1 := 55) (na := 3) (as := [.inl x0, .inl x1, .inr (.inl x2)]) (rest := []) d169_482 (by decide +kernel) rfl (by decide +kernel) (show (ent [.inr (.inr (7, some n)), .inl x0, .inl x1, .inr (.inl x2)]).length ≤ (mt 55).2.2.2.1 from Nat.le_of_ble_eq_true rfl) (cats_le (Nat.le_of_ble_eq_true rfl)) (by decide +kernel)
theorem d169_485 : decode (mt 169).2.1 485 = .ok (.aload_n 2, 1) := by decide +kernel
theorem s169_485 {a0 a1 a3 : Option AV} {st : List AV} {m : MM} {x : Nat × Option Nat} : go 169 485 [a0, a1, some (.inr (.inr x)), a3] st m = go 169 486 [a0, a1, some (.inr (.inr x)), a3] (.inr (.inr x) :: st) m := e_1 d169_485 (Or.inl rfl) rfl
theorem d169_486 : decode (mt 169).2.1 486 = .ok (.aload_n 0, 1) := by decide +kernel
theorem s169_486 {a1 a2 a3 : Option AV} {st : List AV} {m : MM} {x : Nat × Option Nat} : go 169 486 [some (.inr (.inr x)), a1, a2, a3] st m = go 169 487 [some (.inr (.inr x)), a1, a2, a3] (.inr (.inr x) :: st) m := e_1 d169_486 (Or.inl rfl) rfl
theorem d169_487 : decode (mt 169).2.1 487 = .ok (.iload_n 3, 1) := by decide +kernel
theorem s169_487 {a0 a1 a2 : Option AV} {st : List AV} {m : MM} {x : Int32} : go 169 487 [a0, a1, a2, some (.inl x)] st m = go 169 488 [a0, a1, a2, some (.inl x)] (.inl x :: st) m := e_1 d169_487 (Or.inl rfl) rfl
theorem d169_488 : decode (mt 169).2.1 488 = .ok (.iconst 1, 1) := by decide +kernel
theorem s169_488 {ls : LV} {st : List AV} {m : MM} : go 169 488 ls st m = go 169 489 ls (.inl 1 :: st) m := e_1 d169_488 (Or.inl rfl) rfl
theorem d169_489 : decode (mt 169).2.1 489 = .ok (.iadd, 1) := by decide +kernel
theorem s169_489 {ls : LV} {st : List AV} {m : MM} {a b : Int32} : go 169 489 ls (.inl b :: .inl a :: st) m = go 169 490 ls (.inl (a + b) :: st) m := e_1 d169_489 (Or.inl rfl) rfl
theorem d169_490 : decode (mt 169).2.1 490 = .ok (.iaload, 1) := by decide +kernel
theorem s169_490 {ls : LV} {st : List AV} {m : MM} {n : Nat} {i : Int32} : go 169 490 ls (.inl i :: .inr (.inr (0, some n)) :: st) m = ixk (ix i (mN m 0 n)) (fun j => go 169 491 ls (.inl (mI m 0 n j) :: st) m) := e_ald d169_490 (fun j hj => by simp only [xi, pI, pA, hj, Option.bind_some]; rfl) (fun hj => by simp only [xi, pI, pA, hj, Option.bind_none])
theorem d169_491 : decode (mt 169).2.1 491 = .ok (.aload_n 0, 1) := by decide +kernel
theorem s169_491 {a1 a2 a3 : Option AV} {st : List AV} {m : MM} {x : Nat × Option Nat} : go 169 491 [some (.inr (.inr x)), a1, a2, a3] st m = go 169 492 [some (.inr (.inr x)), a1, a2, a3] (.inr (.inr x) :: st) m := e_1 d169_491 (Or.inl rfl) rfl
theorem d169_492 : decode (mt 169).2.1 492 = .ok (.iload_n 3, 1) := by decide +kernel
theorem s169_492 {a0 a1 a2 : Option AV} {st : List AV} {m : MM} {x : Int32} : go 169 492 [a0, a1, a2, some (.inl x)] st m = go 169 493 [a0, a1, a2, some (.inl x)] (.inl x :: st) m := e_1 d169_492 (Or.inl rfl) rfl
theorem d169_493 : decode (mt 169).2.1 493 = .ok (.iconst 2, 1) := by decide +kernel
theorem s169_493 {ls : LV} {st : List AV} {m : MM} : go 169 493 ls st m = go 169 494 ls (.inl 2 :: st) m := e_1 d169_493 (Or.inl rfl) rfl
theorem d169_494 : decode (mt 169).2.1 494 = .ok (.iadd, 1) := by decide +kernel
theorem s169_494 {ls : LV} {st : List AV} {m : MM} {a b : Int32} : go 169 494 ls (.inl b :: .inl a :: st) m = go 169 495 ls (.inl (a + b) :: st) m := e_1 d169_494 (Or.inl rfl) rfl
theorem d169_495 : decode (mt 169).2.1 495 = .ok (.iaload, 1) := by decide +kernel
theorem s169_495 {ls : LV} {st : List AV} {m : MM} {n : Nat} {i : Int32} : go 169 495 ls (.inl i :: .inr (.inr (0, some n)) :: st) m = ixk (ix i (mN m 0 n)) (fun j => go 169 496 ls (.inl (mI m 0 n j) :: st) m) := e_ald d169_495 (fun j hj => by simp only [xi, pI, pA, hj, Option.bind_some]; rfl) (fun hj => by simp only [xi, pI, pA, hj, Option.bind_none])
theorem d169_496 : decode (mt 169).2.1 496 = .ok (.aload_n 0, 1) := by decide +kernel
theorem s169_496 {a1 a2 a3 : Option AV} {st : List AV} {m : MM} {x : Nat × Option Nat} : go 169 496 [some (.inr (.inr x)), a1, a2, a3] st m = go 169 497 [some (.inr (.inr x)), a1, a2, a3] (.inr (.inr x) :: st) m := e_1 d169_496 (Or.inl rfl) rfl
theorem d169_497 : decode (mt 169).2.1 497 = .ok (.iload_n 3, 1) := by decide +kernel
theorem s169_497 {a0 a1 a2 : Option AV} {st : List AV} {m : MM} {x : Int32} : go 169 497 [a0, a1, a2, some (.inl x)] st m = go 169 498 [a0, a1, a2, some (.inl x)] (.inl x :: st) m := e_1 d169_497 (Or.inl rfl) rfl
theorem d169_498 : decode (mt 169).2.1 498 = .ok (.iconst 3, 1) := by decide +kernel
theorem s169_498 {ls : LV} {st : List AV} {m : MM} : go 169 498 ls st m = go 169 499 ls (.inl 3 :: st) m := e_1 d169_498 (Or.inl rfl) rfl
theorem d169_499 : decode (mt 169).2.1 499 = .ok (.iadd, 1) := by decide +kernel
theorem s169_499 {ls : LV} {st : List AV} {m : MM} {a b : Int32} : go 169 499 ls (.inl b :: .inl a :: st) m = go 169 500 ls (.inl (a + b) :: st) m := e_1 d169_499 (Or.inl rfl) rfl
theorem d169_500 : decode (mt 169).2.1 500 = .ok (.iaload, 1) := by decide +kernel
theorem s169_500 {ls : LV} {st : List AV} {m : MM} {n : Nat} {i : Int32} : go 169 500 ls (.inl i :: .inr (.inr (0, some n)) :: st) m = ixk (ix i (mN m 0 n)) (fun j => go 169 501 ls (.inl (mI m 0 n j) :: st) m) := e_ald d169_500 (fun j hj => by simp only [xi, pI, pA, hj, Option.bind_some]; rfl) (fun hj => by simp only [xi, pI, pA, hj, Option.bind_none])
theorem d169_501 : decode (mt 169).2.1 501 = .ok (.i2l, 1) := by decide +kernel
theorem s169_501 {ls : LV} {st : List AV} {m : MM} {a : Int32} : go 169 501 ls (.inl a :: st) m = go 169 502 ls (.inr (.inl a.toInt64) :: st) m := e_1 d169_501 (Or.inl rfl) rfl
theorem d169_502 : decode (mt 169).2.1 502 = .ok (.bipush 32, 2) := by decide +kernel
theorem s169_502 {ls : LV} {st : List AV} {m : MM} : go 169 502 ls st m = go 169 504 ls (.inl 32 :: st) m := e_1 d169_502 (Or.inl rfl) rfl
theorem d169_504 : decode (mt 169).2.1 504 = .ok (.lshl, 1) := by decide +kernel
theorem s169_504 {ls : LV} {st : List AV} {m : MM} {a : Int64} {b : Int32} : go 169 504 ls (.inl b :: .inr (.inl a) :: st) m = go 169 505 ls (.inr (.inl (a <<< (b.toInt64 &&& 63))) :: st) m := e_1 d169_504 (Or.inl rfl) rfl
theorem d169_505 : decode (mt 169).2.1 505 = .ok (.aload_n 0, 1) := by decide +kernel
theorem s169_505 {a1 a2 a3 : Option AV} {st : List AV} {m : MM} {x : Nat × Option Nat} : go 169 505 [some (.inr (.inr x)), a1, a2, a3] st m = go 169 506 [some (.inr (.inr x)), a1, a2, a3] (.inr (.inr x) :: st) m := e_1 d169_505 (Or.inl rfl) rfl
theorem d169_506 : decode (mt 169).2.1 506 = .ok (.iload_n 3, 1) := by decide +kernel
theorem s169_506 {a0 a1 a2 : Option AV} {st : List AV} {m : MM} {x : Int32} : go 169 506 [a0, a1, a2, some (.inl x)] st m = go 169 507 [a0, a1, a2, some (.inl x)] (.inl x :: st) m := e_1 d169_506 (Or.inl rfl) rfl
theorem d169_507 : decode (mt 169).2.1 507 = .ok (.iconst 4, 1) := by decide +kernel
theorem s169_507 {ls : LV} {st : List AV} {m : MM} : go 169 507 ls st m = go 169 508 ls (.inl 4 :: st) m := e_1 d169_507 (Or.inl rfl) rfl
theorem d169_508 : decode (mt 169).2.1 508 = .ok (.iadd, 1) := by decide +kernel
theorem s169_508 {ls : LV} {st : List AV} {m : MM} {a b : Int32} : go 169 508 ls (.inl b :: .inl a :: st) m = go 169 509 ls (.inl (a + b) :: st) m := e_1 d169_508 (Or.inl rfl) rfl
theorem d169_509 : decode (mt 169).2.1 509 = .ok (.iaload, 1) := by decide +kernel
theorem s169_509 {ls : LV} {st : List AV} {m : MM} {n : Nat} {i : Int32} : go 169 509 ls (.inl i :: .inr (.inr (0, some n)) :: st) m = ixk (ix i (mN m 0 n)) (fun j => go 169 510 ls (.inl (mI m 0 n j) :: st) m) := e_ald d169_509 (fun j hj => by simp only [xi, pI, pA, hj, Option.bind_some]; rfl) (fun hj => by simp only [xi, pI, pA, hj, Option.bind_none])
theorem d169_510 : decode (mt 169).2.1 510 = .ok (.i2l, 1) := by decide +kernel
theorem s169_510 {ls : LV} {st : List AV} {m : MM} {a : Int32} : go 169 510 ls (.inl a :: st) m = go 169 511 ls (.inr (.inl a.toInt64) :: st) m := e_1 d169_510 (Or.inl rfl) rfl
theorem d169_511 : decode (mt 169).2.1 511 = .ok (.ldc2_w 52, 3) := by decide +kernel
theorem s169_511 {ls : LV} {st : List AV} {m : MM} : go 169 511 ls st m = go 169 514 ls (.inr (.inl 4294967295) :: st) m := e_1 d169_511 (Or.inl rfl) (by rw [xi, show lk c2L (mt 169).2.2.1 52 = some 4294967295 by decide +kernel]; rfl)
theorem d169_514 : decode (mt 169).2.1 514 = .ok (.land, 1) := by decide +kernel
theorem s169_514 {ls : LV} {st : List AV} {m : MM} {a b : Int64} : go 169 514 ls (.inr (.inl b) :: .inr (.inl a) :: st) m = go 169 515 ls (.inr (.inl (a &&& b)) :: st) m := e_1 d169_514 (Or.inl rfl) rfl
theorem d169_515 : decode (mt 169).2.1 515 = .ok (.lor, 1) := by decide +kernel
theorem s169_515 {ls : LV} {st : List AV} {m : MM} {a b : Int64} : go 169 515 ls (.inr (.inl b) :: .inr (.inl a) :: st) m = go 169 516 ls (.inr (.inl (a ||| b)) :: st) m := e_1 d169_515 (Or.inl rfl) rfl
theorem d169_516 : decode (mt 169).2.1 516 = .ok (.invokevirtual 58, 3) := by decide +kernel
theorem s169_516 {ls : LV} {m : MM} {x0 : Int32} {x1 : Int32} {x2 : Int64} {w0 : AV} {n : Nat} : go 169 516 ls [.inr (.inl x2), .inl x1, .inl x0, .inr (.inr (8, some n)), w0] m = bd (go 141 0 [some (.inr (.inr (8, some n))), some (.inl x0), some (.inl x1), some (.inr (.inl x2)), none] [] m) (fun v m2 => go 169 519 ls (v.toList ++ [w0]) m2) := e_virt (y1 := 141) (na := 3) (as := [.inl x0, .inl x1, .inr (.inl x2)]) (rest := [w0]) d169_516 (by decide +kernel) rfl (by decide +kernel) (show (ent [.inr (.inr (8, some n)), .inl x0, .inl x1, .inr (.inl x2)]).length ≤ (mt 141).2.2.2.1 from Nat.le_of_ble_eq_true rfl) (cats_le (Nat.le_of_ble_eq_true rfl)) (by decide +kernel)
theorem d169_519 : decode (mt 169).2.1 519 = .ok (.if_icmp .eq 544, 3) := by decide +kernel
theorem s169_519 {ls : LV} {st : List AV} {m : MM} {a b : Int32} : go 169 519 ls (.inl b :: .inl a :: st) m = if a = b then go 169 1063 ls st m else go 169 522 ls st m := e_if (t := 1063) (b := hc .eq a b) d169_519 (Or.inl rfl) (by simp only [xi, pI, jm_some (t := 1063) (show ((519 : Nat) : Int) + 544 = ((1063 : Nat) : Int) by decide), Option.bind_some]) (by simp [hc])
theorem d169_522 : decode (mt 169).2.1 522 = .ok (.iconst 0, 1) := by decide +kernel
theorem s169_522 {ls : LV} {st : List AV} {m : MM} : go 169 522 ls st m = go 169 523 ls (.inl 0 :: st) m := e_1 d169_522 (Or.inl rfl) rfl
theorem d169_523 : decode (mt 169).2.1 523 = .ok (.ireturn, 1) := by decide +kernel
theorem s169_523b0 {ls : LV} {m : MM} : go 169 523 ls [.inl 0] m = some (some (.inl 0), m) := e_bool d169_523 (by decide +kernel) (by decide)
theorem s169_523b1 {ls : LV} {m : MM} : go 169 523 ls [.inl 1] m = some (some (.inl 1), m) := e_bool d169_523 (by decide +kernel) (by decide)
theorem d169_524 : decode (mt 169).2.1 524 = .ok (.aload_n 1, 1) := by decide +kernel
theorem s169_524 {a0 a2 a3 : Option AV} {st : List AV} {m : MM} {x : Nat × Option Nat} : go 169 524 [a0, some (.inr (.inr x)), a2, a3] st m = go 169 525 [a0, some (.inr (.inr x)), a2, a3] (.inr (.inr x) :: st) m := e_1 d169_524 (Or.inl rfl) rfl
theorem d169_525 : decode (mt 169).2.1 525 = .ok (.aload_n 0, 1) := by decide +kernel
theorem s169_525 {a1 a2 a3 : Option AV} {st : List AV} {m : MM} {x : Nat × Option Nat} : go 169 525 [some (.inr (.inr x)), a1, a2, a3] st m = go 169 526 [some (.inr (.inr x)), a1, a2, a3] (.inr (.inr x) :: st) m := e_1 d169_525 (Or.inl rfl) rfl
theorem d169_526 : decode (mt 169).2.1 526 = .ok (.iload_n 3, 1) := by decide +kernel
theorem s169_526 {a0 a1 a2 : Option AV} {st : List AV} {m : MM} {x : Int32} : go 169 526 [a0, a1, a2, some (.inl x)] st m = go 169 527 [a0, a1, a2, some (.inl x)] (.inl x :: st) m := e_1 d169_526 (Or.inl rfl) rfl
theorem d169_527 : decode (mt 169).2.1 527 = .ok (.iconst 1, 1) := by decide +kernel
theorem s169_527 {ls : LV} {st : List AV} {m : MM} : go 169 527 ls st m = go 169 528 ls (.inl 1 :: st) m := e_1 d169_527 (Or.inl rfl) rfl
theorem d169_528 : decode (mt 169).2.1 528 = .ok (.iadd, 1) := by decide +kernel
theorem s169_528 {ls : LV} {st : List AV} {m : MM} {a b : Int32} : go 169 528 ls (.inl b :: .inl a :: st) m = go 169 529 ls (.inl (a + b) :: st) m := e_1 d169_528 (Or.inl rfl) rfl
theorem d169_529 : decode (mt 169).2.1 529 = .ok (.iaload, 1) := by decide +kernel
theorem s169_529 {ls : LV} {st : List AV} {m : MM} {n : Nat} {i : Int32} : go 169 529 ls (.inl i :: .inr (.inr (0, some n)) :: st) m = ixk (ix i (mN m 0 n)) (fun j => go 169 530 ls (.inl (mI m 0 n j) :: st) m) := e_ald d169_529 (fun j hj => by simp only [xi, pI, pA, hj, Option.bind_some]; rfl) (fun hj => by simp only [xi, pI, pA, hj, Option.bind_none])
theorem d169_530 : decode (mt 169).2.1 530 = .ok (.aload_n 0, 1) := by decide +kernel
theorem s169_530 {a1 a2 a3 : Option AV} {st : List AV} {m : MM} {x : Nat × Option Nat} : go 169 530 [some (.inr (.inr x)), a1, a2, a3] st m = go 169 531 [some (.inr (.inr x)), a1, a2, a3] (.inr (.inr x) :: st) m := e_1 d169_530 (Or.inl rfl) rfl
theorem d169_531 : decode (mt 169).2.1 531 = .ok (.iload_n 3, 1) := by decide +kernel
theorem s169_531 {a0 a1 a2 : Option AV} {st : List AV} {m : MM} {x : Int32} : go 169 531 [a0, a1, a2, some (.inl x)] st m = go 169 532 [a0, a1, a2, some (.inl x)] (.inl x :: st) m := e_1 d169_531 (Or.inl rfl) rfl
theorem d169_532 : decode (mt 169).2.1 532 = .ok (.iconst 2, 1) := by decide +kernel
theorem s169_532 {ls : LV} {st : List AV} {m : MM} : go 169 532 ls st m = go 169 533 ls (.inl 2 :: st) m := e_1 d169_532 (Or.inl rfl) rfl
theorem d169_533 : decode (mt 169).2.1 533 = .ok (.iadd, 1) := by decide +kernel
theorem s169_533 {ls : LV} {st : List AV} {m : MM} {a b : Int32} : go 169 533 ls (.inl b :: .inl a :: st) m = go 169 534 ls (.inl (a + b) :: st) m := e_1 d169_533 (Or.inl rfl) rfl
theorem d169_534 : decode (mt 169).2.1 534 = .ok (.iaload, 1) := by decide +kernel
theorem s169_534 {ls : LV} {st : List AV} {m : MM} {n : Nat} {i : Int32} : go 169 534 ls (.inl i :: .inr (.inr (0, some n)) :: st) m = ixk (ix i (mN m 0 n)) (fun j => go 169 535 ls (.inl (mI m 0 n j) :: st) m) := e_ald d169_534 (fun j hj => by simp only [xi, pI, pA, hj, Option.bind_some]; rfl) (fun hj => by simp only [xi, pI, pA, hj, Option.bind_none])
theorem d169_535 : decode (mt 169).2.1 535 = .ok (.invokevirtual 59, 3) := by decide +kernel
theorem s169_535 {ls : LV} {m : MM} {x0 : Int32} {x1 : Int32} {n : Nat} : go 169 535 ls [.inl x1, .inl x0, .inr (.inr (7, some n))] m = bd (go 56 0 [some (.inr (.inr (7, some n))), some (.inl x0), some (.inl x1)] [] m) (fun v m2 => go 169 538 ls (v.toList ++ []) m2) := e_virt (y1 := 56) (na := 2) (as := [.inl x0, .inl x1]) (rest := []) d169_535 (by decide +kernel) rfl (by decide +kernel) (show (ent [.inr (.inr (7, some n)), .inl x0, .inl x1]).length ≤ (mt 56).2.2.2.1 from Nat.le_of_ble_eq_true rfl) (cats_le (Nat.le_of_ble_eq_true rfl)) (by decide +kernel)
theorem d169_538 : decode (mt 169).2.1 538 = .ok (.aload_n 2, 1) := by decide +kernel
theorem s169_538 {a0 a1 a3 : Option AV} {st : List AV} {m : MM} {x : Nat × Option Nat} : go 169 538 [a0, a1, some (.inr (.inr x)), a3] st m = go 169 539 [a0, a1, some (.inr (.inr x)), a3] (.inr (.inr x) :: st) m := e_1 d169_538 (Or.inl rfl) rfl
theorem d169_539 : decode (mt 169).2.1 539 = .ok (.aload_n 0, 1) := by decide +kernel
theorem s169_539 {a1 a2 a3 : Option AV} {st : List AV} {m : MM} {x : Nat × Option Nat} : go 169 539 [some (.inr (.inr x)), a1, a2, a3] st m = go 169 540 [some (.inr (.inr x)), a1, a2, a3] (.inr (.inr x) :: st) m := e_1 d169_539 (Or.inl rfl) rfl
theorem d169_540 : decode (mt 169).2.1 540 = .ok (.iload_n 3, 1) := by decide +kernel
theorem s169_540 {a0 a1 a2 : Option AV} {st : List AV} {m : MM} {x : Int32} : go 169 540 [a0, a1, a2, some (.inl x)] st m = go 169 541 [a0, a1, a2, some (.inl x)] (.inl x :: st) m := e_1 d169_540 (Or.inl rfl) rfl
theorem d169_541 : decode (mt 169).2.1 541 = .ok (.iconst 1, 1) := by decide +kernel
theorem s169_541 {ls : LV} {st : List AV} {m : MM} : go 169 541 ls st m = go 169 542 ls (.inl 1 :: st) m := e_1 d169_541 (Or.inl rfl) rfl
theorem d169_542 : decode (mt 169).2.1 542 = .ok (.iadd, 1) := by decide +kernel
theorem s169_542 {ls : LV} {st : List AV} {m : MM} {a b : Int32} : go 169 542 ls (.inl b :: .inl a :: st) m = go 169 543 ls (.inl (a + b) :: st) m := e_1 d169_542 (Or.inl rfl) rfl
theorem d169_543 : decode (mt 169).2.1 543 = .ok (.iaload, 1) := by decide +kernel
theorem s169_543 {ls : LV} {st : List AV} {m : MM} {n : Nat} {i : Int32} : go 169 543 ls (.inl i :: .inr (.inr (0, some n)) :: st) m = ixk (ix i (mN m 0 n)) (fun j => go 169 544 ls (.inl (mI m 0 n j) :: st) m) := e_ald d169_543 (fun j hj => by simp only [xi, pI, pA, hj, Option.bind_some]; rfl) (fun hj => by simp only [xi, pI, pA, hj, Option.bind_none])
theorem d169_544 : decode (mt 169).2.1 544 = .ok (.aload_n 0, 1) := by decide +kernel
theorem s169_544 {a1 a2 a3 : Option AV} {st : List AV} {m : MM} {x : Nat × Option Nat} : go 169 544 [some (.inr (.inr x)), a1, a2, a3] st m = go 169 545 [some (.inr (.inr x)), a1, a2, a3] (.inr (.inr x) :: st) m := e_1 d169_544 (Or.inl rfl) rfl
theorem d169_545 : decode (mt 169).2.1 545 = .ok (.iload_n 3, 1) := by decide +kernel
theorem s169_545 {a0 a1 a2 : Option AV} {st : List AV} {m : MM} {x : Int32} : go 169 545 [a0, a1, a2, some (.inl x)] st m = go 169 546 [a0, a1, a2, some (.inl x)] (.inl x :: st) m := e_1 d169_545 (Or.inl rfl) rfl
theorem d169_546 : decode (mt 169).2.1 546 = .ok (.iconst 2, 1) := by decide +kernel
theorem s169_546 {ls : LV} {st : List AV} {m : MM} : go 169 546 ls st m = go 169 547 ls (.inl 2 :: st) m := e_1 d169_546 (Or.inl rfl) rfl
theorem d169_547 : decode (mt 169).2.1 547 = .ok (.iadd, 1) := by decide +kernel
theorem s169_547 {ls : LV} {st : List AV} {m : MM} {a b : Int32} : go 169 547 ls (.inl b :: .inl a :: st) m = go 169 548 ls (.inl (a + b) :: st) m := e_1 d169_547 (Or.inl rfl) rfl
theorem d169_548 : decode (mt 169).2.1 548 = .ok (.iaload, 1) := by decide +kernel
theorem s169_548 {ls : LV} {st : List AV} {m : MM} {n : Nat} {i : Int32} : go 169 548 ls (.inl i :: .inr (.inr (0, some n)) :: st) m = ixk (ix i (mN m 0 n)) (fun j => go 169 549 ls (.inl (mI m 0 n j) :: st) m) := e_ald d169_548 (fun j hj => by simp only [xi, pI, pA, hj, Option.bind_some]; rfl) (fun hj => by simp only [xi, pI, pA, hj, Option.bind_none])
theorem d169_549 : decode (mt 169).2.1 549 = .ok (.invokevirtual 62, 3) := by decide +kernel
theorem s169_549 {ls : LV} {m : MM} {x0 : Int32} {x1 : Int32} {w0 : AV} {n : Nat} : go 169 549 ls [.inl x1, .inl x0, .inr (.inr (8, some n)), w0] m = bd (go 142 0 [some (.inr (.inr (8, some n))), some (.inl x0), some (.inl x1)] [] m) (fun v m2 => go 169 552 ls (v.toList ++ [w0]) m2) := e_virt (y1 := 142) (na := 2) (as := [.inl x0, .inl x1]) (rest := [w0]) d169_549 (by decide +kernel) rfl (by decide +kernel) (show (ent [.inr (.inr (8, some n)), .inl x0, .inl x1]).length ≤ (mt 142).2.2.2.1 from Nat.le_of_ble_eq_true rfl) (cats_le (Nat.le_of_ble_eq_true rfl)) (by decide +kernel)
theorem d169_552 : decode (mt 169).2.1 552 = .ok (.if_icmp .eq 511, 3) := by decide +kernel
theorem s169_552 {ls : LV} {st : List AV} {m : MM} {a b : Int32} : go 169 552 ls (.inl b :: .inl a :: st) m = if a = b then go 169 1063 ls st m else go 169 555 ls st m := e_if (t := 1063) (b := hc .eq a b) d169_552 (Or.inl rfl) (by simp only [xi, pI, jm_some (t := 1063) (show ((552 : Nat) : Int) + 511 = ((1063 : Nat) : Int) by decide), Option.bind_some]) (by simp [hc])
theorem d169_555 : decode (mt 169).2.1 555 = .ok (.iconst 0, 1) := by decide +kernel
theorem s169_555 {ls : LV} {st : List AV} {m : MM} : go 169 555 ls st m = go 169 556 ls (.inl 0 :: st) m := e_1 d169_555 (Or.inl rfl) rfl
theorem d169_556 : decode (mt 169).2.1 556 = .ok (.ireturn, 1) := by decide +kernel
theorem s169_556b0 {ls : LV} {m : MM} : go 169 556 ls [.inl 0] m = some (some (.inl 0), m) := e_bool d169_556 (by decide +kernel) (by decide)
theorem s169_556b1 {ls : LV} {m : MM} : go 169 556 ls [.inl 1] m = some (some (.inl 1), m) := e_bool d169_556 (by decide +kernel) (by decide)
theorem d169_557 : decode (mt 169).2.1 557 = .ok (.aload_n 1, 1) := by decide +kernel
theorem s169_557 {a0 a2 a3 : Option AV} {st : List AV} {m : MM} {x : Nat × Option Nat} : go 169 557 [a0, some (.inr (.inr x)), a2, a3] st m = go 169 558 [a0, some (.inr (.inr x)), a2, a3] (.inr (.inr x) :: st) m := e_1 d169_557 (Or.inl rfl) rfl
theorem d169_558 : decode (mt 169).2.1 558 = .ok (.aload_n 0, 1) := by decide +kernel
theorem s169_558 {a1 a2 a3 : Option AV} {st : List AV} {m : MM} {x : Nat × Option Nat} : go 169 558 [some (.inr (.inr x)), a1, a2, a3] st m = go 169 559 [some (.inr (.inr x)), a1, a2, a3] (.inr (.inr x) :: st) m := e_1 d169_558 (Or.inl rfl) rfl
theorem d169_559 : decode (mt 169).2.1 559 = .ok (.iload_n 3, 1) := by decide +kernel
theorem s169_559 {a0 a1 a2 : Option AV} {st : List AV} {m : MM} {x : Int32} : go 169 559 [a0, a1, a2, some (.inl x)] st m = go 169 560 [a0, a1, a2, some (.inl x)] (.inl x :: st) m := e_1 d169_559 (Or.inl rfl) rfl
theorem d169_560 : decode (mt 169).2.1 560 = .ok (.iconst 1, 1) := by decide +kernel
theorem s169_560 {ls : LV} {st : List AV} {m : MM} : go 169 560 ls st m = go 169 561 ls (.inl 1 :: st) m := e_1 d169_560 (Or.inl rfl) rfl
theorem d169_561 : decode (mt 169).2.1 561 = .ok (.iadd, 1) := by decide +kernel
theorem s169_561 {ls : LV} {st : List AV} {m : MM} {a b : Int32} : go 169 561 ls (.inl b :: .inl a :: st) m = go 169 562 ls (.inl (a + b) :: st) m := e_1 d169_561 (Or.inl rfl) rfl
theorem d169_562 : decode (mt 169).2.1 562 = .ok (.iaload, 1) := by decide +kernel
theorem s169_562 {ls : LV} {st : List AV} {m : MM} {n : Nat} {i : Int32} : go 169 562 ls (.inl i :: .inr (.inr (0, some n)) :: st) m = ixk (ix i (mN m 0 n)) (fun j => go 169 563 ls (.inl (mI m 0 n j) :: st) m) := e_ald d169_562 (fun j hj => by simp only [xi, pI, pA, hj, Option.bind_some]; rfl) (fun hj => by simp only [xi, pI, pA, hj, Option.bind_none])
theorem d169_563 : decode (mt 169).2.1 563 = .ok (.aload_n 0, 1) := by decide +kernel
theorem s169_563 {a1 a2 a3 : Option AV} {st : List AV} {m : MM} {x : Nat × Option Nat} : go 169 563 [some (.inr (.inr x)), a1, a2, a3] st m = go 169 564 [some (.inr (.inr x)), a1, a2, a3] (.inr (.inr x) :: st) m := e_1 d169_563 (Or.inl rfl) rfl
theorem d169_564 : decode (mt 169).2.1 564 = .ok (.iload_n 3, 1) := by decide +kernel
theorem s169_564 {a0 a1 a2 : Option AV} {st : List AV} {m : MM} {x : Int32} : go 169 564 [a0, a1, a2, some (.inl x)] st m = go 169 565 [a0, a1, a2, some (.inl x)] (.inl x :: st) m := e_1 d169_564 (Or.inl rfl) rfl
theorem d169_565 : decode (mt 169).2.1 565 = .ok (.iconst 2, 1) := by decide +kernel
theorem s169_565 {ls : LV} {st : List AV} {m : MM} : go 169 565 ls st m = go 169 566 ls (.inl 2 :: st) m := e_1 d169_565 (Or.inl rfl) rfl
theorem d169_566 : decode (mt 169).2.1 566 = .ok (.iadd, 1) := by decide +kernel
theorem s169_566 {ls : LV} {st : List AV} {m : MM} {a b : Int32} : go 169 566 ls (.inl b :: .inl a :: st) m = go 169 567 ls (.inl (a + b) :: st) m := e_1 d169_566 (Or.inl rfl) rfl
theorem d169_567 : decode (mt 169).2.1 567 = .ok (.iaload, 1) := by decide +kernel
theorem s169_567 {ls : LV} {st : List AV} {m : MM} {n : Nat} {i : Int32} : go 169 567 ls (.inl i :: .inr (.inr (0, some n)) :: st) m = ixk (ix i (mN m 0 n)) (fun j => go 169 568 ls (.inl (mI m 0 n j) :: st) m) := e_ald d169_567 (fun j hj => by simp only [xi, pI, pA, hj, Option.bind_some]; rfl) (fun hj => by simp only [xi, pI, pA, hj, Option.bind_none])
theorem d169_568 : decode (mt 169).2.1 568 = .ok (.invokevirtual 63, 3) := by decide +kernel
theorem s169_568 {ls : LV} {m : MM} {x0 : Int32} {x1 : Int32} {n : Nat} : go 169 568 ls [.inl x1, .inl x0, .inr (.inr (7, some n))] m = bd (go 60 0 [some (.inr (.inr (7, some n))), some (.inl x0), some (.inl x1), none] [] m) (fun v m2 => go 169 571 ls (v.toList ++ []) m2) := e_virt (y1 := 60) (na := 2) (as := [.inl x0, .inl x1]) (rest := []) d169_568 (by decide +kernel) rfl (by decide +kernel) (show (ent [.inr (.inr (7, some n)), .inl x0, .inl x1]).length ≤ (mt 60).2.2.2.1 from Nat.le_of_ble_eq_true rfl) (cats_le (Nat.le_of_ble_eq_true rfl)) (by decide +kernel)
theorem d169_571 : decode (mt 169).2.1 571 = .ok (.aload_n 2, 1) := by decide +kernel
theorem s169_571 {a0 a1 a3 : Option AV} {st : List AV} {m : MM} {x : Nat × Option Nat} : go 169 571 [a0, a1, some (.inr (.inr x)), a3] st m = go 169 572 [a0, a1, some (.inr (.inr x)), a3] (.inr (.inr x) :: st) m := e_1 d169_571 (Or.inl rfl) rfl
theorem d169_572 : decode (mt 169).2.1 572 = .ok (.aload_n 0, 1) := by decide +kernel
theorem s169_572 {a1 a2 a3 : Option AV} {st : List AV} {m : MM} {x : Nat × Option Nat} : go 169 572 [some (.inr (.inr x)), a1, a2, a3] st m = go 169 573 [some (.inr (.inr x)), a1, a2, a3] (.inr (.inr x) :: st) m := e_1 d169_572 (Or.inl rfl) rfl
theorem d169_573 : decode (mt 169).2.1 573 = .ok (.iload_n 3, 1) := by decide +kernel
theorem s169_573 {a0 a1 a2 : Option AV} {st : List AV} {m : MM} {x : Int32} : go 169 573 [a0, a1, a2, some (.inl x)] st m = go 169 574 [a0, a1, a2, some (.inl x)] (.inl x :: st) m := e_1 d169_573 (Or.inl rfl) rfl
theorem d169_574 : decode (mt 169).2.1 574 = .ok (.iconst 1, 1) := by decide +kernel
theorem s169_574 {ls : LV} {st : List AV} {m : MM} : go 169 574 ls st m = go 169 575 ls (.inl 1 :: st) m := e_1 d169_574 (Or.inl rfl) rfl
theorem d169_575 : decode (mt 169).2.1 575 = .ok (.iadd, 1) := by decide +kernel
theorem s169_575 {ls : LV} {st : List AV} {m : MM} {a b : Int32} : go 169 575 ls (.inl b :: .inl a :: st) m = go 169 576 ls (.inl (a + b) :: st) m := e_1 d169_575 (Or.inl rfl) rfl
theorem d169_576 : decode (mt 169).2.1 576 = .ok (.iaload, 1) := by decide +kernel
theorem s169_576 {ls : LV} {st : List AV} {m : MM} {n : Nat} {i : Int32} : go 169 576 ls (.inl i :: .inr (.inr (0, some n)) :: st) m = ixk (ix i (mN m 0 n)) (fun j => go 169 577 ls (.inl (mI m 0 n j) :: st) m) := e_ald d169_576 (fun j hj => by simp only [xi, pI, pA, hj, Option.bind_some]; rfl) (fun hj => by simp only [xi, pI, pA, hj, Option.bind_none])
theorem d169_577 : decode (mt 169).2.1 577 = .ok (.aload_n 0, 1) := by decide +kernel
theorem s169_577 {a1 a2 a3 : Option AV} {st : List AV} {m : MM} {x : Nat × Option Nat} : go 169 577 [some (.inr (.inr x)), a1, a2, a3] st m = go 169 578 [some (.inr (.inr x)), a1, a2, a3] (.inr (.inr x) :: st) m := e_1 d169_577 (Or.inl rfl) rfl
theorem d169_578 : decode (mt 169).2.1 578 = .ok (.iload_n 3, 1) := by decide +kernel
theorem s169_578 {a0 a1 a2 : Option AV} {st : List AV} {m : MM} {x : Int32} : go 169 578 [a0, a1, a2, some (.inl x)] st m = go 169 579 [a0, a1, a2, some (.inl x)] (.inl x :: st) m := e_1 d169_578 (Or.inl rfl) rfl
theorem d169_579 : decode (mt 169).2.1 579 = .ok (.iconst 2, 1) := by decide +kernel
theorem s169_579 {ls : LV} {st : List AV} {m : MM} : go 169 579 ls st m = go 169 580 ls (.inl 2 :: st) m := e_1 d169_579 (Or.inl rfl) rfl
theorem d169_580 : decode (mt 169).2.1 580 = .ok (.iadd, 1) := by decide +kernel
theorem s169_580 {ls : LV} {st : List AV} {m : MM} {a b : Int32} : go 169 580 ls (.inl b :: .inl a :: st) m = go 169 581 ls (.inl (a + b) :: st) m := e_1 d169_580 (Or.inl rfl) rfl
theorem d169_581 : decode (mt 169).2.1 581 = .ok (.iaload, 1) := by decide +kernel
theorem s169_581 {ls : LV} {st : List AV} {m : MM} {n : Nat} {i : Int32} : go 169 581 ls (.inl i :: .inr (.inr (0, some n)) :: st) m = ixk (ix i (mN m 0 n)) (fun j => go 169 582 ls (.inl (mI m 0 n j) :: st) m) := e_ald d169_581 (fun j hj => by simp only [xi, pI, pA, hj, Option.bind_some]; rfl) (fun hj => by simp only [xi, pI, pA, hj, Option.bind_none])
theorem d169_582 : decode (mt 169).2.1 582 = .ok (.invokevirtual 66, 3) := by decide +kernel
theorem s169_582 {ls : LV} {m : MM} {x0 : Int32} {x1 : Int32} {w0 : AV} {n : Nat} : go 169 582 ls [.inl x1, .inl x0, .inr (.inr (8, some n)), w0] m = bd (go 144 0 [some (.inr (.inr (8, some n))), some (.inl x0), some (.inl x1)] [] m) (fun v m2 => go 169 585 ls (v.toList ++ [w0]) m2) := e_virt (y1 := 144) (na := 2) (as := [.inl x0, .inl x1]) (rest := [w0]) d169_582 (by decide +kernel) rfl (by decide +kernel) (show (ent [.inr (.inr (8, some n)), .inl x0, .inl x1]).length ≤ (mt 144).2.2.2.1 from Nat.le_of_ble_eq_true rfl) (cats_le (Nat.le_of_ble_eq_true rfl)) (by decide +kernel)
theorem d169_585 : decode (mt 169).2.1 585 = .ok (.if_icmp .eq 478, 3) := by decide +kernel
theorem s169_585 {ls : LV} {st : List AV} {m : MM} {a b : Int32} : go 169 585 ls (.inl b :: .inl a :: st) m = if a = b then go 169 1063 ls st m else go 169 588 ls st m := e_if (t := 1063) (b := hc .eq a b) d169_585 (Or.inl rfl) (by simp only [xi, pI, jm_some (t := 1063) (show ((585 : Nat) : Int) + 478 = ((1063 : Nat) : Int) by decide), Option.bind_some]) (by simp [hc])
theorem d169_588 : decode (mt 169).2.1 588 = .ok (.iconst 0, 1) := by decide +kernel
theorem s169_588 {ls : LV} {st : List AV} {m : MM} : go 169 588 ls st m = go 169 589 ls (.inl 0 :: st) m := e_1 d169_588 (Or.inl rfl) rfl
theorem d169_589 : decode (mt 169).2.1 589 = .ok (.ireturn, 1) := by decide +kernel
theorem s169_589b0 {ls : LV} {m : MM} : go 169 589 ls [.inl 0] m = some (some (.inl 0), m) := e_bool d169_589 (by decide +kernel) (by decide)
theorem s169_589b1 {ls : LV} {m : MM} : go 169 589 ls [.inl 1] m = some (some (.inl 1), m) := e_bool d169_589 (by decide +kernel) (by decide)
theorem d169_590 : decode (mt 169).2.1 590 = .ok (.aload_n 1, 1) := by decide +kernel
theorem s169_590 {a0 a2 a3 : Option AV} {st : List AV} {m : MM} {x : Nat × Option Nat} : go 169 590 [a0, some (.inr (.inr x)), a2, a3] st m = go 169 591 [a0, some (.inr (.inr x)), a2, a3] (.inr (.inr x) :: st) m := e_1 d169_590 (Or.inl rfl) rfl
theorem d169_591 : decode (mt 169).2.1 591 = .ok (.aload_n 0, 1) := by decide +kernel
theorem s169_591 {a1 a2 a3 : Option AV} {st : List AV} {m : MM} {x : Nat × Option Nat} : go 169 591 [some (.inr (.inr x)), a1, a2, a3] st m = go 169 592 [some (.inr (.inr x)), a1, a2, a3] (.inr (.inr x) :: st) m := e_1 d169_591 (Or.inl rfl) rfl
theorem d169_592 : decode (mt 169).2.1 592 = .ok (.iload_n 3, 1) := by decide +kernel
theorem s169_592 {a0 a1 a2 : Option AV} {st : List AV} {m : MM} {x : Int32} : go 169 592 [a0, a1, a2, some (.inl x)] st m = go 169 593 [a0, a1, a2, some (.inl x)] (.inl x :: st) m := e_1 d169_592 (Or.inl rfl) rfl
theorem d169_593 : decode (mt 169).2.1 593 = .ok (.iconst 1, 1) := by decide +kernel
theorem s169_593 {ls : LV} {st : List AV} {m : MM} : go 169 593 ls st m = go 169 594 ls (.inl 1 :: st) m := e_1 d169_593 (Or.inl rfl) rfl
theorem d169_594 : decode (mt 169).2.1 594 = .ok (.iadd, 1) := by decide +kernel
theorem s169_594 {ls : LV} {st : List AV} {m : MM} {a b : Int32} : go 169 594 ls (.inl b :: .inl a :: st) m = go 169 595 ls (.inl (a + b) :: st) m := e_1 d169_594 (Or.inl rfl) rfl
theorem d169_595 : decode (mt 169).2.1 595 = .ok (.iaload, 1) := by decide +kernel
theorem s169_595 {ls : LV} {st : List AV} {m : MM} {n : Nat} {i : Int32} : go 169 595 ls (.inl i :: .inr (.inr (0, some n)) :: st) m = ixk (ix i (mN m 0 n)) (fun j => go 169 596 ls (.inl (mI m 0 n j) :: st) m) := e_ald d169_595 (fun j hj => by simp only [xi, pI, pA, hj, Option.bind_some]; rfl) (fun hj => by simp only [xi, pI, pA, hj, Option.bind_none])
theorem d169_596 : decode (mt 169).2.1 596 = .ok (.aload_n 0, 1) := by decide +kernel
theorem s169_596 {a1 a2 a3 : Option AV} {st : List AV} {m : MM} {x : Nat × Option Nat} : go 169 596 [some (.inr (.inr x)), a1, a2, a3] st m = go 169 597 [some (.inr (.inr x)), a1, a2, a3] (.inr (.inr x) :: st) m := e_1 d169_596 (Or.inl rfl) rfl
theorem d169_597 : decode (mt 169).2.1 597 = .ok (.iload_n 3, 1) := by decide +kernel
theorem s169_597 {a0 a1 a2 : Option AV} {st : List AV} {m : MM} {x : Int32} : go 169 597 [a0, a1, a2, some (.inl x)] st m = go 169 598 [a0, a1, a2, some (.inl x)] (.inl x :: st) m := e_1 d169_597 (Or.inl rfl) rfl
theorem d169_598 : decode (mt 169).2.1 598 = .ok (.iconst 2, 1) := by decide +kernel
theorem s169_598 {ls : LV} {st : List AV} {m : MM} : go 169 598 ls st m = go 169 599 ls (.inl 2 :: st) m := e_1 d169_598 (Or.inl rfl) rfl
theorem d169_599 : decode (mt 169).2.1 599 = .ok (.iadd, 1) := by decide +kernel
theorem s169_599 {ls : LV} {st : List AV} {m : MM} {a b : Int32} : go 169 599 ls (.inl b :: .inl a :: st) m = go 169 600 ls (.inl (a + b) :: st) m := e_1 d169_599 (Or.inl rfl) rfl
theorem d169_600 : decode (mt 169).2.1 600 = .ok (.iaload, 1) := by decide +kernel
theorem s169_600 {ls : LV} {st : List AV} {m : MM} {n : Nat} {i : Int32} : go 169 600 ls (.inl i :: .inr (.inr (0, some n)) :: st) m = ixk (ix i (mN m 0 n)) (fun j => go 169 601 ls (.inl (mI m 0 n j) :: st) m) := e_ald d169_600 (fun j hj => by simp only [xi, pI, pA, hj, Option.bind_some]; rfl) (fun hj => by simp only [xi, pI, pA, hj, Option.bind_none])
theorem d169_601 : decode (mt 169).2.1 601 = .ok (.invokevirtual 67, 3) := by decide +kernel
theorem s169_601 {ls : LV} {m : MM} {x0 : Int32} {x1 : Int32} {n : Nat} : go 169 601 ls [.inl x1, .inl x0, .inr (.inr (7, some n))] m = bd (go 61 0 [some (.inr (.inr (7, some n))), some (.inl x0), some (.inl x1), none] [] m) (fun v m2 => go 169 604 ls (v.toList ++ []) m2) := e_virt (y1 := 61) (na := 2) (as := [.inl x0, .inl x1]) (rest := []) d169_601 (by decide +kernel) rfl (by decide +kernel) (show (ent [.inr (.inr (7, some n)), .inl x0, .inl x1]).length ≤ (mt 61).2.2.2.1 from Nat.le_of_ble_eq_true rfl) (cats_le (Nat.le_of_ble_eq_true rfl)) (by decide +kernel)
theorem d169_604 : decode (mt 169).2.1 604 = .ok (.aload_n 2, 1) := by decide +kernel
theorem s169_604 {a0 a1 a3 : Option AV} {st : List AV} {m : MM} {x : Nat × Option Nat} : go 169 604 [a0, a1, some (.inr (.inr x)), a3] st m = go 169 605 [a0, a1, some (.inr (.inr x)), a3] (.inr (.inr x) :: st) m := e_1 d169_604 (Or.inl rfl) rfl
theorem d169_605 : decode (mt 169).2.1 605 = .ok (.aload_n 0, 1) := by decide +kernel
theorem s169_605 {a1 a2 a3 : Option AV} {st : List AV} {m : MM} {x : Nat × Option Nat} : go 169 605 [some (.inr (.inr x)), a1, a2, a3] st m = go 169 606 [some (.inr (.inr x)), a1, a2, a3] (.inr (.inr x) :: st) m := e_1 d169_605 (Or.inl rfl) rfl
theorem d169_606 : decode (mt 169).2.1 606 = .ok (.iload_n 3, 1) := by decide +kernel
theorem s169_606 {a0 a1 a2 : Option AV} {st : List AV} {m : MM} {x : Int32} : go 169 606 [a0, a1, a2, some (.inl x)] st m = go 169 607 [a0, a1, a2, some (.inl x)] (.inl x :: st) m := e_1 d169_606 (Or.inl rfl) rfl
theorem d169_607 : decode (mt 169).2.1 607 = .ok (.iconst 1, 1) := by decide +kernel
theorem s169_607 {ls : LV} {st : List AV} {m : MM} : go 169 607 ls st m = go 169 608 ls (.inl 1 :: st) m := e_1 d169_607 (Or.inl rfl) rfl
theorem d169_608 : decode (mt 169).2.1 608 = .ok (.iadd, 1) := by decide +kernel
theorem s169_608 {ls : LV} {st : List AV} {m : MM} {a b : Int32} : go 169 608 ls (.inl b :: .inl a :: st) m = go 169 609 ls (.inl (a + b) :: st) m := e_1 d169_608 (Or.inl rfl) rfl
theorem d169_609 : decode (mt 169).2.1 609 = .ok (.iaload, 1) := by decide +kernel
theorem s169_609 {ls : LV} {st : List AV} {m : MM} {n : Nat} {i : Int32} : go 169 609 ls (.inl i :: .inr (.inr (0, some n)) :: st) m = ixk (ix i (mN m 0 n)) (fun j => go 169 610 ls (.inl (mI m 0 n j) :: st) m) := e_ald d169_609 (fun j hj => by simp only [xi, pI, pA, hj, Option.bind_some]; rfl) (fun hj => by simp only [xi, pI, pA, hj, Option.bind_none])
theorem d169_610 : decode (mt 169).2.1 610 = .ok (.aload_n 0, 1) := by decide +kernel
theorem s169_610 {a1 a2 a3 : Option AV} {st : List AV} {m : MM} {x : Nat × Option Nat} : go 169 610 [some (.inr (.inr x)), a1, a2, a3] st m = go 169 611 [some (.inr (.inr x)), a1, a2, a3] (.inr (.inr x) :: st) m := e_1 d169_610 (Or.inl rfl) rfl
theorem d169_611 : decode (mt 169).2.1 611 = .ok (.iload_n 3, 1) := by decide +kernel
theorem s169_611 {a0 a1 a2 : Option AV} {st : List AV} {m : MM} {x : Int32} : go 169 611 [a0, a1, a2, some (.inl x)] st m = go 169 612 [a0, a1, a2, some (.inl x)] (.inl x :: st) m := e_1 d169_611 (Or.inl rfl) rfl
theorem d169_612 : decode (mt 169).2.1 612 = .ok (.iconst 2, 1) := by decide +kernel
theorem s169_612 {ls : LV} {st : List AV} {m : MM} : go 169 612 ls st m = go 169 613 ls (.inl 2 :: st) m := e_1 d169_612 (Or.inl rfl) rfl
theorem d169_613 : decode (mt 169).2.1 613 = .ok (.iadd, 1) := by decide +kernel
theorem s169_613 {ls : LV} {st : List AV} {m : MM} {a b : Int32} : go 169 613 ls (.inl b :: .inl a :: st) m = go 169 614 ls (.inl (a + b) :: st) m := e_1 d169_613 (Or.inl rfl) rfl
theorem d169_614 : decode (mt 169).2.1 614 = .ok (.iaload, 1) := by decide +kernel
theorem s169_614 {ls : LV} {st : List AV} {m : MM} {n : Nat} {i : Int32} : go 169 614 ls (.inl i :: .inr (.inr (0, some n)) :: st) m = ixk (ix i (mN m 0 n)) (fun j => go 169 615 ls (.inl (mI m 0 n j) :: st) m) := e_ald d169_614 (fun j hj => by simp only [xi, pI, pA, hj, Option.bind_some]; rfl) (fun hj => by simp only [xi, pI, pA, hj, Option.bind_none])
theorem d169_615 : decode (mt 169).2.1 615 = .ok (.invokevirtual 70, 3) := by decide +kernel
theorem s169_615 {ls : LV} {m : MM} {x0 : Int32} {x1 : Int32} {w0 : AV} {n : Nat} : go 169 615 ls [.inl x1, .inl x0, .inr (.inr (8, some n)), w0] m = bd (go 145 0 [some (.inr (.inr (8, some n))), some (.inl x0), some (.inl x1)] [] m) (fun v m2 => go 169 618 ls (v.toList ++ [w0]) m2) := e_virt (y1 := 145) (na := 2) (as := [.inl x0, .inl x1]) (rest := [w0]) d169_615 (by decide +kernel) rfl (by decide +kernel) (show (ent [.inr (.inr (8, some n)), .inl x0, .inl x1]).length ≤ (mt 145).2.2.2.1 from Nat.le_of_ble_eq_true rfl) (cats_le (Nat.le_of_ble_eq_true rfl)) (by decide +kernel)
theorem d169_618 : decode (mt 169).2.1 618 = .ok (.if_icmp .eq 445, 3) := by decide +kernel
theorem s169_618 {ls : LV} {st : List AV} {m : MM} {a b : Int32} : go 169 618 ls (.inl b :: .inl a :: st) m = if a = b then go 169 1063 ls st m else go 169 621 ls st m := e_if (t := 1063) (b := hc .eq a b) d169_618 (Or.inl rfl) (by simp only [xi, pI, jm_some (t := 1063) (show ((618 : Nat) : Int) + 445 = ((1063 : Nat) : Int) by decide), Option.bind_some]) (by simp [hc])
theorem d169_621 : decode (mt 169).2.1 621 = .ok (.iconst 0, 1) := by decide +kernel
theorem s169_621 {ls : LV} {st : List AV} {m : MM} : go 169 621 ls st m = go 169 622 ls (.inl 0 :: st) m := e_1 d169_621 (Or.inl rfl) rfl
theorem d169_622 : decode (mt 169).2.1 622 = .ok (.ireturn, 1) := by decide +kernel
theorem s169_622b0 {ls : LV} {m : MM} : go 169 622 ls [.inl 0] m = some (some (.inl 0), m) := e_bool d169_622 (by decide +kernel) (by decide)
theorem s169_622b1 {ls : LV} {m : MM} : go 169 622 ls [.inl 1] m = some (some (.inl 1), m) := e_bool d169_622 (by decide +kernel) (by decide)
theorem d169_623 : decode (mt 169).2.1 623 = .ok (.aload_n 1, 1) := by decide +kernel
theorem s169_623 {a0 a2 a3 : Option AV} {st : List AV} {m : MM} {x : Nat × Option Nat} : go 169 623 [a0, some (.inr (.inr x)), a2, a3] st m = go 169 624 [a0, some (.inr (.inr x)), a2, a3] (.inr (.inr x) :: st) m := e_1 d169_623 (Or.inl rfl) rfl
theorem d169_624 : decode (mt 169).2.1 624 = .ok (.aload_n 0, 1) := by decide +kernel
theorem s169_624 {a1 a2 a3 : Option AV} {st : List AV} {m : MM} {x : Nat × Option Nat} : go 169 624 [some (.inr (.inr x)), a1, a2, a3] st m = go 169 625 [some (.inr (.inr x)), a1, a2, a3] (.inr (.inr x) :: st) m := e_1 d169_624 (Or.inl rfl) rfl
theorem d169_625 : decode (mt 169).2.1 625 = .ok (.iload_n 3, 1) := by decide +kernel
theorem s169_625 {a0 a1 a2 : Option AV} {st : List AV} {m : MM} {x : Int32} : go 169 625 [a0, a1, a2, some (.inl x)] st m = go 169 626 [a0, a1, a2, some (.inl x)] (.inl x :: st) m := e_1 d169_625 (Or.inl rfl) rfl
theorem d169_626 : decode (mt 169).2.1 626 = .ok (.iconst 1, 1) := by decide +kernel
theorem s169_626 {ls : LV} {st : List AV} {m : MM} : go 169 626 ls st m = go 169 627 ls (.inl 1 :: st) m := e_1 d169_626 (Or.inl rfl) rfl
theorem d169_627 : decode (mt 169).2.1 627 = .ok (.iadd, 1) := by decide +kernel
theorem s169_627 {ls : LV} {st : List AV} {m : MM} {a b : Int32} : go 169 627 ls (.inl b :: .inl a :: st) m = go 169 628 ls (.inl (a + b) :: st) m := e_1 d169_627 (Or.inl rfl) rfl
theorem d169_628 : decode (mt 169).2.1 628 = .ok (.iaload, 1) := by decide +kernel
theorem s169_628 {ls : LV} {st : List AV} {m : MM} {n : Nat} {i : Int32} : go 169 628 ls (.inl i :: .inr (.inr (0, some n)) :: st) m = ixk (ix i (mN m 0 n)) (fun j => go 169 629 ls (.inl (mI m 0 n j) :: st) m) := e_ald d169_628 (fun j hj => by simp only [xi, pI, pA, hj, Option.bind_some]; rfl) (fun hj => by simp only [xi, pI, pA, hj, Option.bind_none])
theorem d169_629 : decode (mt 169).2.1 629 = .ok (.aload_n 0, 1) := by decide +kernel
theorem s169_629 {a1 a2 a3 : Option AV} {st : List AV} {m : MM} {x : Nat × Option Nat} : go 169 629 [some (.inr (.inr x)), a1, a2, a3] st m = go 169 630 [some (.inr (.inr x)), a1, a2, a3] (.inr (.inr x) :: st) m := e_1 d169_629 (Or.inl rfl) rfl
theorem d169_630 : decode (mt 169).2.1 630 = .ok (.iload_n 3, 1) := by decide +kernel
theorem s169_630 {a0 a1 a2 : Option AV} {st : List AV} {m : MM} {x : Int32} : go 169 630 [a0, a1, a2, some (.inl x)] st m = go 169 631 [a0, a1, a2, some (.inl x)] (.inl x :: st) m := e_1 d169_630 (Or.inl rfl) rfl
theorem d169_631 : decode (mt 169).2.1 631 = .ok (.iconst 2, 1) := by decide +kernel
theorem s169_631 {ls : LV} {st : List AV} {m : MM} : go 169 631 ls st m = go 169 632 ls (.inl 2 :: st) m := e_1 d169_631 (Or.inl rfl) rfl
theorem d169_632 : decode (mt 169).2.1 632 = .ok (.iadd, 1) := by decide +kernel
theorem s169_632 {ls : LV} {st : List AV} {m : MM} {a b : Int32} : go 169 632 ls (.inl b :: .inl a :: st) m = go 169 633 ls (.inl (a + b) :: st) m := e_1 d169_632 (Or.inl rfl) rfl
theorem d169_633 : decode (mt 169).2.1 633 = .ok (.iaload, 1) := by decide +kernel
theorem s169_633 {ls : LV} {st : List AV} {m : MM} {n : Nat} {i : Int32} : go 169 633 ls (.inl i :: .inr (.inr (0, some n)) :: st) m = ixk (ix i (mN m 0 n)) (fun j => go 169 634 ls (.inl (mI m 0 n j) :: st) m) := e_ald d169_633 (fun j hj => by simp only [xi, pI, pA, hj, Option.bind_some]; rfl) (fun hj => by simp only [xi, pI, pA, hj, Option.bind_none])
theorem d169_634 : decode (mt 169).2.1 634 = .ok (.invokevirtual 71, 3) := by decide +kernel
theorem s169_634 {ls : LV} {m : MM} {x0 : Int32} {x1 : Int32} {n : Nat} : go 169 634 ls [.inl x1, .inl x0, .inr (.inr (7, some n))] m = bd (go 62 0 [some (.inr (.inr (7, some n))), some (.inl x0), some (.inl x1), none] [] m) (fun v m2 => go 169 637 ls (v.toList ++ []) m2) := e_virt (y1 := 62) (na := 2) (as := [.inl x0, .inl x1]) (rest := []) d169_634 (by decide +kernel) rfl (by decide +kernel) (show (ent [.inr (.inr (7, some n)), .inl x0, .inl x1]).length ≤ (mt 62).2.2.2.1 from Nat.le_of_ble_eq_true rfl) (cats_le (Nat.le_of_ble_eq_true rfl)) (by decide +kernel)
theorem d169_637 : decode (mt 169).2.1 637 = .ok (.aload_n 2, 1) := by decide +kernel
theorem s169_637 {a0 a1 a3 : Option AV} {st : List AV} {m : MM} {x : Nat × Option Nat} : go 169 637 [a0, a1, some (.inr (.inr x)), a3] st m = go 169 638 [a0, a1, some (.inr (.inr x)), a3] (.inr (.inr x) :: st) m := e_1 d169_637 (Or.inl rfl) rfl
theorem d169_638 : decode (mt 169).2.1 638 = .ok (.aload_n 0, 1) := by decide +kernel
theorem s169_638 {a1 a2 a3 : Option AV} {st : List AV} {m : MM} {x : Nat × Option Nat} : go 169 638 [some (.inr (.inr x)), a1, a2, a3] st m = go 169 639 [some (.inr (.inr x)), a1, a2, a3] (.inr (.inr x) :: st) m := e_1 d169_638 (Or.inl rfl) rfl
theorem d169_639 : decode (mt 169).2.1 639 = .ok (.iload_n 3, 1) := by decide +kernel
theorem s169_639 {a0 a1 a2 : Option AV} {st : List AV} {m : MM} {x : Int32} : go 169 639 [a0, a1, a2, some (.inl x)] st m = go 169 640 [a0, a1, a2, some (.inl x)] (.inl x :: st) m := e_1 d169_639 (Or.inl rfl) rfl
theorem d169_640 : decode (mt 169).2.1 640 = .ok (.iconst 1, 1) := by decide +kernel
theorem s169_640 {ls : LV} {st : List AV} {m : MM} : go 169 640 ls st m = go 169 641 ls (.inl 1 :: st) m := e_1 d169_640 (Or.inl rfl) rfl
theorem d169_641 : decode (mt 169).2.1 641 = .ok (.iadd, 1) := by decide +kernel
theorem s169_641 {ls : LV} {st : List AV} {m : MM} {a b : Int32} : go 169 641 ls (.inl b :: .inl a :: st) m = go 169 642 ls (.inl (a + b) :: st) m := e_1 d169_641 (Or.inl rfl) rfl
theorem d169_642 : decode (mt 169).2.1 642 = .ok (.iaload, 1) := by decide +kernel
theorem s169_642 {ls : LV} {st : List AV} {m : MM} {n : Nat} {i : Int32} : go 169 642 ls (.inl i :: .inr (.inr (0, some n)) :: st) m = ixk (ix i (mN m 0 n)) (fun j => go 169 643 ls (.inl (mI m 0 n j) :: st) m) := e_ald d169_642 (fun j hj => by simp only [xi, pI, pA, hj, Option.bind_some]; rfl) (fun hj => by simp only [xi, pI, pA, hj, Option.bind_none])
theorem d169_643 : decode (mt 169).2.1 643 = .ok (.aload_n 0, 1) := by decide +kernel
theorem s169_643 {a1 a2 a3 : Option AV} {st : List AV} {m : MM} {x : Nat × Option Nat} : go 169 643 [some (.inr (.inr x)), a1, a2, a3] st m = go 169 644 [some (.inr (.inr x)), a1, a2, a3] (.inr (.inr x) :: st) m := e_1 d169_643 (Or.inl rfl) rfl
theorem d169_644 : decode (mt 169).2.1 644 = .ok (.iload_n 3, 1) := by decide +kernel
theorem s169_644 {a0 a1 a2 : Option AV} {st : List AV} {m : MM} {x : Int32} : go 169 644 [a0, a1, a2, some (.inl x)] st m = go 169 645 [a0, a1, a2, some (.inl x)] (.inl x :: st) m := e_1 d169_644 (Or.inl rfl) rfl
theorem d169_645 : decode (mt 169).2.1 645 = .ok (.iconst 2, 1) := by decide +kernel
theorem s169_645 {ls : LV} {st : List AV} {m : MM} : go 169 645 ls st m = go 169 646 ls (.inl 2 :: st) m := e_1 d169_645 (Or.inl rfl) rfl
theorem d169_646 : decode (mt 169).2.1 646 = .ok (.iadd, 1) := by decide +kernel
theorem s169_646 {ls : LV} {st : List AV} {m : MM} {a b : Int32} : go 169 646 ls (.inl b :: .inl a :: st) m = go 169 647 ls (.inl (a + b) :: st) m := e_1 d169_646 (Or.inl rfl) rfl
theorem d169_647 : decode (mt 169).2.1 647 = .ok (.iaload, 1) := by decide +kernel
theorem s169_647 {ls : LV} {st : List AV} {m : MM} {n : Nat} {i : Int32} : go 169 647 ls (.inl i :: .inr (.inr (0, some n)) :: st) m = ixk (ix i (mN m 0 n)) (fun j => go 169 648 ls (.inl (mI m 0 n j) :: st) m) := e_ald d169_647 (fun j hj => by simp only [xi, pI, pA, hj, Option.bind_some]; rfl) (fun hj => by simp only [xi, pI, pA, hj, Option.bind_none])
theorem d169_648 : decode (mt 169).2.1 648 = .ok (.invokevirtual 74, 3) := by decide +kernel
theorem s169_648 {ls : LV} {m : MM} {x0 : Int32} {x1 : Int32} {w0 : AV} {n : Nat} : go 169 648 ls [.inl x1, .inl x0, .inr (.inr (8, some n)), w0] m = bd (go 146 0 [some (.inr (.inr (8, some n))), some (.inl x0), some (.inl x1)] [] m) (fun v m2 => go 169 651 ls (v.toList ++ [w0]) m2) := e_virt (y1 := 146) (na := 2) (as := [.inl x0, .inl x1]) (rest := [w0]) d169_648 (by decide +kernel) rfl (by decide +kernel) (show (ent [.inr (.inr (8, some n)), .inl x0, .inl x1]).length ≤ (mt 146).2.2.2.1 from Nat.le_of_ble_eq_true rfl) (cats_le (Nat.le_of_ble_eq_true rfl)) (by decide +kernel)
theorem d169_651 : decode (mt 169).2.1 651 = .ok (.if_icmp .eq 412, 3) := by decide +kernel
theorem s169_651 {ls : LV} {st : List AV} {m : MM} {a b : Int32} : go 169 651 ls (.inl b :: .inl a :: st) m = if a = b then go 169 1063 ls st m else go 169 654 ls st m := e_if (t := 1063) (b := hc .eq a b) d169_651 (Or.inl rfl) (by simp only [xi, pI, jm_some (t := 1063) (show ((651 : Nat) : Int) + 412 = ((1063 : Nat) : Int) by decide), Option.bind_some]) (by simp [hc])
theorem d169_654 : decode (mt 169).2.1 654 = .ok (.iconst 0, 1) := by decide +kernel
theorem s169_654 {ls : LV} {st : List AV} {m : MM} : go 169 654 ls st m = go 169 655 ls (.inl 0 :: st) m := e_1 d169_654 (Or.inl rfl) rfl
theorem d169_655 : decode (mt 169).2.1 655 = .ok (.ireturn, 1) := by decide +kernel
theorem s169_655b0 {ls : LV} {m : MM} : go 169 655 ls [.inl 0] m = some (some (.inl 0), m) := e_bool d169_655 (by decide +kernel) (by decide)
theorem s169_655b1 {ls : LV} {m : MM} : go 169 655 ls [.inl 1] m = some (some (.inl 1), m) := e_bool d169_655 (by decide +kernel) (by decide)
theorem d169_656 : decode (mt 169).2.1 656 = .ok (.aload_n 1, 1) := by decide +kernel
theorem s169_656 {a0 a2 a3 : Option AV} {st : List AV} {m : MM} {x : Nat × Option Nat} : go 169 656 [a0, some (.inr (.inr x)), a2, a3] st m = go 169 657 [a0, some (.inr (.inr x)), a2, a3] (.inr (.inr x) :: st) m := e_1 d169_656 (Or.inl rfl) rfl
theorem d169_657 : decode (mt 169).2.1 657 = .ok (.aload_n 0, 1) := by decide +kernel
theorem s169_657 {a1 a2 a3 : Option AV} {st : List AV} {m : MM} {x : Nat × Option Nat} : go 169 657 [some (.inr (.inr x)), a1, a2, a3] st m = go 169 658 [some (.inr (.inr x)), a1, a2, a3] (.inr (.inr x) :: st) m := e_1 d169_657 (Or.inl rfl) rfl
theorem d169_658 : decode (mt 169).2.1 658 = .ok (.iload_n 3, 1) := by decide +kernel
theorem s169_658 {a0 a1 a2 : Option AV} {st : List AV} {m : MM} {x : Int32} : go 169 658 [a0, a1, a2, some (.inl x)] st m = go 169 659 [a0, a1, a2, some (.inl x)] (.inl x :: st) m := e_1 d169_658 (Or.inl rfl) rfl
theorem d169_659 : decode (mt 169).2.1 659 = .ok (.iconst 1, 1) := by decide +kernel
theorem s169_659 {ls : LV} {st : List AV} {m : MM} : go 169 659 ls st m = go 169 660 ls (.inl 1 :: st) m := e_1 d169_659 (Or.inl rfl) rfl
theorem d169_660 : decode (mt 169).2.1 660 = .ok (.iadd, 1) := by decide +kernel
theorem s169_660 {ls : LV} {st : List AV} {m : MM} {a b : Int32} : go 169 660 ls (.inl b :: .inl a :: st) m = go 169 661 ls (.inl (a + b) :: st) m := e_1 d169_660 (Or.inl rfl) rfl
theorem d169_661 : decode (mt 169).2.1 661 = .ok (.iaload, 1) := by decide +kernel
theorem s169_661 {ls : LV} {st : List AV} {m : MM} {n : Nat} {i : Int32} : go 169 661 ls (.inl i :: .inr (.inr (0, some n)) :: st) m = ixk (ix i (mN m 0 n)) (fun j => go 169 662 ls (.inl (mI m 0 n j) :: st) m) := e_ald d169_661 (fun j hj => by simp only [xi, pI, pA, hj, Option.bind_some]; rfl) (fun hj => by simp only [xi, pI, pA, hj, Option.bind_none])
theorem d169_662 : decode (mt 169).2.1 662 = .ok (.invokevirtual 75, 3) := by decide +kernel
theorem s169_662 {ls : LV} {m : MM} {x0 : Int32} {n : Nat} : go 169 662 ls [.inl x0, .inr (.inr (7, some n))] m = bd (go 63 0 [some (.inr (.inr (7, some n))), some (.inl x0), none] [] m) (fun v m2 => go 169 665 ls (v.toList ++ []) m2) := e_virt (y1 := 63) (na := 1) (as := [.inl x0]) (rest := []) d169_662 (by decide +kernel) rfl (by decide +kernel) (show (ent [.inr (.inr (7, some n)), .inl x0]).length ≤ (mt 63).2.2.2.1 from Nat.le_of_ble_eq_true rfl) (cats_le (Nat.le_of_ble_eq_true rfl)) (by decide +kernel)
theorem d169_665 : decode (mt 169).2.1 665 = .ok (.aload_n 2, 1) := by decide +kernel
theorem s169_665 {a0 a1 a3 : Option AV} {st : List AV} {m : MM} {x : Nat × Option Nat} : go 169 665 [a0, a1, some (.inr (.inr x)), a3] st m = go 169 666 [a0, a1, some (.inr (.inr x)), a3] (.inr (.inr x) :: st) m := e_1 d169_665 (Or.inl rfl) rfl
theorem d169_666 : decode (mt 169).2.1 666 = .ok (.aload_n 0, 1) := by decide +kernel
theorem s169_666 {a1 a2 a3 : Option AV} {st : List AV} {m : MM} {x : Nat × Option Nat} : go 169 666 [some (.inr (.inr x)), a1, a2, a3] st m = go 169 667 [some (.inr (.inr x)), a1, a2, a3] (.inr (.inr x) :: st) m := e_1 d169_666 (Or.inl rfl) rfl
theorem d169_667 : decode (mt 169).2.1 667 = .ok (.iload_n 3, 1) := by decide +kernel
theorem s169_667 {a0 a1 a2 : Option AV} {st : List AV} {m : MM} {x : Int32} : go 169 667 [a0, a1, a2, some (.inl x)] st m = go 169 668 [a0, a1, a2, some (.inl x)] (.inl x :: st) m := e_1 d169_667 (Or.inl rfl) rfl
theorem d169_668 : decode (mt 169).2.1 668 = .ok (.iconst 1, 1) := by decide +kernel
theorem s169_668 {ls : LV} {st : List AV} {m : MM} : go 169 668 ls st m = go 169 669 ls (.inl 1 :: st) m := e_1 d169_668 (Or.inl rfl) rfl
theorem d169_669 : decode (mt 169).2.1 669 = .ok (.iadd, 1) := by decide +kernel
theorem s169_669 {ls : LV} {st : List AV} {m : MM} {a b : Int32} : go 169 669 ls (.inl b :: .inl a :: st) m = go 169 670 ls (.inl (a + b) :: st) m := e_1 d169_669 (Or.inl rfl) rfl
theorem d169_670 : decode (mt 169).2.1 670 = .ok (.iaload, 1) := by decide +kernel
theorem s169_670 {ls : LV} {st : List AV} {m : MM} {n : Nat} {i : Int32} : go 169 670 ls (.inl i :: .inr (.inr (0, some n)) :: st) m = ixk (ix i (mN m 0 n)) (fun j => go 169 671 ls (.inl (mI m 0 n j) :: st) m) := e_ald d169_670 (fun j hj => by simp only [xi, pI, pA, hj, Option.bind_some]; rfl) (fun hj => by simp only [xi, pI, pA, hj, Option.bind_none])
theorem d169_671 : decode (mt 169).2.1 671 = .ok (.invokevirtual 79, 3) := by decide +kernel
theorem s169_671 {ls : LV} {m : MM} {x0 : Int32} {w0 : AV} {n : Nat} : go 169 671 ls [.inl x0, .inr (.inr (8, some n)), w0] m = bd (go 147 0 [some (.inr (.inr (8, some n))), some (.inl x0)] [] m) (fun v m2 => go 169 674 ls (v.toList ++ [w0]) m2) := e_virt (y1 := 147) (na := 1) (as := [.inl x0]) (rest := [w0]) d169_671 (by decide +kernel) rfl (by decide +kernel) (show (ent [.inr (.inr (8, some n)), .inl x0]).length ≤ (mt 147).2.2.2.1 from Nat.le_of_ble_eq_true rfl) (cats_le (Nat.le_of_ble_eq_true rfl)) (by decide +kernel)
theorem d169_674 : decode (mt 169).2.1 674 = .ok (.lcmp, 1) := by decide +kernel
theorem s169_674 {ls : LV} {st : List AV} {m : MM} {a b : Int64} : go 169 674 ls (.inr (.inl b) :: .inr (.inl a) :: st) m = go 169 675 ls (.inl (lg_cmp a b) :: st) m := e_1 d169_674 (Or.inl rfl) rfl
theorem d169_675 : decode (mt 169).2.1 675 = .ok (.ifCond .eq 388, 3) := by decide +kernel
theorem s169_675 {ls : LV} {st : List AV} {m : MM} {a : Int32} : go 169 675 ls (.inl a :: st) m = if a = 0 then go 169 1063 ls st m else go 169 678 ls st m := e_if (t := 1063) (b := hc .eq a 0) d169_675 (Or.inl rfl) (by simp only [xi, pI, jm_some (t := 1063) (show ((675 : Nat) : Int) + 388 = ((1063 : Nat) : Int) by decide), Option.bind_some]) (by simp [hc])
theorem d169_678 : decode (mt 169).2.1 678 = .ok (.iconst 0, 1) := by decide +kernel
theorem s169_678 {ls : LV} {st : List AV} {m : MM} : go 169 678 ls st m = go 169 679 ls (.inl 0 :: st) m := e_1 d169_678 (Or.inl rfl) rfl
theorem d169_679 : decode (mt 169).2.1 679 = .ok (.ireturn, 1) := by decide +kernel
theorem s169_679b0 {ls : LV} {m : MM} : go 169 679 ls [.inl 0] m = some (some (.inl 0), m) := e_bool d169_679 (by decide +kernel) (by decide)
theorem s169_679b1 {ls : LV} {m : MM} : go 169 679 ls [.inl 1] m = some (some (.inl 1), m) := e_bool d169_679 (by decide +kernel) (by decide)
theorem d169_680 : decode (mt 169).2.1 680 = .ok (.aload_n 1, 1) := by decide +kernel
theorem s169_680 {a0 a2 a3 : Option AV} {st : List AV} {m : MM} {x : Nat × Option Nat} : go 169 680 [a0, some (.inr (.inr x)), a2, a3] st m = go 169 681 [a0, some (.inr (.inr x)), a2, a3] (.inr (.inr x) :: st) m := e_1 d169_680 (Or.inl rfl) rfl
theorem d169_681 : decode (mt 169).2.1 681 = .ok (.aload_n 0, 1) := by decide +kernel
theorem s169_681 {a1 a2 a3 : Option AV} {st : List AV} {m : MM} {x : Nat × Option Nat} : go 169 681 [some (.inr (.inr x)), a1, a2, a3] st m = go 169 682 [some (.inr (.inr x)), a1, a2, a3] (.inr (.inr x) :: st) m := e_1 d169_681 (Or.inl rfl) rfl
theorem d169_682 : decode (mt 169).2.1 682 = .ok (.iload_n 3, 1) := by decide +kernel
theorem s169_682 {a0 a1 a2 : Option AV} {st : List AV} {m : MM} {x : Int32} : go 169 682 [a0, a1, a2, some (.inl x)] st m = go 169 683 [a0, a1, a2, some (.inl x)] (.inl x :: st) m := e_1 d169_682 (Or.inl rfl) rfl
theorem d169_683 : decode (mt 169).2.1 683 = .ok (.iconst 1, 1) := by decide +kernel
theorem s169_683 {ls : LV} {st : List AV} {m : MM} : go 169 683 ls st m = go 169 684 ls (.inl 1 :: st) m := e_1 d169_683 (Or.inl rfl) rfl
theorem d169_684 : decode (mt 169).2.1 684 = .ok (.iadd, 1) := by decide +kernel
theorem s169_684 {ls : LV} {st : List AV} {m : MM} {a b : Int32} : go 169 684 ls (.inl b :: .inl a :: st) m = go 169 685 ls (.inl (a + b) :: st) m := e_1 d169_684 (Or.inl rfl) rfl
theorem d169_685 : decode (mt 169).2.1 685 = .ok (.iaload, 1) := by decide +kernel
theorem s169_685 {ls : LV} {st : List AV} {m : MM} {n : Nat} {i : Int32} : go 169 685 ls (.inl i :: .inr (.inr (0, some n)) :: st) m = ixk (ix i (mN m 0 n)) (fun j => go 169 686 ls (.inl (mI m 0 n j) :: st) m) := e_ald d169_685 (fun j hj => by simp only [xi, pI, pA, hj, Option.bind_some]; rfl) (fun hj => by simp only [xi, pI, pA, hj, Option.bind_none])
theorem d169_686 : decode (mt 169).2.1 686 = .ok (.invokevirtual 80, 3) := by decide +kernel
theorem s169_686 {ls : LV} {m : MM} {x0 : Int32} {n : Nat} : go 169 686 ls [.inl x0, .inr (.inr (7, some n))] m = bd (go 64 0 [some (.inr (.inr (7, some n))), some (.inl x0), none] [] m) (fun v m2 => go 169 689 ls (v.toList ++ []) m2) := e_virt (y1 := 64) (na := 1) (as := [.inl x0]) (rest := []) d169_686 (by decide +kernel) rfl (by decide +kernel) (show (ent [.inr (.inr (7, some n)), .inl x0]).length ≤ (mt 64).2.2.2.1 from Nat.le_of_ble_eq_true rfl) (cats_le (Nat.le_of_ble_eq_true rfl)) (by decide +kernel)
theorem d169_689 : decode (mt 169).2.1 689 = .ok (.aload_n 2, 1) := by decide +kernel
theorem s169_689 {a0 a1 a3 : Option AV} {st : List AV} {m : MM} {x : Nat × Option Nat} : go 169 689 [a0, a1, some (.inr (.inr x)), a3] st m = go 169 690 [a0, a1, some (.inr (.inr x)), a3] (.inr (.inr x) :: st) m := e_1 d169_689 (Or.inl rfl) rfl
theorem d169_690 : decode (mt 169).2.1 690 = .ok (.aload_n 0, 1) := by decide +kernel
theorem s169_690 {a1 a2 a3 : Option AV} {st : List AV} {m : MM} {x : Nat × Option Nat} : go 169 690 [some (.inr (.inr x)), a1, a2, a3] st m = go 169 691 [some (.inr (.inr x)), a1, a2, a3] (.inr (.inr x) :: st) m := e_1 d169_690 (Or.inl rfl) rfl
theorem d169_691 : decode (mt 169).2.1 691 = .ok (.iload_n 3, 1) := by decide +kernel
theorem s169_691 {a0 a1 a2 : Option AV} {st : List AV} {m : MM} {x : Int32} : go 169 691 [a0, a1, a2, some (.inl x)] st m = go 169 692 [a0, a1, a2, some (.inl x)] (.inl x :: st) m := e_1 d169_691 (Or.inl rfl) rfl
theorem d169_692 : decode (mt 169).2.1 692 = .ok (.iconst 1, 1) := by decide +kernel
theorem s169_692 {ls : LV} {st : List AV} {m : MM} : go 169 692 ls st m = go 169 693 ls (.inl 1 :: st) m := e_1 d169_692 (Or.inl rfl) rfl
theorem d169_693 : decode (mt 169).2.1 693 = .ok (.iadd, 1) := by decide +kernel
theorem s169_693 {ls : LV} {st : List AV} {m : MM} {a b : Int32} : go 169 693 ls (.inl b :: .inl a :: st) m = go 169 694 ls (.inl (a + b) :: st) m := e_1 d169_693 (Or.inl rfl) rfl
theorem d169_694 : decode (mt 169).2.1 694 = .ok (.iaload, 1) := by decide +kernel
theorem s169_694 {ls : LV} {st : List AV} {m : MM} {n : Nat} {i : Int32} : go 169 694 ls (.inl i :: .inr (.inr (0, some n)) :: st) m = ixk (ix i (mN m 0 n)) (fun j => go 169 695 ls (.inl (mI m 0 n j) :: st) m) := e_ald d169_694 (fun j hj => by simp only [xi, pI, pA, hj, Option.bind_some]; rfl) (fun hj => by simp only [xi, pI, pA, hj, Option.bind_none])
theorem d169_695 : decode (mt 169).2.1 695 = .ok (.invokevirtual 83, 3) := by decide +kernel
theorem s169_695 {ls : LV} {m : MM} {x0 : Int32} {w0 : AV} {n : Nat} : go 169 695 ls [.inl x0, .inr (.inr (8, some n)), w0] m = bd (go 150 0 [some (.inr (.inr (8, some n))), some (.inl x0), none] [] m) (fun v m2 => go 169 698 ls (v.toList ++ [w0]) m2) := e_virt (y1 := 150) (na := 1) (as := [.inl x0]) (rest := [w0]) d169_695 (by decide +kernel) rfl (by decide +kernel) (show (ent [.inr (.inr (8, some n)), .inl x0]).length ≤ (mt 150).2.2.2.1 from Nat.le_of_ble_eq_true rfl) (cats_le (Nat.le_of_ble_eq_true rfl)) (by decide +kernel)
theorem d169_698 : decode (mt 169).2.1 698 = .ok (.if_icmp .eq 365, 3) := by decide +kernel
theorem s169_698 {ls : LV} {st : List AV} {m : MM} {a b : Int32} : go 169 698 ls (.inl b :: .inl a :: st) m = if a = b then go 169 1063 ls st m else go 169 701 ls st m := e_if (t := 1063) (b := hc .eq a b) d169_698 (Or.inl rfl) (by simp only [xi, pI, jm_some (t := 1063) (show ((698 : Nat) : Int) + 365 = ((1063 : Nat) : Int) by decide), Option.bind_some]) (by simp [hc])
theorem d169_701 : decode (mt 169).2.1 701 = .ok (.iconst 0, 1) := by decide +kernel
theorem s169_701 {ls : LV} {st : List AV} {m : MM} : go 169 701 ls st m = go 169 702 ls (.inl 0 :: st) m := e_1 d169_701 (Or.inl rfl) rfl
theorem d169_702 : decode (mt 169).2.1 702 = .ok (.ireturn, 1) := by decide +kernel
theorem s169_702b0 {ls : LV} {m : MM} : go 169 702 ls [.inl 0] m = some (some (.inl 0), m) := e_bool d169_702 (by decide +kernel) (by decide)
theorem s169_702b1 {ls : LV} {m : MM} : go 169 702 ls [.inl 1] m = some (some (.inl 1), m) := e_bool d169_702 (by decide +kernel) (by decide)
theorem d169_703 : decode (mt 169).2.1 703 = .ok (.aload_n 1, 1) := by decide +kernel
theorem s169_703 {a0 a2 a3 : Option AV} {st : List AV} {m : MM} {x : Nat × Option Nat} : go 169 703 [a0, some (.inr (.inr x)), a2, a3] st m = go 169 704 [a0, some (.inr (.inr x)), a2, a3] (.inr (.inr x) :: st) m := e_1 d169_703 (Or.inl rfl) rfl
theorem d169_704 : decode (mt 169).2.1 704 = .ok (.aload_n 0, 1) := by decide +kernel
theorem s169_704 {a1 a2 a3 : Option AV} {st : List AV} {m : MM} {x : Nat × Option Nat} : go 169 704 [some (.inr (.inr x)), a1, a2, a3] st m = go 169 705 [some (.inr (.inr x)), a1, a2, a3] (.inr (.inr x) :: st) m := e_1 d169_704 (Or.inl rfl) rfl
theorem d169_705 : decode (mt 169).2.1 705 = .ok (.iload_n 3, 1) := by decide +kernel
theorem s169_705 {a0 a1 a2 : Option AV} {st : List AV} {m : MM} {x : Int32} : go 169 705 [a0, a1, a2, some (.inl x)] st m = go 169 706 [a0, a1, a2, some (.inl x)] (.inl x :: st) m := e_1 d169_705 (Or.inl rfl) rfl
theorem d169_706 : decode (mt 169).2.1 706 = .ok (.iconst 1, 1) := by decide +kernel
theorem s169_706 {ls : LV} {st : List AV} {m : MM} : go 169 706 ls st m = go 169 707 ls (.inl 1 :: st) m := e_1 d169_706 (Or.inl rfl) rfl
theorem d169_707 : decode (mt 169).2.1 707 = .ok (.iadd, 1) := by decide +kernel
theorem s169_707 {ls : LV} {st : List AV} {m : MM} {a b : Int32} : go 169 707 ls (.inl b :: .inl a :: st) m = go 169 708 ls (.inl (a + b) :: st) m := e_1 d169_707 (Or.inl rfl) rfl
theorem d169_708 : decode (mt 169).2.1 708 = .ok (.iaload, 1) := by decide +kernel
theorem s169_708 {ls : LV} {st : List AV} {m : MM} {n : Nat} {i : Int32} : go 169 708 ls (.inl i :: .inr (.inr (0, some n)) :: st) m = ixk (ix i (mN m 0 n)) (fun j => go 169 709 ls (.inl (mI m 0 n j) :: st) m) := e_ald d169_708 (fun j hj => by simp only [xi, pI, pA, hj, Option.bind_some]; rfl) (fun hj => by simp only [xi, pI, pA, hj, Option.bind_none])
theorem d169_709 : decode (mt 169).2.1 709 = .ok (.invokevirtual 84, 3) := by decide +kernel
theorem s169_709 {ls : LV} {m : MM} {x0 : Int32} {n : Nat} : go 169 709 ls [.inl x0, .inr (.inr (7, some n))] m = bd (go 65 0 [some (.inr (.inr (7, some n))), some (.inl x0), none, none] [] m) (fun v m2 => go 169 712 ls (v.toList ++ []) m2) := e_virt (y1 := 65) (na := 1) (as := [.inl x0]) (rest := []) d169_709 (by decide +kernel) rfl (by decide +kernel) (show (ent [.inr (.inr (7, some n)), .inl x0]).length ≤ (mt 65).2.2.2.1 from Nat.le_of_ble_eq_true rfl) (cats_le (Nat.le_of_ble_eq_true rfl)) (by decide +kernel)
theorem d169_712 : decode (mt 169).2.1 712 = .ok (.aload_n 2, 1) := by decide +kernel
theorem s169_712 {a0 a1 a3 : Option AV} {st : List AV} {m : MM} {x : Nat × Option Nat} : go 169 712 [a0, a1, some (.inr (.inr x)), a3] st m = go 169 713 [a0, a1, some (.inr (.inr x)), a3] (.inr (.inr x) :: st) m := e_1 d169_712 (Or.inl rfl) rfl
theorem d169_713 : decode (mt 169).2.1 713 = .ok (.aload_n 0, 1) := by decide +kernel
theorem s169_713 {a1 a2 a3 : Option AV} {st : List AV} {m : MM} {x : Nat × Option Nat} : go 169 713 [some (.inr (.inr x)), a1, a2, a3] st m = go 169 714 [some (.inr (.inr x)), a1, a2, a3] (.inr (.inr x) :: st) m := e_1 d169_713 (Or.inl rfl) rfl
theorem d169_714 : decode (mt 169).2.1 714 = .ok (.iload_n 3, 1) := by decide +kernel
theorem s169_714 {a0 a1 a2 : Option AV} {st : List AV} {m : MM} {x : Int32} : go 169 714 [a0, a1, a2, some (.inl x)] st m = go 169 715 [a0, a1, a2, some (.inl x)] (.inl x :: st) m := e_1 d169_714 (Or.inl rfl) rfl
theorem d169_715 : decode (mt 169).2.1 715 = .ok (.iconst 1, 1) := by decide +kernel
theorem s169_715 {ls : LV} {st : List AV} {m : MM} : go 169 715 ls st m = go 169 716 ls (.inl 1 :: st) m := e_1 d169_715 (Or.inl rfl) rfl
theorem d169_716 : decode (mt 169).2.1 716 = .ok (.iadd, 1) := by decide +kernel
theorem s169_716 {ls : LV} {st : List AV} {m : MM} {a b : Int32} : go 169 716 ls (.inl b :: .inl a :: st) m = go 169 717 ls (.inl (a + b) :: st) m := e_1 d169_716 (Or.inl rfl) rfl
theorem d169_717 : decode (mt 169).2.1 717 = .ok (.iaload, 1) := by decide +kernel
theorem s169_717 {ls : LV} {st : List AV} {m : MM} {n : Nat} {i : Int32} : go 169 717 ls (.inl i :: .inr (.inr (0, some n)) :: st) m = ixk (ix i (mN m 0 n)) (fun j => go 169 718 ls (.inl (mI m 0 n j) :: st) m) := e_ald d169_717 (fun j hj => by simp only [xi, pI, pA, hj, Option.bind_some]; rfl) (fun hj => by simp only [xi, pI, pA, hj, Option.bind_none])
theorem d169_718 : decode (mt 169).2.1 718 = .ok (.invokevirtual 87, 3) := by decide +kernel
theorem s169_718 {ls : LV} {m : MM} {x0 : Int32} {w0 : AV} {n : Nat} : go 169 718 ls [.inl x0, .inr (.inr (8, some n)), w0] m = bd (go 152 0 [some (.inr (.inr (8, some n))), some (.inl x0), none] [] m) (fun v m2 => go 169 721 ls (v.toList ++ [w0]) m2) := e_virt (y1 := 152) (na := 1) (as := [.inl x0]) (rest := [w0]) d169_718 (by decide +kernel) rfl (by decide +kernel) (show (ent [.inr (.inr (8, some n)), .inl x0]).length ≤ (mt 152).2.2.2.1 from Nat.le_of_ble_eq_true rfl) (cats_le (Nat.le_of_ble_eq_true rfl)) (by decide +kernel)
theorem d169_721 : decode (mt 169).2.1 721 = .ok (.if_icmp .eq 342, 3) := by decide +kernel
theorem s169_721 {ls : LV} {st : List AV} {m : MM} {a b : Int32} : go 169 721 ls (.inl b :: .inl a :: st) m = if a = b then go 169 1063 ls st m else go 169 724 ls st m := e_if (t := 1063) (b := hc .eq a b) d169_721 (Or.inl rfl) (by simp only [xi, pI, jm_some (t := 1063) (show ((721 : Nat) : Int) + 342 = ((1063 : Nat) : Int) by decide), Option.bind_some]) (by simp [hc])
theorem d169_724 : decode (mt 169).2.1 724 = .ok (.iconst 0, 1) := by decide +kernel
theorem s169_724 {ls : LV} {st : List AV} {m : MM} : go 169 724 ls st m = go 169 725 ls (.inl 0 :: st) m := e_1 d169_724 (Or.inl rfl) rfl
theorem d169_725 : decode (mt 169).2.1 725 = .ok (.ireturn, 1) := by decide +kernel
theorem s169_725b0 {ls : LV} {m : MM} : go 169 725 ls [.inl 0] m = some (some (.inl 0), m) := e_bool d169_725 (by decide +kernel) (by decide)
theorem s169_725b1 {ls : LV} {m : MM} : go 169 725 ls [.inl 1] m = some (some (.inl 1), m) := e_bool d169_725 (by decide +kernel) (by decide)
theorem d169_726 : decode (mt 169).2.1 726 = .ok (.aload_n 1, 1) := by decide +kernel
theorem s169_726 {a0 a2 a3 : Option AV} {st : List AV} {m : MM} {x : Nat × Option Nat} : go 169 726 [a0, some (.inr (.inr x)), a2, a3] st m = go 169 727 [a0, some (.inr (.inr x)), a2, a3] (.inr (.inr x) :: st) m := e_1 d169_726 (Or.inl rfl) rfl
theorem d169_727 : decode (mt 169).2.1 727 = .ok (.aload_n 0, 1) := by decide +kernel
theorem s169_727 {a1 a2 a3 : Option AV} {st : List AV} {m : MM} {x : Nat × Option Nat} : go 169 727 [some (.inr (.inr x)), a1, a2, a3] st m = go 169 728 [some (.inr (.inr x)), a1, a2, a3] (.inr (.inr x) :: st) m := e_1 d169_727 (Or.inl rfl) rfl
theorem d169_728 : decode (mt 169).2.1 728 = .ok (.iload_n 3, 1) := by decide +kernel
theorem s169_728 {a0 a1 a2 : Option AV} {st : List AV} {m : MM} {x : Int32} : go 169 728 [a0, a1, a2, some (.inl x)] st m = go 169 729 [a0, a1, a2, some (.inl x)] (.inl x :: st) m := e_1 d169_728 (Or.inl rfl) rfl
theorem d169_729 : decode (mt 169).2.1 729 = .ok (.iconst 1, 1) := by decide +kernel
theorem s169_729 {ls : LV} {st : List AV} {m : MM} : go 169 729 ls st m = go 169 730 ls (.inl 1 :: st) m := e_1 d169_729 (Or.inl rfl) rfl
theorem d169_730 : decode (mt 169).2.1 730 = .ok (.iadd, 1) := by decide +kernel
theorem s169_730 {ls : LV} {st : List AV} {m : MM} {a b : Int32} : go 169 730 ls (.inl b :: .inl a :: st) m = go 169 731 ls (.inl (a + b) :: st) m := e_1 d169_730 (Or.inl rfl) rfl
theorem d169_731 : decode (mt 169).2.1 731 = .ok (.iaload, 1) := by decide +kernel
theorem s169_731 {ls : LV} {st : List AV} {m : MM} {n : Nat} {i : Int32} : go 169 731 ls (.inl i :: .inr (.inr (0, some n)) :: st) m = ixk (ix i (mN m 0 n)) (fun j => go 169 732 ls (.inl (mI m 0 n j) :: st) m) := e_ald d169_731 (fun j hj => by simp only [xi, pI, pA, hj, Option.bind_some]; rfl) (fun hj => by simp only [xi, pI, pA, hj, Option.bind_none])
theorem d169_732 : decode (mt 169).2.1 732 = .ok (.aload_n 0, 1) := by decide +kernel
theorem s169_732 {a1 a2 a3 : Option AV} {st : List AV} {m : MM} {x : Nat × Option Nat} : go 169 732 [some (.inr (.inr x)), a1, a2, a3] st m = go 169 733 [some (.inr (.inr x)), a1, a2, a3] (.inr (.inr x) :: st) m := e_1 d169_732 (Or.inl rfl) rfl
theorem d169_733 : decode (mt 169).2.1 733 = .ok (.iload_n 3, 1) := by decide +kernel
theorem s169_733 {a0 a1 a2 : Option AV} {st : List AV} {m : MM} {x : Int32} : go 169 733 [a0, a1, a2, some (.inl x)] st m = go 169 734 [a0, a1, a2, some (.inl x)] (.inl x :: st) m := e_1 d169_733 (Or.inl rfl) rfl
theorem d169_734 : decode (mt 169).2.1 734 = .ok (.iconst 2, 1) := by decide +kernel
theorem s169_734 {ls : LV} {st : List AV} {m : MM} : go 169 734 ls st m = go 169 735 ls (.inl 2 :: st) m := e_1 d169_734 (Or.inl rfl) rfl
theorem d169_735 : decode (mt 169).2.1 735 = .ok (.iadd, 1) := by decide +kernel
theorem s169_735 {ls : LV} {st : List AV} {m : MM} {a b : Int32} : go 169 735 ls (.inl b :: .inl a :: st) m = go 169 736 ls (.inl (a + b) :: st) m := e_1 d169_735 (Or.inl rfl) rfl
theorem d169_736 : decode (mt 169).2.1 736 = .ok (.iaload, 1) := by decide +kernel
theorem s169_736 {ls : LV} {st : List AV} {m : MM} {n : Nat} {i : Int32} : go 169 736 ls (.inl i :: .inr (.inr (0, some n)) :: st) m = ixk (ix i (mN m 0 n)) (fun j => go 169 737 ls (.inl (mI m 0 n j) :: st) m) := e_ald d169_736 (fun j hj => by simp only [xi, pI, pA, hj, Option.bind_some]; rfl) (fun hj => by simp only [xi, pI, pA, hj, Option.bind_none])
theorem d169_737 : decode (mt 169).2.1 737 = .ok (.invokevirtual 88, 3) := by decide +kernel
theorem s169_737 {ls : LV} {m : MM} {x0 : Int32} {x1 : Int32} {n : Nat} : go 169 737 ls [.inl x1, .inl x0, .inr (.inr (7, some n))] m = bd (go 66 0 [some (.inr (.inr (7, some n))), some (.inl x0), some (.inl x1), none] [] m) (fun v m2 => go 169 740 ls (v.toList ++ []) m2) := e_virt (y1 := 66) (na := 2) (as := [.inl x0, .inl x1]) (rest := []) d169_737 (by decide +kernel) rfl (by decide +kernel) (show (ent [.inr (.inr (7, some n)), .inl x0, .inl x1]).length ≤ (mt 66).2.2.2.1 from Nat.le_of_ble_eq_true rfl) (cats_le (Nat.le_of_ble_eq_true rfl)) (by decide +kernel)
theorem d169_740 : decode (mt 169).2.1 740 = .ok (.aload_n 2, 1) := by decide +kernel
theorem s169_740 {a0 a1 a3 : Option AV} {st : List AV} {m : MM} {x : Nat × Option Nat} : go 169 740 [a0, a1, some (.inr (.inr x)), a3] st m = go 169 741 [a0, a1, some (.inr (.inr x)), a3] (.inr (.inr x) :: st) m := e_1 d169_740 (Or.inl rfl) rfl
theorem d169_741 : decode (mt 169).2.1 741 = .ok (.aload_n 0, 1) := by decide +kernel
theorem s169_741 {a1 a2 a3 : Option AV} {st : List AV} {m : MM} {x : Nat × Option Nat} : go 169 741 [some (.inr (.inr x)), a1, a2, a3] st m = go 169 742 [some (.inr (.inr x)), a1, a2, a3] (.inr (.inr x) :: st) m := e_1 d169_741 (Or.inl rfl) rfl
theorem d169_742 : decode (mt 169).2.1 742 = .ok (.iload_n 3, 1) := by decide +kernel
theorem s169_742 {a0 a1 a2 : Option AV} {st : List AV} {m : MM} {x : Int32} : go 169 742 [a0, a1, a2, some (.inl x)] st m = go 169 743 [a0, a1, a2, some (.inl x)] (.inl x :: st) m := e_1 d169_742 (Or.inl rfl) rfl
theorem d169_743 : decode (mt 169).2.1 743 = .ok (.iconst 1, 1) := by decide +kernel
theorem s169_743 {ls : LV} {st : List AV} {m : MM} : go 169 743 ls st m = go 169 744 ls (.inl 1 :: st) m := e_1 d169_743 (Or.inl rfl) rfl
theorem d169_744 : decode (mt 169).2.1 744 = .ok (.iadd, 1) := by decide +kernel
theorem s169_744 {ls : LV} {st : List AV} {m : MM} {a b : Int32} : go 169 744 ls (.inl b :: .inl a :: st) m = go 169 745 ls (.inl (a + b) :: st) m := e_1 d169_744 (Or.inl rfl) rfl
theorem d169_745 : decode (mt 169).2.1 745 = .ok (.iaload, 1) := by decide +kernel
theorem s169_745 {ls : LV} {st : List AV} {m : MM} {n : Nat} {i : Int32} : go 169 745 ls (.inl i :: .inr (.inr (0, some n)) :: st) m = ixk (ix i (mN m 0 n)) (fun j => go 169 746 ls (.inl (mI m 0 n j) :: st) m) := e_ald d169_745 (fun j hj => by simp only [xi, pI, pA, hj, Option.bind_some]; rfl) (fun hj => by simp only [xi, pI, pA, hj, Option.bind_none])
theorem d169_746 : decode (mt 169).2.1 746 = .ok (.aload_n 0, 1) := by decide +kernel
theorem s169_746 {a1 a2 a3 : Option AV} {st : List AV} {m : MM} {x : Nat × Option Nat} : go 169 746 [some (.inr (.inr x)), a1, a2, a3] st m = go 169 747 [some (.inr (.inr x)), a1, a2, a3] (.inr (.inr x) :: st) m := e_1 d169_746 (Or.inl rfl) rfl
theorem d169_747 : decode (mt 169).2.1 747 = .ok (.iload_n 3, 1) := by decide +kernel
theorem s169_747 {a0 a1 a2 : Option AV} {st : List AV} {m : MM} {x : Int32} : go 169 747 [a0, a1, a2, some (.inl x)] st m = go 169 748 [a0, a1, a2, some (.inl x)] (.inl x :: st) m := e_1 d169_747 (Or.inl rfl) rfl
theorem d169_748 : decode (mt 169).2.1 748 = .ok (.iconst 2, 1) := by decide +kernel
theorem s169_748 {ls : LV} {st : List AV} {m : MM} : go 169 748 ls st m = go 169 749 ls (.inl 2 :: st) m := e_1 d169_748 (Or.inl rfl) rfl
theorem d169_749 : decode (mt 169).2.1 749 = .ok (.iadd, 1) := by decide +kernel
theorem s169_749 {ls : LV} {st : List AV} {m : MM} {a b : Int32} : go 169 749 ls (.inl b :: .inl a :: st) m = go 169 750 ls (.inl (a + b) :: st) m := e_1 d169_749 (Or.inl rfl) rfl
theorem d169_750 : decode (mt 169).2.1 750 = .ok (.iaload, 1) := by decide +kernel
theorem s169_750 {ls : LV} {st : List AV} {m : MM} {n : Nat} {i : Int32} : go 169 750 ls (.inl i :: .inr (.inr (0, some n)) :: st) m = ixk (ix i (mN m 0 n)) (fun j => go 169 751 ls (.inl (mI m 0 n j) :: st) m) := e_ald d169_750 (fun j hj => by simp only [xi, pI, pA, hj, Option.bind_some]; rfl) (fun hj => by simp only [xi, pI, pA, hj, Option.bind_none])
theorem d169_751 : decode (mt 169).2.1 751 = .ok (.invokevirtual 91, 3) := by decide +kernel
theorem s169_751 {ls : LV} {m : MM} {x0 : Int32} {x1 : Int32} {w0 : AV} {n : Nat} : go 169 751 ls [.inl x1, .inl x0, .inr (.inr (8, some n)), w0] m = bd (go 153 0 [some (.inr (.inr (8, some n))), some (.inl x0), some (.inl x1)] [] m) (fun v m2 => go 169 754 ls (v.toList ++ [w0]) m2) := e_virt (y1 := 153) (na := 2) (as := [.inl x0, .inl x1]) (rest := [w0]) d169_751 (by decide +kernel) rfl (by decide +kernel) (show (ent [.inr (.inr (8, some n)), .inl x0, .inl x1]).length ≤ (mt 153).2.2.2.1 from Nat.le_of_ble_eq_true rfl) (cats_le (Nat.le_of_ble_eq_true rfl)) (by decide +kernel)
theorem d169_754 : decode (mt 169).2.1 754 = .ok (.if_icmp .eq 309, 3) := by decide +kernel
theorem s169_754 {ls : LV} {st : List AV} {m : MM} {a b : Int32} : go 169 754 ls (.inl b :: .inl a :: st) m = if a = b then go 169 1063 ls st m else go 169 757 ls st m := e_if (t := 1063) (b := hc .eq a b) d169_754 (Or.inl rfl) (by simp only [xi, pI, jm_some (t := 1063) (show ((754 : Nat) : Int) + 309 = ((1063 : Nat) : Int) by decide), Option.bind_some]) (by simp [hc])
theorem d169_757 : decode (mt 169).2.1 757 = .ok (.iconst 0, 1) := by decide +kernel
theorem s169_757 {ls : LV} {st : List AV} {m : MM} : go 169 757 ls st m = go 169 758 ls (.inl 0 :: st) m := e_1 d169_757 (Or.inl rfl) rfl
theorem d169_758 : decode (mt 169).2.1 758 = .ok (.ireturn, 1) := by decide +kernel
theorem s169_758b0 {ls : LV} {m : MM} : go 169 758 ls [.inl 0] m = some (some (.inl 0), m) := e_bool d169_758 (by decide +kernel) (by decide)
theorem s169_758b1 {ls : LV} {m : MM} : go 169 758 ls [.inl 1] m = some (some (.inl 1), m) := e_bool d169_758 (by decide +kernel) (by decide)
theorem d169_759 : decode (mt 169).2.1 759 = .ok (.aload_n 1, 1) := by decide +kernel
theorem s169_759 {a0 a2 a3 : Option AV} {st : List AV} {m : MM} {x : Nat × Option Nat} : go 169 759 [a0, some (.inr (.inr x)), a2, a3] st m = go 169 760 [a0, some (.inr (.inr x)), a2, a3] (.inr (.inr x) :: st) m := e_1 d169_759 (Or.inl rfl) rfl
theorem d169_760 : decode (mt 169).2.1 760 = .ok (.aload_n 0, 1) := by decide +kernel
theorem s169_760 {a1 a2 a3 : Option AV} {st : List AV} {m : MM} {x : Nat × Option Nat} : go 169 760 [some (.inr (.inr x)), a1, a2, a3] st m = go 169 761 [some (.inr (.inr x)), a1, a2, a3] (.inr (.inr x) :: st) m := e_1 d169_760 (Or.inl rfl) rfl
theorem d169_761 : decode (mt 169).2.1 761 = .ok (.iload_n 3, 1) := by decide +kernel
theorem s169_761 {a0 a1 a2 : Option AV} {st : List AV} {m : MM} {x : Int32} : go 169 761 [a0, a1, a2, some (.inl x)] st m = go 169 762 [a0, a1, a2, some (.inl x)] (.inl x :: st) m := e_1 d169_761 (Or.inl rfl) rfl
theorem d169_762 : decode (mt 169).2.1 762 = .ok (.iconst 1, 1) := by decide +kernel
theorem s169_762 {ls : LV} {st : List AV} {m : MM} : go 169 762 ls st m = go 169 763 ls (.inl 1 :: st) m := e_1 d169_762 (Or.inl rfl) rfl
theorem d169_763 : decode (mt 169).2.1 763 = .ok (.iadd, 1) := by decide +kernel
theorem s169_763 {ls : LV} {st : List AV} {m : MM} {a b : Int32} : go 169 763 ls (.inl b :: .inl a :: st) m = go 169 764 ls (.inl (a + b) :: st) m := e_1 d169_763 (Or.inl rfl) rfl
theorem d169_764 : decode (mt 169).2.1 764 = .ok (.iaload, 1) := by decide +kernel
theorem s169_764 {ls : LV} {st : List AV} {m : MM} {n : Nat} {i : Int32} : go 169 764 ls (.inl i :: .inr (.inr (0, some n)) :: st) m = ixk (ix i (mN m 0 n)) (fun j => go 169 765 ls (.inl (mI m 0 n j) :: st) m) := e_ald d169_764 (fun j hj => by simp only [xi, pI, pA, hj, Option.bind_some]; rfl) (fun hj => by simp only [xi, pI, pA, hj, Option.bind_none])
theorem d169_765 : decode (mt 169).2.1 765 = .ok (.aload_n 0, 1) := by decide +kernel
theorem s169_765 {a1 a2 a3 : Option AV} {st : List AV} {m : MM} {x : Nat × Option Nat} : go 169 765 [some (.inr (.inr x)), a1, a2, a3] st m = go 169 766 [some (.inr (.inr x)), a1, a2, a3] (.inr (.inr x) :: st) m := e_1 d169_765 (Or.inl rfl) rfl
theorem d169_766 : decode (mt 169).2.1 766 = .ok (.iload_n 3, 1) := by decide +kernel
theorem s169_766 {a0 a1 a2 : Option AV} {st : List AV} {m : MM} {x : Int32} : go 169 766 [a0, a1, a2, some (.inl x)] st m = go 169 767 [a0, a1, a2, some (.inl x)] (.inl x :: st) m := e_1 d169_766 (Or.inl rfl) rfl
theorem d169_767 : decode (mt 169).2.1 767 = .ok (.iconst 2, 1) := by decide +kernel
theorem s169_767 {ls : LV} {st : List AV} {m : MM} : go 169 767 ls st m = go 169 768 ls (.inl 2 :: st) m := e_1 d169_767 (Or.inl rfl) rfl
theorem d169_768 : decode (mt 169).2.1 768 = .ok (.iadd, 1) := by decide +kernel
theorem s169_768 {ls : LV} {st : List AV} {m : MM} {a b : Int32} : go 169 768 ls (.inl b :: .inl a :: st) m = go 169 769 ls (.inl (a + b) :: st) m := e_1 d169_768 (Or.inl rfl) rfl
theorem d169_769 : decode (mt 169).2.1 769 = .ok (.iaload, 1) := by decide +kernel
theorem s169_769 {ls : LV} {st : List AV} {m : MM} {n : Nat} {i : Int32} : go 169 769 ls (.inl i :: .inr (.inr (0, some n)) :: st) m = ixk (ix i (mN m 0 n)) (fun j => go 169 770 ls (.inl (mI m 0 n j) :: st) m) := e_ald d169_769 (fun j hj => by simp only [xi, pI, pA, hj, Option.bind_some]; rfl) (fun hj => by simp only [xi, pI, pA, hj, Option.bind_none])
theorem d169_770 : decode (mt 169).2.1 770 = .ok (.invokevirtual 92, 3) := by decide +kernel
theorem s169_770 {ls : LV} {m : MM} {x0 : Int32} {x1 : Int32} {n : Nat} : go 169 770 ls [.inl x1, .inl x0, .inr (.inr (7, some n))] m = bd (go 82 0 [some (.inr (.inr (7, some n))), some (.inl x0), some (.inl x1), none] [] m) (fun v m2 => go 169 773 ls (v.toList ++ []) m2) := e_virt (y1 := 82) (na := 2) (as := [.inl x0, .inl x1]) (rest := []) d169_770 (by decide +kernel) rfl (by decide +kernel) (show (ent [.inr (.inr (7, some n)), .inl x0, .inl x1]).length ≤ (mt 82).2.2.2.1 from Nat.le_of_ble_eq_true rfl) (cats_le (Nat.le_of_ble_eq_true rfl)) (by decide +kernel)
theorem d169_773 : decode (mt 169).2.1 773 = .ok (.aload_n 2, 1) := by decide +kernel
theorem s169_773 {a0 a1 a3 : Option AV} {st : List AV} {m : MM} {x : Nat × Option Nat} : go 169 773 [a0, a1, some (.inr (.inr x)), a3] st m = go 169 774 [a0, a1, some (.inr (.inr x)), a3] (.inr (.inr x) :: st) m := e_1 d169_773 (Or.inl rfl) rfl
theorem d169_774 : decode (mt 169).2.1 774 = .ok (.aload_n 0, 1) := by decide +kernel
theorem s169_774 {a1 a2 a3 : Option AV} {st : List AV} {m : MM} {x : Nat × Option Nat} : go 169 774 [some (.inr (.inr x)), a1, a2, a3] st m = go 169 775 [some (.inr (.inr x)), a1, a2, a3] (.inr (.inr x) :: st) m := e_1 d169_774 (Or.inl rfl) rfl
theorem d169_775 : decode (mt 169).2.1 775 = .ok (.iload_n 3, 1) := by decide +kernel
theorem s169_775 {a0 a1 a2 : Option AV} {st : List AV} {m : MM} {x : Int32} : go 169 775 [a0, a1, a2, some (.inl x)] st m = go 169 776 [a0, a1, a2, some (.inl x)] (.inl x :: st) m := e_1 d169_775 (Or.inl rfl) rfl
theorem d169_776 : decode (mt 169).2.1 776 = .ok (.iconst 1, 1) := by decide +kernel
theorem s169_776 {ls : LV} {st : List AV} {m : MM} : go 169 776 ls st m = go 169 777 ls (.inl 1 :: st) m := e_1 d169_776 (Or.inl rfl) rfl
theorem d169_777 : decode (mt 169).2.1 777 = .ok (.iadd, 1) := by decide +kernel
theorem s169_777 {ls : LV} {st : List AV} {m : MM} {a b : Int32} : go 169 777 ls (.inl b :: .inl a :: st) m = go 169 778 ls (.inl (a + b) :: st) m := e_1 d169_777 (Or.inl rfl) rfl
theorem d169_778 : decode (mt 169).2.1 778 = .ok (.iaload, 1) := by decide +kernel
theorem s169_778 {ls : LV} {st : List AV} {m : MM} {n : Nat} {i : Int32} : go 169 778 ls (.inl i :: .inr (.inr (0, some n)) :: st) m = ixk (ix i (mN m 0 n)) (fun j => go 169 779 ls (.inl (mI m 0 n j) :: st) m) := e_ald d169_778 (fun j hj => by simp only [xi, pI, pA, hj, Option.bind_some]; rfl) (fun hj => by simp only [xi, pI, pA, hj, Option.bind_none])
theorem d169_779 : decode (mt 169).2.1 779 = .ok (.aload_n 0, 1) := by decide +kernel
theorem s169_779 {a1 a2 a3 : Option AV} {st : List AV} {m : MM} {x : Nat × Option Nat} : go 169 779 [some (.inr (.inr x)), a1, a2, a3] st m = go 169 780 [some (.inr (.inr x)), a1, a2, a3] (.inr (.inr x) :: st) m := e_1 d169_779 (Or.inl rfl) rfl
theorem d169_780 : decode (mt 169).2.1 780 = .ok (.iload_n 3, 1) := by decide +kernel
theorem s169_780 {a0 a1 a2 : Option AV} {st : List AV} {m : MM} {x : Int32} : go 169 780 [a0, a1, a2, some (.inl x)] st m = go 169 781 [a0, a1, a2, some (.inl x)] (.inl x :: st) m := e_1 d169_780 (Or.inl rfl) rfl
theorem d169_781 : decode (mt 169).2.1 781 = .ok (.iconst 2, 1) := by decide +kernel
theorem s169_781 {ls : LV} {st : List AV} {m : MM} : go 169 781 ls st m = go 169 782 ls (.inl 2 :: st) m := e_1 d169_781 (Or.inl rfl) rfl
theorem d169_782 : decode (mt 169).2.1 782 = .ok (.iadd, 1) := by decide +kernel
theorem s169_782 {ls : LV} {st : List AV} {m : MM} {a b : Int32} : go 169 782 ls (.inl b :: .inl a :: st) m = go 169 783 ls (.inl (a + b) :: st) m := e_1 d169_782 (Or.inl rfl) rfl
theorem d169_783 : decode (mt 169).2.1 783 = .ok (.iaload, 1) := by decide +kernel
theorem s169_783 {ls : LV} {st : List AV} {m : MM} {n : Nat} {i : Int32} : go 169 783 ls (.inl i :: .inr (.inr (0, some n)) :: st) m = ixk (ix i (mN m 0 n)) (fun j => go 169 784 ls (.inl (mI m 0 n j) :: st) m) := e_ald d169_783 (fun j hj => by simp only [xi, pI, pA, hj, Option.bind_some]; rfl) (fun hj => by simp only [xi, pI, pA, hj, Option.bind_none])
theorem d169_784 : decode (mt 169).2.1 784 = .ok (.invokevirtual 95, 3) := by decide +kernel
theorem s169_784 {ls : LV} {m : MM} {x0 : Int32} {x1 : Int32} {w0 : AV} {n : Nat} : go 169 784 ls [.inl x1, .inl x0, .inr (.inr (8, some n)), w0] m = bd (go 154 0 [some (.inr (.inr (8, some n))), some (.inl x0), some (.inl x1), none, none] [] m) (fun v m2 => go 169 787 ls (v.toList ++ [w0]) m2) := e_virt (y1 := 154) (na := 2) (as := [.inl x0, .inl x1]) (rest := [w0]) d169_784 (by decide +kernel) rfl (by decide +kernel) (show (ent [.inr (.inr (8, some n)), .inl x0, .inl x1]).length ≤ (mt 154).2.2.2.1 from Nat.le_of_ble_eq_true rfl) (cats_le (Nat.le_of_ble_eq_true rfl)) (by decide +kernel)
theorem d169_787 : decode (mt 169).2.1 787 = .ok (.if_icmp .eq 276, 3) := by decide +kernel
theorem s169_787 {ls : LV} {st : List AV} {m : MM} {a b : Int32} : go 169 787 ls (.inl b :: .inl a :: st) m = if a = b then go 169 1063 ls st m else go 169 790 ls st m := e_if (t := 1063) (b := hc .eq a b) d169_787 (Or.inl rfl) (by simp only [xi, pI, jm_some (t := 1063) (show ((787 : Nat) : Int) + 276 = ((1063 : Nat) : Int) by decide), Option.bind_some]) (by simp [hc])
theorem d169_790 : decode (mt 169).2.1 790 = .ok (.iconst 0, 1) := by decide +kernel
theorem s169_790 {ls : LV} {st : List AV} {m : MM} : go 169 790 ls st m = go 169 791 ls (.inl 0 :: st) m := e_1 d169_790 (Or.inl rfl) rfl
theorem d169_791 : decode (mt 169).2.1 791 = .ok (.ireturn, 1) := by decide +kernel
theorem s169_791b0 {ls : LV} {m : MM} : go 169 791 ls [.inl 0] m = some (some (.inl 0), m) := e_bool d169_791 (by decide +kernel) (by decide)
theorem s169_791b1 {ls : LV} {m : MM} : go 169 791 ls [.inl 1] m = some (some (.inl 1), m) := e_bool d169_791 (by decide +kernel) (by decide)
theorem d169_792 : decode (mt 169).2.1 792 = .ok (.aload_n 1, 1) := by decide +kernel
theorem s169_792 {a0 a2 a3 : Option AV} {st : List AV} {m : MM} {x : Nat × Option Nat} : go 169 792 [a0, some (.inr (.inr x)), a2, a3] st m = go 169 793 [a0, some (.inr (.inr x)), a2, a3] (.inr (.inr x) :: st) m := e_1 d169_792 (Or.inl rfl) rfl
theorem d169_793 : decode (mt 169).2.1 793 = .ok (.aload_n 0, 1) := by decide +kernel
theorem s169_793 {a1 a2 a3 : Option AV} {st : List AV} {m : MM} {x : Nat × Option Nat} : go 169 793 [some (.inr (.inr x)), a1, a2, a3] st m = go 169 794 [some (.inr (.inr x)), a1, a2, a3] (.inr (.inr x) :: st) m := e_1 d169_793 (Or.inl rfl) rfl
theorem d169_794 : decode (mt 169).2.1 794 = .ok (.iload_n 3, 1) := by decide +kernel
theorem s169_794 {a0 a1 a2 : Option AV} {st : List AV} {m : MM} {x : Int32} : go 169 794 [a0, a1, a2, some (.inl x)] st m = go 169 795 [a0, a1, a2, some (.inl x)] (.inl x :: st) m := e_1 d169_794 (Or.inl rfl) rfl
theorem d169_795 : decode (mt 169).2.1 795 = .ok (.iconst 1, 1) := by decide +kernel
theorem s169_795 {ls : LV} {st : List AV} {m : MM} : go 169 795 ls st m = go 169 796 ls (.inl 1 :: st) m := e_1 d169_795 (Or.inl rfl) rfl
theorem d169_796 : decode (mt 169).2.1 796 = .ok (.iadd, 1) := by decide +kernel
theorem s169_796 {ls : LV} {st : List AV} {m : MM} {a b : Int32} : go 169 796 ls (.inl b :: .inl a :: st) m = go 169 797 ls (.inl (a + b) :: st) m := e_1 d169_796 (Or.inl rfl) rfl
theorem d169_797 : decode (mt 169).2.1 797 = .ok (.iaload, 1) := by decide +kernel
theorem s169_797 {ls : LV} {st : List AV} {m : MM} {n : Nat} {i : Int32} : go 169 797 ls (.inl i :: .inr (.inr (0, some n)) :: st) m = ixk (ix i (mN m 0 n)) (fun j => go 169 798 ls (.inl (mI m 0 n j) :: st) m) := e_ald d169_797 (fun j hj => by simp only [xi, pI, pA, hj, Option.bind_some]; rfl) (fun hj => by simp only [xi, pI, pA, hj, Option.bind_none])
theorem d169_798 : decode (mt 169).2.1 798 = .ok (.invokevirtual 96, 3) := by decide +kernel
theorem s169_798 {ls : LV} {m : MM} {x0 : Int32} {n : Nat} : go 169 798 ls [.inl x0, .inr (.inr (7, some n))] m = bd (go 83 0 [some (.inr (.inr (7, some n))), some (.inl x0), none] [] m) (fun v m2 => go 169 801 ls (v.toList ++ []) m2) := e_virt (y1 := 83) (na := 1) (as := [.inl x0]) (rest := []) d169_798 (by decide +kernel) rfl (by decide +kernel) (show (ent [.inr (.inr (7, some n)), .inl x0]).length ≤ (mt 83).2.2.2.1 from Nat.le_of_ble_eq_true rfl) (cats_le (Nat.le_of_ble_eq_true rfl)) (by decide +kernel)
theorem d169_801 : decode (mt 169).2.1 801 = .ok (.aload_n 2, 1) := by decide +kernel
theorem s169_801 {a0 a1 a3 : Option AV} {st : List AV} {m : MM} {x : Nat × Option Nat} : go 169 801 [a0, a1, some (.inr (.inr x)), a3] st m = go 169 802 [a0, a1, some (.inr (.inr x)), a3] (.inr (.inr x) :: st) m := e_1 d169_801 (Or.inl rfl) rfl
theorem d169_802 : decode (mt 169).2.1 802 = .ok (.aload_n 0, 1) := by decide +kernel
theorem s169_802 {a1 a2 a3 : Option AV} {st : List AV} {m : MM} {x : Nat × Option Nat} : go 169 802 [some (.inr (.inr x)), a1, a2, a3] st m = go 169 803 [some (.inr (.inr x)), a1, a2, a3] (.inr (.inr x) :: st) m := e_1 d169_802 (Or.inl rfl) rfl
theorem d169_803 : decode (mt 169).2.1 803 = .ok (.iload_n 3, 1) := by decide +kernel
theorem s169_803 {a0 a1 a2 : Option AV} {st : List AV} {m : MM} {x : Int32} : go 169 803 [a0, a1, a2, some (.inl x)] st m = go 169 804 [a0, a1, a2, some (.inl x)] (.inl x :: st) m := e_1 d169_803 (Or.inl rfl) rfl
theorem d169_804 : decode (mt 169).2.1 804 = .ok (.iconst 1, 1) := by decide +kernel
theorem s169_804 {ls : LV} {st : List AV} {m : MM} : go 169 804 ls st m = go 169 805 ls (.inl 1 :: st) m := e_1 d169_804 (Or.inl rfl) rfl
theorem d169_805 : decode (mt 169).2.1 805 = .ok (.iadd, 1) := by decide +kernel
theorem s169_805 {ls : LV} {st : List AV} {m : MM} {a b : Int32} : go 169 805 ls (.inl b :: .inl a :: st) m = go 169 806 ls (.inl (a + b) :: st) m := e_1 d169_805 (Or.inl rfl) rfl
theorem d169_806 : decode (mt 169).2.1 806 = .ok (.iaload, 1) := by decide +kernel
theorem s169_806 {ls : LV} {st : List AV} {m : MM} {n : Nat} {i : Int32} : go 169 806 ls (.inl i :: .inr (.inr (0, some n)) :: st) m = ixk (ix i (mN m 0 n)) (fun j => go 169 807 ls (.inl (mI m 0 n j) :: st) m) := e_ald d169_806 (fun j hj => by simp only [xi, pI, pA, hj, Option.bind_some]; rfl) (fun hj => by simp only [xi, pI, pA, hj, Option.bind_none])
theorem d169_807 : decode (mt 169).2.1 807 = .ok (.invokevirtual 99, 3) := by decide +kernel
theorem s169_807 {ls : LV} {m : MM} {x0 : Int32} {w0 : AV} {n : Nat} : go 169 807 ls [.inl x0, .inr (.inr (8, some n)), w0] m = bd (go 155 0 [some (.inr (.inr (8, some n))), some (.inl x0)] [] m) (fun v m2 => go 169 810 ls (v.toList ++ [w0]) m2) := e_virt (y1 := 155) (na := 1) (as := [.inl x0]) (rest := [w0]) d169_807 (by decide +kernel) rfl (by decide +kernel) (show (ent [.inr (.inr (8, some n)), .inl x0]).length ≤ (mt 155).2.2.2.1 from Nat.le_of_ble_eq_true rfl) (cats_le (Nat.le_of_ble_eq_true rfl)) (by decide +kernel)
theorem d169_810 : decode (mt 169).2.1 810 = .ok (.if_icmp .eq 253, 3) := by decide +kernel
theorem s169_810 {ls : LV} {st : List AV} {m : MM} {a b : Int32} : go 169 810 ls (.inl b :: .inl a :: st) m = if a = b then go 169 1063 ls st m else go 169 813 ls st m := e_if (t := 1063) (b := hc .eq a b) d169_810 (Or.inl rfl) (by simp only [xi, pI, jm_some (t := 1063) (show ((810 : Nat) : Int) + 253 = ((1063 : Nat) : Int) by decide), Option.bind_some]) (by simp [hc])
theorem d169_813 : decode (mt 169).2.1 813 = .ok (.iconst 0, 1) := by decide +kernel
theorem s169_813 {ls : LV} {st : List AV} {m : MM} : go 169 813 ls st m = go 169 814 ls (.inl 0 :: st) m := e_1 d169_813 (Or.inl rfl) rfl
theorem d169_814 : decode (mt 169).2.1 814 = .ok (.ireturn, 1) := by decide +kernel
theorem s169_814b0 {ls : LV} {m : MM} : go 169 814 ls [.inl 0] m = some (some (.inl 0), m) := e_bool d169_814 (by decide +kernel) (by decide)
theorem s169_814b1 {ls : LV} {m : MM} : go 169 814 ls [.inl 1] m = some (some (.inl 1), m) := e_bool d169_814 (by decide +kernel) (by decide)
theorem d169_815 : decode (mt 169).2.1 815 = .ok (.aload_n 1, 1) := by decide +kernel
theorem s169_815 {a0 a2 a3 : Option AV} {st : List AV} {m : MM} {x : Nat × Option Nat} : go 169 815 [a0, some (.inr (.inr x)), a2, a3] st m = go 169 816 [a0, some (.inr (.inr x)), a2, a3] (.inr (.inr x) :: st) m := e_1 d169_815 (Or.inl rfl) rfl
theorem d169_816 : decode (mt 169).2.1 816 = .ok (.aload_n 0, 1) := by decide +kernel
theorem s169_816 {a1 a2 a3 : Option AV} {st : List AV} {m : MM} {x : Nat × Option Nat} : go 169 816 [some (.inr (.inr x)), a1, a2, a3] st m = go 169 817 [some (.inr (.inr x)), a1, a2, a3] (.inr (.inr x) :: st) m := e_1 d169_816 (Or.inl rfl) rfl
theorem d169_817 : decode (mt 169).2.1 817 = .ok (.iload_n 3, 1) := by decide +kernel
theorem s169_817 {a0 a1 a2 : Option AV} {st : List AV} {m : MM} {x : Int32} : go 169 817 [a0, a1, a2, some (.inl x)] st m = go 169 818 [a0, a1, a2, some (.inl x)] (.inl x :: st) m := e_1 d169_817 (Or.inl rfl) rfl
theorem d169_818 : decode (mt 169).2.1 818 = .ok (.iconst 1, 1) := by decide +kernel
theorem s169_818 {ls : LV} {st : List AV} {m : MM} : go 169 818 ls st m = go 169 819 ls (.inl 1 :: st) m := e_1 d169_818 (Or.inl rfl) rfl
theorem d169_819 : decode (mt 169).2.1 819 = .ok (.iadd, 1) := by decide +kernel
theorem s169_819 {ls : LV} {st : List AV} {m : MM} {a b : Int32} : go 169 819 ls (.inl b :: .inl a :: st) m = go 169 820 ls (.inl (a + b) :: st) m := e_1 d169_819 (Or.inl rfl) rfl
theorem d169_820 : decode (mt 169).2.1 820 = .ok (.iaload, 1) := by decide +kernel
theorem s169_820 {ls : LV} {st : List AV} {m : MM} {n : Nat} {i : Int32} : go 169 820 ls (.inl i :: .inr (.inr (0, some n)) :: st) m = ixk (ix i (mN m 0 n)) (fun j => go 169 821 ls (.inl (mI m 0 n j) :: st) m) := e_ald d169_820 (fun j hj => by simp only [xi, pI, pA, hj, Option.bind_some]; rfl) (fun hj => by simp only [xi, pI, pA, hj, Option.bind_none])
theorem d169_821 : decode (mt 169).2.1 821 = .ok (.aload_n 0, 1) := by decide +kernel
theorem s169_821 {a1 a2 a3 : Option AV} {st : List AV} {m : MM} {x : Nat × Option Nat} : go 169 821 [some (.inr (.inr x)), a1, a2, a3] st m = go 169 822 [some (.inr (.inr x)), a1, a2, a3] (.inr (.inr x) :: st) m := e_1 d169_821 (Or.inl rfl) rfl
theorem d169_822 : decode (mt 169).2.1 822 = .ok (.iload_n 3, 1) := by decide +kernel
theorem s169_822 {a0 a1 a2 : Option AV} {st : List AV} {m : MM} {x : Int32} : go 169 822 [a0, a1, a2, some (.inl x)] st m = go 169 823 [a0, a1, a2, some (.inl x)] (.inl x :: st) m := e_1 d169_822 (Or.inl rfl) rfl
theorem d169_823 : decode (mt 169).2.1 823 = .ok (.iconst 2, 1) := by decide +kernel
theorem s169_823 {ls : LV} {st : List AV} {m : MM} : go 169 823 ls st m = go 169 824 ls (.inl 2 :: st) m := e_1 d169_823 (Or.inl rfl) rfl
theorem d169_824 : decode (mt 169).2.1 824 = .ok (.iadd, 1) := by decide +kernel
theorem s169_824 {ls : LV} {st : List AV} {m : MM} {a b : Int32} : go 169 824 ls (.inl b :: .inl a :: st) m = go 169 825 ls (.inl (a + b) :: st) m := e_1 d169_824 (Or.inl rfl) rfl
theorem d169_825 : decode (mt 169).2.1 825 = .ok (.iaload, 1) := by decide +kernel
theorem s169_825 {ls : LV} {st : List AV} {m : MM} {n : Nat} {i : Int32} : go 169 825 ls (.inl i :: .inr (.inr (0, some n)) :: st) m = ixk (ix i (mN m 0 n)) (fun j => go 169 826 ls (.inl (mI m 0 n j) :: st) m) := e_ald d169_825 (fun j hj => by simp only [xi, pI, pA, hj, Option.bind_some]; rfl) (fun hj => by simp only [xi, pI, pA, hj, Option.bind_none])
theorem d169_826 : decode (mt 169).2.1 826 = .ok (.aload_n 0, 1) := by decide +kernel
theorem s169_826 {a1 a2 a3 : Option AV} {st : List AV} {m : MM} {x : Nat × Option Nat} : go 169 826 [some (.inr (.inr x)), a1, a2, a3] st m = go 169 827 [some (.inr (.inr x)), a1, a2, a3] (.inr (.inr x) :: st) m := e_1 d169_826 (Or.inl rfl) rfl
theorem d169_827 : decode (mt 169).2.1 827 = .ok (.iload_n 3, 1) := by decide +kernel
theorem s169_827 {a0 a1 a2 : Option AV} {st : List AV} {m : MM} {x : Int32} : go 169 827 [a0, a1, a2, some (.inl x)] st m = go 169 828 [a0, a1, a2, some (.inl x)] (.inl x :: st) m := e_1 d169_827 (Or.inl rfl) rfl
theorem d169_828 : decode (mt 169).2.1 828 = .ok (.iconst 3, 1) := by decide +kernel
theorem s169_828 {ls : LV} {st : List AV} {m : MM} : go 169 828 ls st m = go 169 829 ls (.inl 3 :: st) m := e_1 d169_828 (Or.inl rfl) rfl
theorem d169_829 : decode (mt 169).2.1 829 = .ok (.iadd, 1) := by decide +kernel
theorem s169_829 {ls : LV} {st : List AV} {m : MM} {a b : Int32} : go 169 829 ls (.inl b :: .inl a :: st) m = go 169 830 ls (.inl (a + b) :: st) m := e_1 d169_829 (Or.inl rfl) rfl
theorem d169_830 : decode (mt 169).2.1 830 = .ok (.iaload, 1) := by decide +kernel
theorem s169_830 {ls : LV} {st : List AV} {m : MM} {n : Nat} {i : Int32} : go 169 830 ls (.inl i :: .inr (.inr (0, some n)) :: st) m = ixk (ix i (mN m 0 n)) (fun j => go 169 831 ls (.inl (mI m 0 n j) :: st) m) := e_ald d169_830 (fun j hj => by simp only [xi, pI, pA, hj, Option.bind_some]; rfl) (fun hj => by simp only [xi, pI, pA, hj, Option.bind_none])
theorem d169_831 : decode (mt 169).2.1 831 = .ok (.invokevirtual 100, 3) := by decide +kernel
theorem s169_831 {ls : LV} {m : MM} {x0 : Int32} {x1 : Int32} {x2 : Int32} {n : Nat} : go 169 831 ls [.inl x2, .inl x1, .inl x0, .inr (.inr (7, some n))] m = bd (go 84 0 [some (.inr (.inr (7, some n))), some (.inl x0), some (.inl x1), some (.inl x2), none] [] m) (fun v m2 => go 169 834 ls (v.toList ++ []) m2) := e_virt (y1 := 84) (na := 3) (as := [.inl x0, .inl x1, .inl x2]) (rest := []) d169_831 (by decide +kernel) rfl (by decide +kernel) (show (ent [.inr (.inr (7, some n)), .inl x0, .inl x1, .inl x2]).length ≤ (mt 84).2.2.2.1 from Nat.le_of_ble_eq_true rfl) (cats_le (Nat.le_of_ble_eq_true rfl)) (by decide +kernel)
theorem d169_834 : decode (mt 169).2.1 834 = .ok (.aload_n 2, 1) := by decide +kernel
theorem s169_834 {a0 a1 a3 : Option AV} {st : List AV} {m : MM} {x : Nat × Option Nat} : go 169 834 [a0, a1, some (.inr (.inr x)), a3] st m = go 169 835 [a0, a1, some (.inr (.inr x)), a3] (.inr (.inr x) :: st) m := e_1 d169_834 (Or.inl rfl) rfl
theorem d169_835 : decode (mt 169).2.1 835 = .ok (.aload_n 0, 1) := by decide +kernel
theorem s169_835 {a1 a2 a3 : Option AV} {st : List AV} {m : MM} {x : Nat × Option Nat} : go 169 835 [some (.inr (.inr x)), a1, a2, a3] st m = go 169 836 [some (.inr (.inr x)), a1, a2, a3] (.inr (.inr x) :: st) m := e_1 d169_835 (Or.inl rfl) rfl
theorem d169_836 : decode (mt 169).2.1 836 = .ok (.iload_n 3, 1) := by decide +kernel
theorem s169_836 {a0 a1 a2 : Option AV} {st : List AV} {m : MM} {x : Int32} : go 169 836 [a0, a1, a2, some (.inl x)] st m = go 169 837 [a0, a1, a2, some (.inl x)] (.inl x :: st) m := e_1 d169_836 (Or.inl rfl) rfl
theorem d169_837 : decode (mt 169).2.1 837 = .ok (.iconst 1, 1) := by decide +kernel
theorem s169_837 {ls : LV} {st : List AV} {m : MM} : go 169 837 ls st m = go 169 838 ls (.inl 1 :: st) m := e_1 d169_837 (Or.inl rfl) rfl
theorem d169_838 : decode (mt 169).2.1 838 = .ok (.iadd, 1) := by decide +kernel
theorem s169_838 {ls : LV} {st : List AV} {m : MM} {a b : Int32} : go 169 838 ls (.inl b :: .inl a :: st) m = go 169 839 ls (.inl (a + b) :: st) m := e_1 d169_838 (Or.inl rfl) rfl
theorem d169_839 : decode (mt 169).2.1 839 = .ok (.iaload, 1) := by decide +kernel
theorem s169_839 {ls : LV} {st : List AV} {m : MM} {n : Nat} {i : Int32} : go 169 839 ls (.inl i :: .inr (.inr (0, some n)) :: st) m = ixk (ix i (mN m 0 n)) (fun j => go 169 840 ls (.inl (mI m 0 n j) :: st) m) := e_ald d169_839 (fun j hj => by simp only [xi, pI, pA, hj, Option.bind_some]; rfl) (fun hj => by simp only [xi, pI, pA, hj, Option.bind_none])
theorem d169_840 : decode (mt 169).2.1 840 = .ok (.aload_n 0, 1) := by decide +kernel
theorem s169_840 {a1 a2 a3 : Option AV} {st : List AV} {m : MM} {x : Nat × Option Nat} : go 169 840 [some (.inr (.inr x)), a1, a2, a3] st m = go 169 841 [some (.inr (.inr x)), a1, a2, a3] (.inr (.inr x) :: st) m := e_1 d169_840 (Or.inl rfl) rfl
theorem d169_841 : decode (mt 169).2.1 841 = .ok (.iload_n 3, 1) := by decide +kernel
theorem s169_841 {a0 a1 a2 : Option AV} {st : List AV} {m : MM} {x : Int32} : go 169 841 [a0, a1, a2, some (.inl x)] st m = go 169 842 [a0, a1, a2, some (.inl x)] (.inl x :: st) m := e_1 d169_841 (Or.inl rfl) rfl
theorem d169_842 : decode (mt 169).2.1 842 = .ok (.iconst 2, 1) := by decide +kernel
theorem s169_842 {ls : LV} {st : List AV} {m : MM} : go 169 842 ls st m = go 169 843 ls (.inl 2 :: st) m := e_1 d169_842 (Or.inl rfl) rfl
theorem d169_843 : decode (mt 169).2.1 843 = .ok (.iadd, 1) := by decide +kernel
theorem s169_843 {ls : LV} {st : List AV} {m : MM} {a b : Int32} : go 169 843 ls (.inl b :: .inl a :: st) m = go 169 844 ls (.inl (a + b) :: st) m := e_1 d169_843 (Or.inl rfl) rfl
theorem d169_844 : decode (mt 169).2.1 844 = .ok (.iaload, 1) := by decide +kernel
theorem s169_844 {ls : LV} {st : List AV} {m : MM} {n : Nat} {i : Int32} : go 169 844 ls (.inl i :: .inr (.inr (0, some n)) :: st) m = ixk (ix i (mN m 0 n)) (fun j => go 169 845 ls (.inl (mI m 0 n j) :: st) m) := e_ald d169_844 (fun j hj => by simp only [xi, pI, pA, hj, Option.bind_some]; rfl) (fun hj => by simp only [xi, pI, pA, hj, Option.bind_none])
theorem d169_845 : decode (mt 169).2.1 845 = .ok (.aload_n 0, 1) := by decide +kernel
theorem s169_845 {a1 a2 a3 : Option AV} {st : List AV} {m : MM} {x : Nat × Option Nat} : go 169 845 [some (.inr (.inr x)), a1, a2, a3] st m = go 169 846 [some (.inr (.inr x)), a1, a2, a3] (.inr (.inr x) :: st) m := e_1 d169_845 (Or.inl rfl) rfl
theorem d169_846 : decode (mt 169).2.1 846 = .ok (.iload_n 3, 1) := by decide +kernel
theorem s169_846 {a0 a1 a2 : Option AV} {st : List AV} {m : MM} {x : Int32} : go 169 846 [a0, a1, a2, some (.inl x)] st m = go 169 847 [a0, a1, a2, some (.inl x)] (.inl x :: st) m := e_1 d169_846 (Or.inl rfl) rfl
theorem d169_847 : decode (mt 169).2.1 847 = .ok (.iconst 3, 1) := by decide +kernel
theorem s169_847 {ls : LV} {st : List AV} {m : MM} : go 169 847 ls st m = go 169 848 ls (.inl 3 :: st) m := e_1 d169_847 (Or.inl rfl) rfl
theorem d169_848 : decode (mt 169).2.1 848 = .ok (.iadd, 1) := by decide +kernel
theorem s169_848 {ls : LV} {st : List AV} {m : MM} {a b : Int32} : go 169 848 ls (.inl b :: .inl a :: st) m = go 169 849 ls (.inl (a + b) :: st) m := e_1 d169_848 (Or.inl rfl) rfl
theorem d169_849 : decode (mt 169).2.1 849 = .ok (.iaload, 1) := by decide +kernel
theorem s169_849 {ls : LV} {st : List AV} {m : MM} {n : Nat} {i : Int32} : go 169 849 ls (.inl i :: .inr (.inr (0, some n)) :: st) m = ixk (ix i (mN m 0 n)) (fun j => go 169 850 ls (.inl (mI m 0 n j) :: st) m) := e_ald d169_849 (fun j hj => by simp only [xi, pI, pA, hj, Option.bind_some]; rfl) (fun hj => by simp only [xi, pI, pA, hj, Option.bind_none])
theorem d169_850 : decode (mt 169).2.1 850 = .ok (.invokevirtual 103, 3) := by decide +kernel
theorem s169_850 {ls : LV} {m : MM} {x0 : Int32} {x1 : Int32} {x2 : Int32} {w0 : AV} {n : Nat} : go 169 850 ls [.inl x2, .inl x1, .inl x0, .inr (.inr (8, some n)), w0] m = bd (go 156 0 [some (.inr (.inr (8, some n))), some (.inl x0), some (.inl x1), some (.inl x2)] [] m) (fun v m2 => go 169 853 ls (v.toList ++ [w0]) m2) := e_virt (y1 := 156) (na := 3) (as := [.inl x0, .inl x1, .inl x2]) (rest := [w0]) d169_850 (by decide +kernel) rfl (by decide +kernel) (show (ent [.inr (.inr (8, some n)), .inl x0, .inl x1, .inl x2]).length ≤ (mt 156).2.2.2.1 from Nat.le_of_ble_eq_true rfl) (cats_le (Nat.le_of_ble_eq_true rfl)) (by decide +kernel)
theorem d169_853 : decode (mt 169).2.1 853 = .ok (.if_icmp .eq 210, 3) := by decide +kernel
theorem s169_853 {ls : LV} {st : List AV} {m : MM} {a b : Int32} : go 169 853 ls (.inl b :: .inl a :: st) m = if a = b then go 169 1063 ls st m else go 169 856 ls st m := e_if (t := 1063) (b := hc .eq a b) d169_853 (Or.inl rfl) (by simp only [xi, pI, jm_some (t := 1063) (show ((853 : Nat) : Int) + 210 = ((1063 : Nat) : Int) by decide), Option.bind_some]) (by simp [hc])
theorem d169_856 : decode (mt 169).2.1 856 = .ok (.iconst 0, 1) := by decide +kernel
theorem s169_856 {ls : LV} {st : List AV} {m : MM} : go 169 856 ls st m = go 169 857 ls (.inl 0 :: st) m := e_1 d169_856 (Or.inl rfl) rfl
theorem d169_857 : decode (mt 169).2.1 857 = .ok (.ireturn, 1) := by decide +kernel
theorem s169_857b0 {ls : LV} {m : MM} : go 169 857 ls [.inl 0] m = some (some (.inl 0), m) := e_bool d169_857 (by decide +kernel) (by decide)
theorem s169_857b1 {ls : LV} {m : MM} : go 169 857 ls [.inl 1] m = some (some (.inl 1), m) := e_bool d169_857 (by decide +kernel) (by decide)
theorem d169_858 : decode (mt 169).2.1 858 = .ok (.aload_n 1, 1) := by decide +kernel
theorem s169_858 {a0 a2 a3 : Option AV} {st : List AV} {m : MM} {x : Nat × Option Nat} : go 169 858 [a0, some (.inr (.inr x)), a2, a3] st m = go 169 859 [a0, some (.inr (.inr x)), a2, a3] (.inr (.inr x) :: st) m := e_1 d169_858 (Or.inl rfl) rfl
theorem d169_859 : decode (mt 169).2.1 859 = .ok (.aload_n 0, 1) := by decide +kernel
theorem s169_859 {a1 a2 a3 : Option AV} {st : List AV} {m : MM} {x : Nat × Option Nat} : go 169 859 [some (.inr (.inr x)), a1, a2, a3] st m = go 169 860 [some (.inr (.inr x)), a1, a2, a3] (.inr (.inr x) :: st) m := e_1 d169_859 (Or.inl rfl) rfl
theorem d169_860 : decode (mt 169).2.1 860 = .ok (.iload_n 3, 1) := by decide +kernel
theorem s169_860 {a0 a1 a2 : Option AV} {st : List AV} {m : MM} {x : Int32} : go 169 860 [a0, a1, a2, some (.inl x)] st m = go 169 861 [a0, a1, a2, some (.inl x)] (.inl x :: st) m := e_1 d169_860 (Or.inl rfl) rfl
theorem d169_861 : decode (mt 169).2.1 861 = .ok (.iconst 1, 1) := by decide +kernel
theorem s169_861 {ls : LV} {st : List AV} {m : MM} : go 169 861 ls st m = go 169 862 ls (.inl 1 :: st) m := e_1 d169_861 (Or.inl rfl) rfl
theorem d169_862 : decode (mt 169).2.1 862 = .ok (.iadd, 1) := by decide +kernel
theorem s169_862 {ls : LV} {st : List AV} {m : MM} {a b : Int32} : go 169 862 ls (.inl b :: .inl a :: st) m = go 169 863 ls (.inl (a + b) :: st) m := e_1 d169_862 (Or.inl rfl) rfl
theorem d169_863 : decode (mt 169).2.1 863 = .ok (.iaload, 1) := by decide +kernel
theorem s169_863 {ls : LV} {st : List AV} {m : MM} {n : Nat} {i : Int32} : go 169 863 ls (.inl i :: .inr (.inr (0, some n)) :: st) m = ixk (ix i (mN m 0 n)) (fun j => go 169 864 ls (.inl (mI m 0 n j) :: st) m) := e_ald d169_863 (fun j hj => by simp only [xi, pI, pA, hj, Option.bind_some]; rfl) (fun hj => by simp only [xi, pI, pA, hj, Option.bind_none])
theorem d169_864 : decode (mt 169).2.1 864 = .ok (.aload_n 0, 1) := by decide +kernel
theorem s169_864 {a1 a2 a3 : Option AV} {st : List AV} {m : MM} {x : Nat × Option Nat} : go 169 864 [some (.inr (.inr x)), a1, a2, a3] st m = go 169 865 [some (.inr (.inr x)), a1, a2, a3] (.inr (.inr x) :: st) m := e_1 d169_864 (Or.inl rfl) rfl
theorem d169_865 : decode (mt 169).2.1 865 = .ok (.iload_n 3, 1) := by decide +kernel
theorem s169_865 {a0 a1 a2 : Option AV} {st : List AV} {m : MM} {x : Int32} : go 169 865 [a0, a1, a2, some (.inl x)] st m = go 169 866 [a0, a1, a2, some (.inl x)] (.inl x :: st) m := e_1 d169_865 (Or.inl rfl) rfl
theorem d169_866 : decode (mt 169).2.1 866 = .ok (.iconst 2, 1) := by decide +kernel
theorem s169_866 {ls : LV} {st : List AV} {m : MM} : go 169 866 ls st m = go 169 867 ls (.inl 2 :: st) m := e_1 d169_866 (Or.inl rfl) rfl
theorem d169_867 : decode (mt 169).2.1 867 = .ok (.iadd, 1) := by decide +kernel
theorem s169_867 {ls : LV} {st : List AV} {m : MM} {a b : Int32} : go 169 867 ls (.inl b :: .inl a :: st) m = go 169 868 ls (.inl (a + b) :: st) m := e_1 d169_867 (Or.inl rfl) rfl
theorem d169_868 : decode (mt 169).2.1 868 = .ok (.iaload, 1) := by decide +kernel
theorem s169_868 {ls : LV} {st : List AV} {m : MM} {n : Nat} {i : Int32} : go 169 868 ls (.inl i :: .inr (.inr (0, some n)) :: st) m = ixk (ix i (mN m 0 n)) (fun j => go 169 869 ls (.inl (mI m 0 n j) :: st) m) := e_ald d169_868 (fun j hj => by simp only [xi, pI, pA, hj, Option.bind_some]; rfl) (fun hj => by simp only [xi, pI, pA, hj, Option.bind_none])
theorem d169_869 : decode (mt 169).2.1 869 = .ok (.invokevirtual 104, 3) := by decide +kernel
theorem s169_869 {ls : LV} {m : MM} {x0 : Int32} {x1 : Int32} {n : Nat} : go 169 869 ls [.inl x1, .inl x0, .inr (.inr (7, some n))] m = bd (go 85 0 [some (.inr (.inr (7, some n))), some (.inl x0), some (.inl x1), none] [] m) (fun v m2 => go 169 872 ls (v.toList ++ []) m2) := e_virt (y1 := 85) (na := 2) (as := [.inl x0, .inl x1]) (rest := []) d169_869 (by decide +kernel) rfl (by decide +kernel) (show (ent [.inr (.inr (7, some n)), .inl x0, .inl x1]).length ≤ (mt 85).2.2.2.1 from Nat.le_of_ble_eq_true rfl) (cats_le (Nat.le_of_ble_eq_true rfl)) (by decide +kernel)
theorem d169_872 : decode (mt 169).2.1 872 = .ok (.aload_n 2, 1) := by decide +kernel
theorem s169_872 {a0 a1 a3 : Option AV} {st : List AV} {m : MM} {x : Nat × Option Nat} : go 169 872 [a0, a1, some (.inr (.inr x)), a3] st m = go 169 873 [a0, a1, some (.inr (.inr x)), a3] (.inr (.inr x) :: st) m := e_1 d169_872 (Or.inl rfl) rfl
theorem d169_873 : decode (mt 169).2.1 873 = .ok (.aload_n 0, 1) := by decide +kernel
theorem s169_873 {a1 a2 a3 : Option AV} {st : List AV} {m : MM} {x : Nat × Option Nat} : go 169 873 [some (.inr (.inr x)), a1, a2, a3] st m = go 169 874 [some (.inr (.inr x)), a1, a2, a3] (.inr (.inr x) :: st) m := e_1 d169_873 (Or.inl rfl) rfl
theorem d169_874 : decode (mt 169).2.1 874 = .ok (.iload_n 3, 1) := by decide +kernel
theorem s169_874 {a0 a1 a2 : Option AV} {st : List AV} {m : MM} {x : Int32} : go 169 874 [a0, a1, a2, some (.inl x)] st m = go 169 875 [a0, a1, a2, some (.inl x)] (.inl x :: st) m := e_1 d169_874 (Or.inl rfl) rfl
theorem d169_875 : decode (mt 169).2.1 875 = .ok (.iconst 1, 1) := by decide +kernel
theorem s169_875 {ls : LV} {st : List AV} {m : MM} : go 169 875 ls st m = go 169 876 ls (.inl 1 :: st) m := e_1 d169_875 (Or.inl rfl) rfl
theorem d169_876 : decode (mt 169).2.1 876 = .ok (.iadd, 1) := by decide +kernel
theorem s169_876 {ls : LV} {st : List AV} {m : MM} {a b : Int32} : go 169 876 ls (.inl b :: .inl a :: st) m = go 169 877 ls (.inl (a + b) :: st) m := e_1 d169_876 (Or.inl rfl) rfl
theorem d169_877 : decode (mt 169).2.1 877 = .ok (.iaload, 1) := by decide +kernel
theorem s169_877 {ls : LV} {st : List AV} {m : MM} {n : Nat} {i : Int32} : go 169 877 ls (.inl i :: .inr (.inr (0, some n)) :: st) m = ixk (ix i (mN m 0 n)) (fun j => go 169 878 ls (.inl (mI m 0 n j) :: st) m) := e_ald d169_877 (fun j hj => by simp only [xi, pI, pA, hj, Option.bind_some]; rfl) (fun hj => by simp only [xi, pI, pA, hj, Option.bind_none])
theorem d169_878 : decode (mt 169).2.1 878 = .ok (.aload_n 0, 1) := by decide +kernel
theorem s169_878 {a1 a2 a3 : Option AV} {st : List AV} {m : MM} {x : Nat × Option Nat} : go 169 878 [some (.inr (.inr x)), a1, a2, a3] st m = go 169 879 [some (.inr (.inr x)), a1, a2, a3] (.inr (.inr x) :: st) m := e_1 d169_878 (Or.inl rfl) rfl
theorem d169_879 : decode (mt 169).2.1 879 = .ok (.iload_n 3, 1) := by decide +kernel
theorem s169_879 {a0 a1 a2 : Option AV} {st : List AV} {m : MM} {x : Int32} : go 169 879 [a0, a1, a2, some (.inl x)] st m = go 169 880 [a0, a1, a2, some (.inl x)] (.inl x :: st) m := e_1 d169_879 (Or.inl rfl) rfl
theorem d169_880 : decode (mt 169).2.1 880 = .ok (.iconst 2, 1) := by decide +kernel
theorem s169_880 {ls : LV} {st : List AV} {m : MM} : go 169 880 ls st m = go 169 881 ls (.inl 2 :: st) m := e_1 d169_880 (Or.inl rfl) rfl
theorem d169_881 : decode (mt 169).2.1 881 = .ok (.iadd, 1) := by decide +kernel
theorem s169_881 {ls : LV} {st : List AV} {m : MM} {a b : Int32} : go 169 881 ls (.inl b :: .inl a :: st) m = go 169 882 ls (.inl (a + b) :: st) m := e_1 d169_881 (Or.inl rfl) rfl
theorem d169_882 : decode (mt 169).2.1 882 = .ok (.iaload, 1) := by decide +kernel
theorem s169_882 {ls : LV} {st : List AV} {m : MM} {n : Nat} {i : Int32} : go 169 882 ls (.inl i :: .inr (.inr (0, some n)) :: st) m = ixk (ix i (mN m 0 n)) (fun j => go 169 883 ls (.inl (mI m 0 n j) :: st) m) := e_ald d169_882 (fun j hj => by simp only [xi, pI, pA, hj, Option.bind_some]; rfl) (fun hj => by simp only [xi, pI, pA, hj, Option.bind_none])
theorem d169_883 : decode (mt 169).2.1 883 = .ok (.invokevirtual 107, 3) := by decide +kernel
theorem s169_883 {ls : LV} {m : MM} {x0 : Int32} {x1 : Int32} {w0 : AV} {n : Nat} : go 169 883 ls [.inl x1, .inl x0, .inr (.inr (8, some n)), w0] m = bd (go 157 0 [some (.inr (.inr (8, some n))), some (.inl x0), some (.inl x1)] [] m) (fun v m2 => go 169 886 ls (v.toList ++ [w0]) m2) := e_virt (y1 := 157) (na := 2) (as := [.inl x0, .inl x1]) (rest := [w0]) d169_883 (by decide +kernel) rfl (by decide +kernel) (show (ent [.inr (.inr (8, some n)), .inl x0, .inl x1]).length ≤ (mt 157).2.2.2.1 from Nat.le_of_ble_eq_true rfl) (cats_le (Nat.le_of_ble_eq_true rfl)) (by decide +kernel)
theorem d169_886 : decode (mt 169).2.1 886 = .ok (.if_icmp .eq 177, 3) := by decide +kernel
theorem s169_886 {ls : LV} {st : List AV} {m : MM} {a b : Int32} : go 169 886 ls (.inl b :: .inl a :: st) m = if a = b then go 169 1063 ls st m else go 169 889 ls st m := e_if (t := 1063) (b := hc .eq a b) d169_886 (Or.inl rfl) (by simp only [xi, pI, jm_some (t := 1063) (show ((886 : Nat) : Int) + 177 = ((1063 : Nat) : Int) by decide), Option.bind_some]) (by simp [hc])
theorem d169_889 : decode (mt 169).2.1 889 = .ok (.iconst 0, 1) := by decide +kernel
theorem s169_889 {ls : LV} {st : List AV} {m : MM} : go 169 889 ls st m = go 169 890 ls (.inl 0 :: st) m := e_1 d169_889 (Or.inl rfl) rfl
theorem d169_890 : decode (mt 169).2.1 890 = .ok (.ireturn, 1) := by decide +kernel
theorem s169_890b0 {ls : LV} {m : MM} : go 169 890 ls [.inl 0] m = some (some (.inl 0), m) := e_bool d169_890 (by decide +kernel) (by decide)
theorem s169_890b1 {ls : LV} {m : MM} : go 169 890 ls [.inl 1] m = some (some (.inl 1), m) := e_bool d169_890 (by decide +kernel) (by decide)
theorem d169_891 : decode (mt 169).2.1 891 = .ok (.aload_n 1, 1) := by decide +kernel
theorem s169_891 {a0 a2 a3 : Option AV} {st : List AV} {m : MM} {x : Nat × Option Nat} : go 169 891 [a0, some (.inr (.inr x)), a2, a3] st m = go 169 892 [a0, some (.inr (.inr x)), a2, a3] (.inr (.inr x) :: st) m := e_1 d169_891 (Or.inl rfl) rfl
theorem d169_892 : decode (mt 169).2.1 892 = .ok (.aload_n 0, 1) := by decide +kernel
theorem s169_892 {a1 a2 a3 : Option AV} {st : List AV} {m : MM} {x : Nat × Option Nat} : go 169 892 [some (.inr (.inr x)), a1, a2, a3] st m = go 169 893 [some (.inr (.inr x)), a1, a2, a3] (.inr (.inr x) :: st) m := e_1 d169_892 (Or.inl rfl) rfl
theorem d169_893 : decode (mt 169).2.1 893 = .ok (.iload_n 3, 1) := by decide +kernel
theorem s169_893 {a0 a1 a2 : Option AV} {st : List AV} {m : MM} {x : Int32} : go 169 893 [a0, a1, a2, some (.inl x)] st m = go 169 894 [a0, a1, a2, some (.inl x)] (.inl x :: st) m := e_1 d169_893 (Or.inl rfl) rfl
theorem d169_894 : decode (mt 169).2.1 894 = .ok (.iconst 1, 1) := by decide +kernel
theorem s169_894 {ls : LV} {st : List AV} {m : MM} : go 169 894 ls st m = go 169 895 ls (.inl 1 :: st) m := e_1 d169_894 (Or.inl rfl) rfl
theorem d169_895 : decode (mt 169).2.1 895 = .ok (.iadd, 1) := by decide +kernel
theorem s169_895 {ls : LV} {st : List AV} {m : MM} {a b : Int32} : go 169 895 ls (.inl b :: .inl a :: st) m = go 169 896 ls (.inl (a + b) :: st) m := e_1 d169_895 (Or.inl rfl) rfl
theorem d169_896 : decode (mt 169).2.1 896 = .ok (.iaload, 1) := by decide +kernel
theorem s169_896 {ls : LV} {st : List AV} {m : MM} {n : Nat} {i : Int32} : go 169 896 ls (.inl i :: .inr (.inr (0, some n)) :: st) m = ixk (ix i (mN m 0 n)) (fun j => go 169 897 ls (.inl (mI m 0 n j) :: st) m) := e_ald d169_896 (fun j hj => by simp only [xi, pI, pA, hj, Option.bind_some]; rfl) (fun hj => by simp only [xi, pI, pA, hj, Option.bind_none])
theorem d169_897 : decode (mt 169).2.1 897 = .ok (.aload_n 0, 1) := by decide +kernel
theorem s169_897 {a1 a2 a3 : Option AV} {st : List AV} {m : MM} {x : Nat × Option Nat} : go 169 897 [some (.inr (.inr x)), a1, a2, a3] st m = go 169 898 [some (.inr (.inr x)), a1, a2, a3] (.inr (.inr x) :: st) m := e_1 d169_897 (Or.inl rfl) rfl
theorem d169_898 : decode (mt 169).2.1 898 = .ok (.iload_n 3, 1) := by decide +kernel
theorem s169_898 {a0 a1 a2 : Option AV} {st : List AV} {m : MM} {x : Int32} : go 169 898 [a0, a1, a2, some (.inl x)] st m = go 169 899 [a0, a1, a2, some (.inl x)] (.inl x :: st) m := e_1 d169_898 (Or.inl rfl) rfl
theorem d169_899 : decode (mt 169).2.1 899 = .ok (.iconst 2, 1) := by decide +kernel
theorem s169_899 {ls : LV} {st : List AV} {m : MM} : go 169 899 ls st m = go 169 900 ls (.inl 2 :: st) m := e_1 d169_899 (Or.inl rfl) rfl
theorem d169_900 : decode (mt 169).2.1 900 = .ok (.iadd, 1) := by decide +kernel
theorem s169_900 {ls : LV} {st : List AV} {m : MM} {a b : Int32} : go 169 900 ls (.inl b :: .inl a :: st) m = go 169 901 ls (.inl (a + b) :: st) m := e_1 d169_900 (Or.inl rfl) rfl
theorem d169_901 : decode (mt 169).2.1 901 = .ok (.iaload, 1) := by decide +kernel
theorem s169_901 {ls : LV} {st : List AV} {m : MM} {n : Nat} {i : Int32} : go 169 901 ls (.inl i :: .inr (.inr (0, some n)) :: st) m = ixk (ix i (mN m 0 n)) (fun j => go 169 902 ls (.inl (mI m 0 n j) :: st) m) := e_ald d169_901 (fun j hj => by simp only [xi, pI, pA, hj, Option.bind_some]; rfl) (fun hj => by simp only [xi, pI, pA, hj, Option.bind_none])
theorem d169_902 : decode (mt 169).2.1 902 = .ok (.invokevirtual 108, 3) := by decide +kernel
theorem s169_902 {ls : LV} {m : MM} {x0 : Int32} {x1 : Int32} {n : Nat} : go 169 902 ls [.inl x1, .inl x0, .inr (.inr (7, some n))] m = bd (go 86 0 [some (.inr (.inr (7, some n))), some (.inl x0), some (.inl x1), none] [] m) (fun v m2 => go 169 905 ls (v.toList ++ []) m2) := e_virt (y1 := 86) (na := 2) (as := [.inl x0, .inl x1]) (rest := []) d169_902 (by decide +kernel) rfl (by decide +kernel) (show (ent [.inr (.inr (7, some n)), .inl x0, .inl x1]).length ≤ (mt 86).2.2.2.1 from Nat.le_of_ble_eq_true rfl) (cats_le (Nat.le_of_ble_eq_true rfl)) (by decide +kernel)
theorem d169_905 : decode (mt 169).2.1 905 = .ok (.aload_n 2, 1) := by decide +kernel
theorem s169_905 {a0 a1 a3 : Option AV} {st : List AV} {m : MM} {x : Nat × Option Nat} : go 169 905 [a0, a1, some (.inr (.inr x)), a3] st m = go 169 906 [a0, a1, some (.inr (.inr x)), a3] (.inr (.inr x) :: st) m := e_1 d169_905 (Or.inl rfl) rfl
theorem d169_906 : decode (mt 169).2.1 906 = .ok (.aload_n 0, 1) := by decide +kernel
theorem s169_906 {a1 a2 a3 : Option AV} {st : List AV} {m : MM} {x : Nat × Option Nat} : go 169 906 [some (.inr (.inr x)), a1, a2, a3] st m = go 169 907 [some (.inr (.inr x)), a1, a2, a3] (.inr (.inr x) :: st) m := e_1 d169_906 (Or.inl rfl) rfl
theorem d169_907 : decode (mt 169).2.1 907 = .ok (.iload_n 3, 1) := by decide +kernel
theorem s169_907 {a0 a1 a2 : Option AV} {st : List AV} {m : MM} {x : Int32} : go 169 907 [a0, a1, a2, some (.inl x)] st m = go 169 908 [a0, a1, a2, some (.inl x)] (.inl x :: st) m := e_1 d169_907 (Or.inl rfl) rfl
theorem d169_908 : decode (mt 169).2.1 908 = .ok (.iconst 1, 1) := by decide +kernel
theorem s169_908 {ls : LV} {st : List AV} {m : MM} : go 169 908 ls st m = go 169 909 ls (.inl 1 :: st) m := e_1 d169_908 (Or.inl rfl) rfl
theorem d169_909 : decode (mt 169).2.1 909 = .ok (.iadd, 1) := by decide +kernel
theorem s169_909 {ls : LV} {st : List AV} {m : MM} {a b : Int32} : go 169 909 ls (.inl b :: .inl a :: st) m = go 169 910 ls (.inl (a + b) :: st) m := e_1 d169_909 (Or.inl rfl) rfl
theorem d169_910 : decode (mt 169).2.1 910 = .ok (.iaload, 1) := by decide +kernel
theorem s169_910 {ls : LV} {st : List AV} {m : MM} {n : Nat} {i : Int32} : go 169 910 ls (.inl i :: .inr (.inr (0, some n)) :: st) m = ixk (ix i (mN m 0 n)) (fun j => go 169 911 ls (.inl (mI m 0 n j) :: st) m) := e_ald d169_910 (fun j hj => by simp only [xi, pI, pA, hj, Option.bind_some]; rfl) (fun hj => by simp only [xi, pI, pA, hj, Option.bind_none])
theorem d169_911 : decode (mt 169).2.1 911 = .ok (.aload_n 0, 1) := by decide +kernel
theorem s169_911 {a1 a2 a3 : Option AV} {st : List AV} {m : MM} {x : Nat × Option Nat} : go 169 911 [some (.inr (.inr x)), a1, a2, a3] st m = go 169 912 [some (.inr (.inr x)), a1, a2, a3] (.inr (.inr x) :: st) m := e_1 d169_911 (Or.inl rfl) rfl
theorem d169_912 : decode (mt 169).2.1 912 = .ok (.iload_n 3, 1) := by decide +kernel
theorem s169_912 {a0 a1 a2 : Option AV} {st : List AV} {m : MM} {x : Int32} : go 169 912 [a0, a1, a2, some (.inl x)] st m = go 169 913 [a0, a1, a2, some (.inl x)] (.inl x :: st) m := e_1 d169_912 (Or.inl rfl) rfl
theorem d169_913 : decode (mt 169).2.1 913 = .ok (.iconst 2, 1) := by decide +kernel
theorem s169_913 {ls : LV} {st : List AV} {m : MM} : go 169 913 ls st m = go 169 914 ls (.inl 2 :: st) m := e_1 d169_913 (Or.inl rfl) rfl
theorem d169_914 : decode (mt 169).2.1 914 = .ok (.iadd, 1) := by decide +kernel
theorem s169_914 {ls : LV} {st : List AV} {m : MM} {a b : Int32} : go 169 914 ls (.inl b :: .inl a :: st) m = go 169 915 ls (.inl (a + b) :: st) m := e_1 d169_914 (Or.inl rfl) rfl
theorem d169_915 : decode (mt 169).2.1 915 = .ok (.iaload, 1) := by decide +kernel
theorem s169_915 {ls : LV} {st : List AV} {m : MM} {n : Nat} {i : Int32} : go 169 915 ls (.inl i :: .inr (.inr (0, some n)) :: st) m = ixk (ix i (mN m 0 n)) (fun j => go 169 916 ls (.inl (mI m 0 n j) :: st) m) := e_ald d169_915 (fun j hj => by simp only [xi, pI, pA, hj, Option.bind_some]; rfl) (fun hj => by simp only [xi, pI, pA, hj, Option.bind_none])
theorem d169_916 : decode (mt 169).2.1 916 = .ok (.invokevirtual 112, 3) := by decide +kernel
theorem s169_916 {ls : LV} {m : MM} {x0 : Int32} {x1 : Int32} {w0 : AV} {n : Nat} : go 169 916 ls [.inl x1, .inl x0, .inr (.inr (8, some n)), w0] m = bd (go 158 0 [some (.inr (.inr (8, some n))), some (.inl x0), some (.inl x1)] [] m) (fun v m2 => go 169 919 ls (v.toList ++ [w0]) m2) := e_virt (y1 := 158) (na := 2) (as := [.inl x0, .inl x1]) (rest := [w0]) d169_916 (by decide +kernel) rfl (by decide +kernel) (show (ent [.inr (.inr (8, some n)), .inl x0, .inl x1]).length ≤ (mt 158).2.2.2.1 from Nat.le_of_ble_eq_true rfl) (cats_le (Nat.le_of_ble_eq_true rfl)) (by decide +kernel)
theorem d169_919 : decode (mt 169).2.1 919 = .ok (.lcmp, 1) := by decide +kernel
theorem s169_919 {ls : LV} {st : List AV} {m : MM} {a b : Int64} : go 169 919 ls (.inr (.inl b) :: .inr (.inl a) :: st) m = go 169 920 ls (.inl (lg_cmp a b) :: st) m := e_1 d169_919 (Or.inl rfl) rfl
theorem d169_920 : decode (mt 169).2.1 920 = .ok (.ifCond .eq 143, 3) := by decide +kernel
theorem s169_920 {ls : LV} {st : List AV} {m : MM} {a : Int32} : go 169 920 ls (.inl a :: st) m = if a = 0 then go 169 1063 ls st m else go 169 923 ls st m := e_if (t := 1063) (b := hc .eq a 0) d169_920 (Or.inl rfl) (by simp only [xi, pI, jm_some (t := 1063) (show ((920 : Nat) : Int) + 143 = ((1063 : Nat) : Int) by decide), Option.bind_some]) (by simp [hc])
theorem d169_923 : decode (mt 169).2.1 923 = .ok (.iconst 0, 1) := by decide +kernel
theorem s169_923 {ls : LV} {st : List AV} {m : MM} : go 169 923 ls st m = go 169 924 ls (.inl 0 :: st) m := e_1 d169_923 (Or.inl rfl) rfl
theorem d169_924 : decode (mt 169).2.1 924 = .ok (.ireturn, 1) := by decide +kernel
theorem s169_924b0 {ls : LV} {m : MM} : go 169 924 ls [.inl 0] m = some (some (.inl 0), m) := e_bool d169_924 (by decide +kernel) (by decide)
theorem s169_924b1 {ls : LV} {m : MM} : go 169 924 ls [.inl 1] m = some (some (.inl 1), m) := e_bool d169_924 (by decide +kernel) (by decide)
theorem d169_925 : decode (mt 169).2.1 925 = .ok (.aload_n 1, 1) := by decide +kernel
theorem s169_925 {a0 a2 a3 : Option AV} {st : List AV} {m : MM} {x : Nat × Option Nat} : go 169 925 [a0, some (.inr (.inr x)), a2, a3] st m = go 169 926 [a0, some (.inr (.inr x)), a2, a3] (.inr (.inr x) :: st) m := e_1 d169_925 (Or.inl rfl) rfl
theorem d169_926 : decode (mt 169).2.1 926 = .ok (.aload_n 0, 1) := by decide +kernel
theorem s169_926 {a1 a2 a3 : Option AV} {st : List AV} {m : MM} {x : Nat × Option Nat} : go 169 926 [some (.inr (.inr x)), a1, a2, a3] st m = go 169 927 [some (.inr (.inr x)), a1, a2, a3] (.inr (.inr x) :: st) m := e_1 d169_926 (Or.inl rfl) rfl
theorem d169_927 : decode (mt 169).2.1 927 = .ok (.iload_n 3, 1) := by decide +kernel
theorem s169_927 {a0 a1 a2 : Option AV} {st : List AV} {m : MM} {x : Int32} : go 169 927 [a0, a1, a2, some (.inl x)] st m = go 169 928 [a0, a1, a2, some (.inl x)] (.inl x :: st) m := e_1 d169_927 (Or.inl rfl) rfl
theorem d169_928 : decode (mt 169).2.1 928 = .ok (.iconst 1, 1) := by decide +kernel
theorem s169_928 {ls : LV} {st : List AV} {m : MM} : go 169 928 ls st m = go 169 929 ls (.inl 1 :: st) m := e_1 d169_928 (Or.inl rfl) rfl
theorem d169_929 : decode (mt 169).2.1 929 = .ok (.iadd, 1) := by decide +kernel
theorem s169_929 {ls : LV} {st : List AV} {m : MM} {a b : Int32} : go 169 929 ls (.inl b :: .inl a :: st) m = go 169 930 ls (.inl (a + b) :: st) m := e_1 d169_929 (Or.inl rfl) rfl
theorem d169_930 : decode (mt 169).2.1 930 = .ok (.iaload, 1) := by decide +kernel
theorem s169_930 {ls : LV} {st : List AV} {m : MM} {n : Nat} {i : Int32} : go 169 930 ls (.inl i :: .inr (.inr (0, some n)) :: st) m = ixk (ix i (mN m 0 n)) (fun j => go 169 931 ls (.inl (mI m 0 n j) :: st) m) := e_ald d169_930 (fun j hj => by simp only [xi, pI, pA, hj, Option.bind_some]; rfl) (fun hj => by simp only [xi, pI, pA, hj, Option.bind_none])
theorem d169_931 : decode (mt 169).2.1 931 = .ok (.invokevirtual 113, 3) := by decide +kernel
theorem s169_931 {ls : LV} {m : MM} {x0 : Int32} {n : Nat} : go 169 931 ls [.inl x0, .inr (.inr (7, some n))] m = bd (go 87 0 [some (.inr (.inr (7, some n))), some (.inl x0), none, none, none, none] [] m) (fun v m2 => go 169 934 ls (v.toList ++ []) m2) := e_virt (y1 := 87) (na := 1) (as := [.inl x0]) (rest := []) d169_931 (by decide +kernel) rfl (by decide +kernel) (show (ent [.inr (.inr (7, some n)), .inl x0]).length ≤ (mt 87).2.2.2.1 from Nat.le_of_ble_eq_true rfl) (cats_le (Nat.le_of_ble_eq_true rfl)) (by decide +kernel)
theorem d169_934 : decode (mt 169).2.1 934 = .ok (.aload_n 2, 1) := by decide +kernel
theorem s169_934 {a0 a1 a3 : Option AV} {st : List AV} {m : MM} {x : Nat × Option Nat} : go 169 934 [a0, a1, some (.inr (.inr x)), a3] st m = go 169 935 [a0, a1, some (.inr (.inr x)), a3] (.inr (.inr x) :: st) m := e_1 d169_934 (Or.inl rfl) rfl
theorem d169_935 : decode (mt 169).2.1 935 = .ok (.aload_n 0, 1) := by decide +kernel
theorem s169_935 {a1 a2 a3 : Option AV} {st : List AV} {m : MM} {x : Nat × Option Nat} : go 169 935 [some (.inr (.inr x)), a1, a2, a3] st m = go 169 936 [some (.inr (.inr x)), a1, a2, a3] (.inr (.inr x) :: st) m := e_1 d169_935 (Or.inl rfl) rfl
theorem d169_936 : decode (mt 169).2.1 936 = .ok (.iload_n 3, 1) := by decide +kernel
theorem s169_936 {a0 a1 a2 : Option AV} {st : List AV} {m : MM} {x : Int32} : go 169 936 [a0, a1, a2, some (.inl x)] st m = go 169 937 [a0, a1, a2, some (.inl x)] (.inl x :: st) m := e_1 d169_936 (Or.inl rfl) rfl
theorem d169_937 : decode (mt 169).2.1 937 = .ok (.iconst 1, 1) := by decide +kernel
theorem s169_937 {ls : LV} {st : List AV} {m : MM} : go 169 937 ls st m = go 169 938 ls (.inl 1 :: st) m := e_1 d169_937 (Or.inl rfl) rfl
theorem d169_938 : decode (mt 169).2.1 938 = .ok (.iadd, 1) := by decide +kernel
theorem s169_938 {ls : LV} {st : List AV} {m : MM} {a b : Int32} : go 169 938 ls (.inl b :: .inl a :: st) m = go 169 939 ls (.inl (a + b) :: st) m := e_1 d169_938 (Or.inl rfl) rfl
theorem d169_939 : decode (mt 169).2.1 939 = .ok (.iaload, 1) := by decide +kernel
theorem s169_939 {ls : LV} {st : List AV} {m : MM} {n : Nat} {i : Int32} : go 169 939 ls (.inl i :: .inr (.inr (0, some n)) :: st) m = ixk (ix i (mN m 0 n)) (fun j => go 169 940 ls (.inl (mI m 0 n j) :: st) m) := e_ald d169_939 (fun j hj => by simp only [xi, pI, pA, hj, Option.bind_some]; rfl) (fun hj => by simp only [xi, pI, pA, hj, Option.bind_none])
theorem d169_940 : decode (mt 169).2.1 940 = .ok (.invokevirtual 116, 3) := by decide +kernel
theorem s169_940 {ls : LV} {m : MM} {x0 : Int32} {w0 : AV} {n : Nat} : go 169 940 ls [.inl x0, .inr (.inr (8, some n)), w0] m = bd (go 159 0 [some (.inr (.inr (8, some n))), some (.inl x0), none, none, none] [] m) (fun v m2 => go 169 943 ls (v.toList ++ [w0]) m2) := e_virt (y1 := 159) (na := 1) (as := [.inl x0]) (rest := [w0]) d169_940 (by decide +kernel) rfl (by decide +kernel) (show (ent [.inr (.inr (8, some n)), .inl x0]).length ≤ (mt 159).2.2.2.1 from Nat.le_of_ble_eq_true rfl) (cats_le (Nat.le_of_ble_eq_true rfl)) (by decide +kernel)
theorem d169_943 : decode (mt 169).2.1 943 = .ok (.if_icmp .eq 120, 3) := by decide +kernel
theorem s169_943 {ls : LV} {st : List AV} {m : MM} {a b : Int32} : go 169 943 ls (.inl b :: .inl a :: st) m = if a = b then go 169 1063 ls st m else go 169 946 ls st m := e_if (t := 1063) (b := hc .eq a b) d169_943 (Or.inl rfl) (by simp only [xi, pI, jm_some (t := 1063) (show ((943 : Nat) : Int) + 120 = ((1063 : Nat) : Int) by decide), Option.bind_some]) (by simp [hc])
theorem d169_946 : decode (mt 169).2.1 946 = .ok (.iconst 0, 1) := by decide +kernel
theorem s169_946 {ls : LV} {st : List AV} {m : MM} : go 169 946 ls st m = go 169 947 ls (.inl 0 :: st) m := e_1 d169_946 (Or.inl rfl) rfl
theorem d169_947 : decode (mt 169).2.1 947 = .ok (.ireturn, 1) := by decide +kernel
theorem s169_947b0 {ls : LV} {m : MM} : go 169 947 ls [.inl 0] m = some (some (.inl 0), m) := e_bool d169_947 (by decide +kernel) (by decide)
theorem s169_947b1 {ls : LV} {m : MM} : go 169 947 ls [.inl 1] m = some (some (.inl 1), m) := e_bool d169_947 (by decide +kernel) (by decide)
theorem d169_948 : decode (mt 169).2.1 948 = .ok (.aload_n 1, 1) := by decide +kernel
theorem s169_948 {a0 a2 a3 : Option AV} {st : List AV} {m : MM} {x : Nat × Option Nat} : go 169 948 [a0, some (.inr (.inr x)), a2, a3] st m = go 169 949 [a0, some (.inr (.inr x)), a2, a3] (.inr (.inr x) :: st) m := e_1 d169_948 (Or.inl rfl) rfl
theorem d169_949 : decode (mt 169).2.1 949 = .ok (.aload_n 0, 1) := by decide +kernel
theorem s169_949 {a1 a2 a3 : Option AV} {st : List AV} {m : MM} {x : Nat × Option Nat} : go 169 949 [some (.inr (.inr x)), a1, a2, a3] st m = go 169 950 [some (.inr (.inr x)), a1, a2, a3] (.inr (.inr x) :: st) m := e_1 d169_949 (Or.inl rfl) rfl
theorem d169_950 : decode (mt 169).2.1 950 = .ok (.iload_n 3, 1) := by decide +kernel
theorem s169_950 {a0 a1 a2 : Option AV} {st : List AV} {m : MM} {x : Int32} : go 169 950 [a0, a1, a2, some (.inl x)] st m = go 169 951 [a0, a1, a2, some (.inl x)] (.inl x :: st) m := e_1 d169_950 (Or.inl rfl) rfl
theorem d169_951 : decode (mt 169).2.1 951 = .ok (.iconst 1, 1) := by decide +kernel
theorem s169_951 {ls : LV} {st : List AV} {m : MM} : go 169 951 ls st m = go 169 952 ls (.inl 1 :: st) m := e_1 d169_951 (Or.inl rfl) rfl
theorem d169_952 : decode (mt 169).2.1 952 = .ok (.iadd, 1) := by decide +kernel
theorem s169_952 {ls : LV} {st : List AV} {m : MM} {a b : Int32} : go 169 952 ls (.inl b :: .inl a :: st) m = go 169 953 ls (.inl (a + b) :: st) m := e_1 d169_952 (Or.inl rfl) rfl
theorem d169_953 : decode (mt 169).2.1 953 = .ok (.iaload, 1) := by decide +kernel
theorem s169_953 {ls : LV} {st : List AV} {m : MM} {n : Nat} {i : Int32} : go 169 953 ls (.inl i :: .inr (.inr (0, some n)) :: st) m = ixk (ix i (mN m 0 n)) (fun j => go 169 954 ls (.inl (mI m 0 n j) :: st) m) := e_ald d169_953 (fun j hj => by simp only [xi, pI, pA, hj, Option.bind_some]; rfl) (fun hj => by simp only [xi, pI, pA, hj, Option.bind_none])
theorem d169_954 : decode (mt 169).2.1 954 = .ok (.aload_n 0, 1) := by decide +kernel
theorem s169_954 {a1 a2 a3 : Option AV} {st : List AV} {m : MM} {x : Nat × Option Nat} : go 169 954 [some (.inr (.inr x)), a1, a2, a3] st m = go 169 955 [some (.inr (.inr x)), a1, a2, a3] (.inr (.inr x) :: st) m := e_1 d169_954 (Or.inl rfl) rfl
theorem d169_955 : decode (mt 169).2.1 955 = .ok (.iload_n 3, 1) := by decide +kernel
theorem s169_955 {a0 a1 a2 : Option AV} {st : List AV} {m : MM} {x : Int32} : go 169 955 [a0, a1, a2, some (.inl x)] st m = go 169 956 [a0, a1, a2, some (.inl x)] (.inl x :: st) m := e_1 d169_955 (Or.inl rfl) rfl
theorem d169_956 : decode (mt 169).2.1 956 = .ok (.iconst 2, 1) := by decide +kernel
theorem s169_956 {ls : LV} {st : List AV} {m : MM} : go 169 956 ls st m = go 169 957 ls (.inl 2 :: st) m := e_1 d169_956 (Or.inl rfl) rfl
theorem d169_957 : decode (mt 169).2.1 957 = .ok (.iadd, 1) := by decide +kernel
theorem s169_957 {ls : LV} {st : List AV} {m : MM} {a b : Int32} : go 169 957 ls (.inl b :: .inl a :: st) m = go 169 958 ls (.inl (a + b) :: st) m := e_1 d169_957 (Or.inl rfl) rfl
theorem d169_958 : decode (mt 169).2.1 958 = .ok (.iaload, 1) := by decide +kernel
theorem s169_958 {ls : LV} {st : List AV} {m : MM} {n : Nat} {i : Int32} : go 169 958 ls (.inl i :: .inr (.inr (0, some n)) :: st) m = ixk (ix i (mN m 0 n)) (fun j => go 169 959 ls (.inl (mI m 0 n j) :: st) m) := e_ald d169_958 (fun j hj => by simp only [xi, pI, pA, hj, Option.bind_some]; rfl) (fun hj => by simp only [xi, pI, pA, hj, Option.bind_none])
theorem d169_959 : decode (mt 169).2.1 959 = .ok (.aload_n 0, 1) := by decide +kernel
theorem s169_959 {a1 a2 a3 : Option AV} {st : List AV} {m : MM} {x : Nat × Option Nat} : go 169 959 [some (.inr (.inr x)), a1, a2, a3] st m = go 169 960 [some (.inr (.inr x)), a1, a2, a3] (.inr (.inr x) :: st) m := e_1 d169_959 (Or.inl rfl) rfl
theorem d169_960 : decode (mt 169).2.1 960 = .ok (.iload_n 3, 1) := by decide +kernel
theorem s169_960 {a0 a1 a2 : Option AV} {st : List AV} {m : MM} {x : Int32} : go 169 960 [a0, a1, a2, some (.inl x)] st m = go 169 961 [a0, a1, a2, some (.inl x)] (.inl x :: st) m := e_1 d169_960 (Or.inl rfl) rfl
theorem d169_961 : decode (mt 169).2.1 961 = .ok (.iconst 3, 1) := by decide +kernel
theorem s169_961 {ls : LV} {st : List AV} {m : MM} : go 169 961 ls st m = go 169 962 ls (.inl 3 :: st) m := e_1 d169_961 (Or.inl rfl) rfl
theorem d169_962 : decode (mt 169).2.1 962 = .ok (.iadd, 1) := by decide +kernel
theorem s169_962 {ls : LV} {st : List AV} {m : MM} {a b : Int32} : go 169 962 ls (.inl b :: .inl a :: st) m = go 169 963 ls (.inl (a + b) :: st) m := e_1 d169_962 (Or.inl rfl) rfl
theorem d169_963 : decode (mt 169).2.1 963 = .ok (.iaload, 1) := by decide +kernel
theorem s169_963 {ls : LV} {st : List AV} {m : MM} {n : Nat} {i : Int32} : go 169 963 ls (.inl i :: .inr (.inr (0, some n)) :: st) m = ixk (ix i (mN m 0 n)) (fun j => go 169 964 ls (.inl (mI m 0 n j) :: st) m) := e_ald d169_963 (fun j hj => by simp only [xi, pI, pA, hj, Option.bind_some]; rfl) (fun hj => by simp only [xi, pI, pA, hj, Option.bind_none])
theorem d169_964 : decode (mt 169).2.1 964 = .ok (.invokevirtual 117, 3) := by decide +kernel
theorem s169_964 {ls : LV} {m : MM} {x0 : Int32} {x1 : Int32} {x2 : Int32} {n : Nat} : go 169 964 ls [.inl x2, .inl x1, .inl x0, .inr (.inr (7, some n))] m = bd (go 88 0 [some (.inr (.inr (7, some n))), some (.inl x0), some (.inl x1), some (.inl x2), none, none] [] m) (fun v m2 => go 169 967 ls (v.toList ++ []) m2) := e_virt (y1 := 88) (na := 3) (as := [.inl x0, .inl x1, .inl x2]) (rest := []) d169_964 (by decide +kernel) rfl (by decide +kernel) (show (ent [.inr (.inr (7, some n)), .inl x0, .inl x1, .inl x2]).length ≤ (mt 88).2.2.2.1 from Nat.le_of_ble_eq_true rfl) (cats_le (Nat.le_of_ble_eq_true rfl)) (by decide +kernel)
theorem d169_967 : decode (mt 169).2.1 967 = .ok (.aload_n 2, 1) := by decide +kernel
theorem s169_967 {a0 a1 a3 : Option AV} {st : List AV} {m : MM} {x : Nat × Option Nat} : go 169 967 [a0, a1, some (.inr (.inr x)), a3] st m = go 169 968 [a0, a1, some (.inr (.inr x)), a3] (.inr (.inr x) :: st) m := e_1 d169_967 (Or.inl rfl) rfl
theorem d169_968 : decode (mt 169).2.1 968 = .ok (.aload_n 0, 1) := by decide +kernel
theorem s169_968 {a1 a2 a3 : Option AV} {st : List AV} {m : MM} {x : Nat × Option Nat} : go 169 968 [some (.inr (.inr x)), a1, a2, a3] st m = go 169 969 [some (.inr (.inr x)), a1, a2, a3] (.inr (.inr x) :: st) m := e_1 d169_968 (Or.inl rfl) rfl
theorem d169_969 : decode (mt 169).2.1 969 = .ok (.iload_n 3, 1) := by decide +kernel
theorem s169_969 {a0 a1 a2 : Option AV} {st : List AV} {m : MM} {x : Int32} : go 169 969 [a0, a1, a2, some (.inl x)] st m = go 169 970 [a0, a1, a2, some (.inl x)] (.inl x :: st) m := e_1 d169_969 (Or.inl rfl) rfl
theorem d169_970 : decode (mt 169).2.1 970 = .ok (.iconst 1, 1) := by decide +kernel
theorem s169_970 {ls : LV} {st : List AV} {m : MM} : go 169 970 ls st m = go 169 971 ls (.inl 1 :: st) m := e_1 d169_970 (Or.inl rfl) rfl
theorem d169_971 : decode (mt 169).2.1 971 = .ok (.iadd, 1) := by decide +kernel
theorem s169_971 {ls : LV} {st : List AV} {m : MM} {a b : Int32} : go 169 971 ls (.inl b :: .inl a :: st) m = go 169 972 ls (.inl (a + b) :: st) m := e_1 d169_971 (Or.inl rfl) rfl
theorem d169_972 : decode (mt 169).2.1 972 = .ok (.iaload, 1) := by decide +kernel
theorem s169_972 {ls : LV} {st : List AV} {m : MM} {n : Nat} {i : Int32} : go 169 972 ls (.inl i :: .inr (.inr (0, some n)) :: st) m = ixk (ix i (mN m 0 n)) (fun j => go 169 973 ls (.inl (mI m 0 n j) :: st) m) := e_ald d169_972 (fun j hj => by simp only [xi, pI, pA, hj, Option.bind_some]; rfl) (fun hj => by simp only [xi, pI, pA, hj, Option.bind_none])
theorem d169_973 : decode (mt 169).2.1 973 = .ok (.aload_n 0, 1) := by decide +kernel
theorem s169_973 {a1 a2 a3 : Option AV} {st : List AV} {m : MM} {x : Nat × Option Nat} : go 169 973 [some (.inr (.inr x)), a1, a2, a3] st m = go 169 974 [some (.inr (.inr x)), a1, a2, a3] (.inr (.inr x) :: st) m := e_1 d169_973 (Or.inl rfl) rfl
theorem d169_974 : decode (mt 169).2.1 974 = .ok (.iload_n 3, 1) := by decide +kernel
theorem s169_974 {a0 a1 a2 : Option AV} {st : List AV} {m : MM} {x : Int32} : go 169 974 [a0, a1, a2, some (.inl x)] st m = go 169 975 [a0, a1, a2, some (.inl x)] (.inl x :: st) m := e_1 d169_974 (Or.inl rfl) rfl
theorem d169_975 : decode (mt 169).2.1 975 = .ok (.iconst 2, 1) := by decide +kernel
theorem s169_975 {ls : LV} {st : List AV} {m : MM} : go 169 975 ls st m = go 169 976 ls (.inl 2 :: st) m := e_1 d169_975 (Or.inl rfl) rfl
theorem d169_976 : decode (mt 169).2.1 976 = .ok (.iadd, 1) := by decide +kernel
theorem s169_976 {ls : LV} {st : List AV} {m : MM} {a b : Int32} : go 169 976 ls (.inl b :: .inl a :: st) m = go 169 977 ls (.inl (a + b) :: st) m := e_1 d169_976 (Or.inl rfl) rfl
theorem d169_977 : decode (mt 169).2.1 977 = .ok (.iaload, 1) := by decide +kernel
theorem s169_977 {ls : LV} {st : List AV} {m : MM} {n : Nat} {i : Int32} : go 169 977 ls (.inl i :: .inr (.inr (0, some n)) :: st) m = ixk (ix i (mN m 0 n)) (fun j => go 169 978 ls (.inl (mI m 0 n j) :: st) m) := e_ald d169_977 (fun j hj => by simp only [xi, pI, pA, hj, Option.bind_some]; rfl) (fun hj => by simp only [xi, pI, pA, hj, Option.bind_none])
theorem d169_978 : decode (mt 169).2.1 978 = .ok (.aload_n 0, 1) := by decide +kernel
theorem s169_978 {a1 a2 a3 : Option AV} {st : List AV} {m : MM} {x : Nat × Option Nat} : go 169 978 [some (.inr (.inr x)), a1, a2, a3] st m = go 169 979 [some (.inr (.inr x)), a1, a2, a3] (.inr (.inr x) :: st) m := e_1 d169_978 (Or.inl rfl) rfl
theorem d169_979 : decode (mt 169).2.1 979 = .ok (.iload_n 3, 1) := by decide +kernel
theorem s169_979 {a0 a1 a2 : Option AV} {st : List AV} {m : MM} {x : Int32} : go 169 979 [a0, a1, a2, some (.inl x)] st m = go 169 980 [a0, a1, a2, some (.inl x)] (.inl x :: st) m := e_1 d169_979 (Or.inl rfl) rfl
theorem d169_980 : decode (mt 169).2.1 980 = .ok (.iconst 3, 1) := by decide +kernel
theorem s169_980 {ls : LV} {st : List AV} {m : MM} : go 169 980 ls st m = go 169 981 ls (.inl 3 :: st) m := e_1 d169_980 (Or.inl rfl) rfl
theorem d169_981 : decode (mt 169).2.1 981 = .ok (.iadd, 1) := by decide +kernel
theorem s169_981 {ls : LV} {st : List AV} {m : MM} {a b : Int32} : go 169 981 ls (.inl b :: .inl a :: st) m = go 169 982 ls (.inl (a + b) :: st) m := e_1 d169_981 (Or.inl rfl) rfl
theorem d169_982 : decode (mt 169).2.1 982 = .ok (.iaload, 1) := by decide +kernel
theorem s169_982 {ls : LV} {st : List AV} {m : MM} {n : Nat} {i : Int32} : go 169 982 ls (.inl i :: .inr (.inr (0, some n)) :: st) m = ixk (ix i (mN m 0 n)) (fun j => go 169 983 ls (.inl (mI m 0 n j) :: st) m) := e_ald d169_982 (fun j hj => by simp only [xi, pI, pA, hj, Option.bind_some]; rfl) (fun hj => by simp only [xi, pI, pA, hj, Option.bind_none])
theorem d169_983 : decode (mt 169).2.1 983 = .ok (.invokevirtual 120, 3) := by decide +kernel
theorem s169_983 {ls : LV} {m : MM} {x0 : Int32} {x1 : Int32} {x2 : Int32} {w0 : AV} {n : Nat} : go 169 983 ls [.inl x2, .inl x1, .inl x0, .inr (.inr (8, some n)), w0] m = bd (go 161 0 [some (.inr (.inr (8, some n))), some (.inl x0), some (.inl x1), some (.inl x2), none, none, none] [] m) (fun v m2 => go 169 986 ls (v.toList ++ [w0]) m2) := e_virt (y1 := 161) (na := 3) (as := [.inl x0, .inl x1, .inl x2]) (rest := [w0]) d169_983 (by decide +kernel) rfl (by decide +kernel) (show (ent [.inr (.inr (8, some n)), .inl x0, .inl x1, .inl x2]).length ≤ (mt 161).2.2.2.1 from Nat.le_of_ble_eq_true rfl) (cats_le (Nat.le_of_ble_eq_true rfl)) (by decide +kernel)
theorem d169_986 : decode (mt 169).2.1 986 = .ok (.if_icmp .eq 77, 3) := by decide +kernel
theorem s169_986 {ls : LV} {st : List AV} {m : MM} {a b : Int32} : go 169 986 ls (.inl b :: .inl a :: st) m = if a = b then go 169 1063 ls st m else go 169 989 ls st m := e_if (t := 1063) (b := hc .eq a b) d169_986 (Or.inl rfl) (by simp only [xi, pI, jm_some (t := 1063) (show ((986 : Nat) : Int) + 77 = ((1063 : Nat) : Int) by decide), Option.bind_some]) (by simp [hc])
theorem d169_989 : decode (mt 169).2.1 989 = .ok (.iconst 0, 1) := by decide +kernel
theorem s169_989 {ls : LV} {st : List AV} {m : MM} : go 169 989 ls st m = go 169 990 ls (.inl 0 :: st) m := e_1 d169_989 (Or.inl rfl) rfl
theorem d169_990 : decode (mt 169).2.1 990 = .ok (.ireturn, 1) := by decide +kernel
theorem s169_990b0 {ls : LV} {m : MM} : go 169 990 ls [.inl 0] m = some (some (.inl 0), m) := e_bool d169_990 (by decide +kernel) (by decide)
theorem s169_990b1 {ls : LV} {m : MM} : go 169 990 ls [.inl 1] m = some (some (.inl 1), m) := e_bool d169_990 (by decide +kernel) (by decide)
theorem d169_991 : decode (mt 169).2.1 991 = .ok (.aload_n 1, 1) := by decide +kernel
theorem s169_991 {a0 a2 a3 : Option AV} {st : List AV} {m : MM} {x : Nat × Option Nat} : go 169 991 [a0, some (.inr (.inr x)), a2, a3] st m = go 169 992 [a0, some (.inr (.inr x)), a2, a3] (.inr (.inr x) :: st) m := e_1 d169_991 (Or.inl rfl) rfl
theorem d169_992 : decode (mt 169).2.1 992 = .ok (.invokevirtual 121, 3) := by decide +kernel
theorem s169_992 {ls : LV} {m : MM} {n : Nat} : go 169 992 ls [.inr (.inr (7, some n))] m = bd (go 89 0 [some (.inr (.inr (7, some n)))] [] m) (fun v m2 => go 169 995 ls (v.toList ++ []) m2) := e_virt (y1 := 89) (na := 0) (as := []) (rest := []) d169_992 (by decide +kernel) rfl (by decide +kernel) (show (ent [.inr (.inr (7, some n))]).length ≤ (mt 89).2.2.2.1 from Nat.le_of_ble_eq_true rfl) (cats_le (Nat.le_of_ble_eq_true rfl)) (by decide +kernel)
theorem d169_995 : decode (mt 169).2.1 995 = .ok (.aload_n 2, 1) := by decide +kernel
theorem s169_995 {a0 a1 a3 : Option AV} {st : List AV} {m : MM} {x : Nat × Option Nat} : go 169 995 [a0, a1, some (.inr (.inr x)), a3] st m = go 169 996 [a0, a1, some (.inr (.inr x)), a3] (.inr (.inr x) :: st) m := e_1 d169_995 (Or.inl rfl) rfl
theorem d169_996 : decode (mt 169).2.1 996 = .ok (.invokevirtual 125, 3) := by decide +kernel
theorem s169_996 {ls : LV} {m : MM} {w0 : AV} {n : Nat} : go 169 996 ls [.inr (.inr (8, some n)), w0] m = bd (go 163 0 [some (.inr (.inr (8, some n)))] [] m) (fun v m2 => go 169 999 ls (v.toList ++ [w0]) m2) := e_virt (y1 := 163) (na := 0) (as := []) (rest := [w0]) d169_996 (by decide +kernel) rfl (by decide +kernel) (show (ent [.inr (.inr (8, some n))]).length ≤ (mt 163).2.2.2.1 from Nat.le_of_ble_eq_true rfl) (cats_le (Nat.le_of_ble_eq_true rfl)) (by decide +kernel)
theorem d169_999 : decode (mt 169).2.1 999 = .ok (.if_icmp .eq 64, 3) := by decide +kernel
theorem s169_999 {ls : LV} {st : List AV} {m : MM} {a b : Int32} : go 169 999 ls (.inl b :: .inl a :: st) m = if a = b then go 169 1063 ls st m else go 169 1002 ls st m := e_if (t := 1063) (b := hc .eq a b) d169_999 (Or.inl rfl) (by simp only [xi, pI, jm_some (t := 1063) (show ((999 : Nat) : Int) + 64 = ((1063 : Nat) : Int) by decide), Option.bind_some]) (by simp [hc])
theorem d169_1002 : decode (mt 169).2.1 1002 = .ok (.iconst 0, 1) := by decide +kernel
theorem s169_1002 {ls : LV} {st : List AV} {m : MM} : go 169 1002 ls st m = go 169 1003 ls (.inl 0 :: st) m := e_1 d169_1002 (Or.inl rfl) rfl
theorem d169_1003 : decode (mt 169).2.1 1003 = .ok (.ireturn, 1) := by decide +kernel
theorem s169_1003b0 {ls : LV} {m : MM} : go 169 1003 ls [.inl 0] m = some (some (.inl 0), m) := e_bool d169_1003 (by decide +kernel) (by decide)
theorem s169_1003b1 {ls : LV} {m : MM} : go 169 1003 ls [.inl 1] m = some (some (.inl 1), m) := e_bool d169_1003 (by decide +kernel) (by decide)
theorem d169_1004 : decode (mt 169).2.1 1004 = .ok (.aload_n 1, 1) := by decide +kernel
theorem s169_1004 {a0 a2 a3 : Option AV} {st : List AV} {m : MM} {x : Nat × Option Nat} : go 169 1004 [a0, some (.inr (.inr x)), a2, a3] st m = go 169 1005 [a0, some (.inr (.inr x)), a2, a3] (.inr (.inr x) :: st) m := e_1 d169_1004 (Or.inl rfl) rfl
theorem d169_1005 : decode (mt 169).2.1 1005 = .ok (.aload_n 0, 1) := by decide +kernel
theorem s169_1005 {a1 a2 a3 : Option AV} {st : List AV} {m : MM} {x : Nat × Option Nat} : go 169 1005 [some (.inr (.inr x)), a1, a2, a3] st m = go 169 1006 [some (.inr (.inr x)), a1, a2, a3] (.inr (.inr x) :: st) m := e_1 d169_1005 (Or.inl rfl) rfl
theorem d169_1006 : decode (mt 169).2.1 1006 = .ok (.iload_n 3, 1) := by decide +kernel
theorem s169_1006 {a0 a1 a2 : Option AV} {st : List AV} {m : MM} {x : Int32} : go 169 1006 [a0, a1, a2, some (.inl x)] st m = go 169 1007 [a0, a1, a2, some (.inl x)] (.inl x :: st) m := e_1 d169_1006 (Or.inl rfl) rfl
theorem d169_1007 : decode (mt 169).2.1 1007 = .ok (.iconst 1, 1) := by decide +kernel
theorem s169_1007 {ls : LV} {st : List AV} {m : MM} : go 169 1007 ls st m = go 169 1008 ls (.inl 1 :: st) m := e_1 d169_1007 (Or.inl rfl) rfl
theorem d169_1008 : decode (mt 169).2.1 1008 = .ok (.iadd, 1) := by decide +kernel
theorem s169_1008 {ls : LV} {st : List AV} {m : MM} {a b : Int32} : go 169 1008 ls (.inl b :: .inl a :: st) m = go 169 1009 ls (.inl (a + b) :: st) m := e_1 d169_1008 (Or.inl rfl) rfl
theorem d169_1009 : decode (mt 169).2.1 1009 = .ok (.iaload, 1) := by decide +kernel
theorem s169_1009 {ls : LV} {st : List AV} {m : MM} {n : Nat} {i : Int32} : go 169 1009 ls (.inl i :: .inr (.inr (0, some n)) :: st) m = ixk (ix i (mN m 0 n)) (fun j => go 169 1010 ls (.inl (mI m 0 n j) :: st) m) := e_ald d169_1009 (fun j hj => by simp only [xi, pI, pA, hj, Option.bind_some]; rfl) (fun hj => by simp only [xi, pI, pA, hj, Option.bind_none])
theorem d169_1010 : decode (mt 169).2.1 1010 = .ok (.invokevirtual 126, 3) := by decide +kernel
theorem s169_1010 {ls : LV} {m : MM} {x0 : Int32} {n : Nat} : go 169 1010 ls [.inl x0, .inr (.inr (7, some n))] m = bd (go 90 0 [some (.inr (.inr (7, some n))), some (.inl x0), none, none, none] [] m) (fun v m2 => go 169 1013 ls (v.toList ++ []) m2) := e_virt (y1 := 90) (na := 1) (as := [.inl x0]) (rest := []) d169_1010 (by decide +kernel) rfl (by decide +kernel) (show (ent [.inr (.inr (7, some n)), .inl x0]).length ≤ (mt 90).2.2.2.1 from Nat.le_of_ble_eq_true rfl) (cats_le (Nat.le_of_ble_eq_true rfl)) (by decide +kernel)
theorem d169_1013 : decode (mt 169).2.1 1013 = .ok (.aload_n 2, 1) := by decide +kernel
theorem s169_1013 {a0 a1 a3 : Option AV} {st : List AV} {m : MM} {x : Nat × Option Nat} : go 169 1013 [a0, a1, some (.inr (.inr x)), a3] st m = go 169 1014 [a0, a1, some (.inr (.inr x)), a3] (.inr (.inr x) :: st) m := e_1 d169_1013 (Or.inl rfl) rfl
theorem d169_1014 : decode (mt 169).2.1 1014 = .ok (.aload_n 0, 1) := by decide +kernel
theorem s169_1014 {a1 a2 a3 : Option AV} {st : List AV} {m : MM} {x : Nat × Option Nat} : go 169 1014 [some (.inr (.inr x)), a1, a2, a3] st m = go 169 1015 [some (.inr (.inr x)), a1, a2, a3] (.inr (.inr x) :: st) m := e_1 d169_1014 (Or.inl rfl) rfl
theorem d169_1015 : decode (mt 169).2.1 1015 = .ok (.iload_n 3, 1) := by decide +kernel
theorem s169_1015 {a0 a1 a2 : Option AV} {st : List AV} {m : MM} {x : Int32} : go 169 1015 [a0, a1, a2, some (.inl x)] st m = go 169 1016 [a0, a1, a2, some (.inl x)] (.inl x :: st) m := e_1 d169_1015 (Or.inl rfl) rfl
theorem d169_1016 : decode (mt 169).2.1 1016 = .ok (.iconst 1, 1) := by decide +kernel
theorem s169_1016 {ls : LV} {st : List AV} {m : MM} : go 169 1016 ls st m = go 169 1017 ls (.inl 1 :: st) m := e_1 d169_1016 (Or.inl rfl) rfl
theorem d169_1017 : decode (mt 169).2.1 1017 = .ok (.iadd, 1) := by decide +kernel
theorem s169_1017 {ls : LV} {st : List AV} {m : MM} {a b : Int32} : go 169 1017 ls (.inl b :: .inl a :: st) m = go 169 1018 ls (.inl (a + b) :: st) m := e_1 d169_1017 (Or.inl rfl) rfl
theorem d169_1018 : decode (mt 169).2.1 1018 = .ok (.iaload, 1) := by decide +kernel
theorem s169_1018 {ls : LV} {st : List AV} {m : MM} {n : Nat} {i : Int32} : go 169 1018 ls (.inl i :: .inr (.inr (0, some n)) :: st) m = ixk (ix i (mN m 0 n)) (fun j => go 169 1019 ls (.inl (mI m 0 n j) :: st) m) := e_ald d169_1018 (fun j hj => by simp only [xi, pI, pA, hj, Option.bind_some]; rfl) (fun hj => by simp only [xi, pI, pA, hj, Option.bind_none])
theorem d169_1019 : decode (mt 169).2.1 1019 = .ok (.invokevirtual 129, 3) := by decide +kernel
theorem s169_1019 {ls : LV} {m : MM} {x0 : Int32} {w0 : AV} {n : Nat} : go 169 1019 ls [.inl x0, .inr (.inr (8, some n)), w0] m = bd (go 164 0 [some (.inr (.inr (8, some n))), some (.inl x0)] [] m) (fun v m2 => go 169 1022 ls (v.toList ++ [w0]) m2) := e_virt (y1 := 164) (na := 1) (as := [.inl x0]) (rest := [w0]) d169_1019 (by decide +kernel) rfl (by decide +kernel) (show (ent [.inr (.inr (8, some n)), .inl x0]).length ≤ (mt 164).2.2.2.1 from Nat.le_of_ble_eq_true rfl) (cats_le (Nat.le_of_ble_eq_true rfl)) (by decide +kernel)
theorem d169_1022 : decode (mt 169).2.1 1022 = .ok (.if_icmp .eq 41, 3) := by decide +kernel
theorem s169_1022 {ls : LV} {st : List AV} {m : MM} {a b : Int32} : go 169 1022 ls (.inl b :: .inl a :: st) m = if a = b then go 169 1063 ls st m else go 169 1025 ls st m := e_if (t := 1063) (b := hc .eq a b) d169_1022 (Or.inl rfl) (by simp only [xi, pI, jm_some (t := 1063) (show ((1022 : Nat) : Int) + 41 = ((1063 : Nat) : Int) by decide), Option.bind_some]) (by simp [hc])
theorem d169_1025 : decode (mt 169).2.1 1025 = .ok (.iconst 0, 1) := by decide +kernel
theorem s169_1025 {ls : LV} {st : List AV} {m : MM} : go 169 1025 ls st m = go 169 1026 ls (.inl 0 :: st) m := e_1 d169_1025 (Or.inl rfl) rfl
theorem d169_1026 : decode (mt 169).2.1 1026 = .ok (.ireturn, 1) := by decide +kernel
theorem s169_1026b0 {ls : LV} {m : MM} : go 169 1026 ls [.inl 0] m = some (some (.inl 0), m) := e_bool d169_1026 (by decide +kernel) (by decide)
theorem s169_1026b1 {ls : LV} {m : MM} : go 169 1026 ls [.inl 1] m = some (some (.inl 1), m) := e_bool d169_1026 (by decide +kernel) (by decide)
theorem d169_1027 : decode (mt 169).2.1 1027 = .ok (.aload_n 1, 1) := by decide +kernel
theorem s169_1027 {a0 a2 a3 : Option AV} {st : List AV} {m : MM} {x : Nat × Option Nat} : go 169 1027 [a0, some (.inr (.inr x)), a2, a3] st m = go 169 1028 [a0, some (.inr (.inr x)), a2, a3] (.inr (.inr x) :: st) m := e_1 d169_1027 (Or.inl rfl) rfl
theorem d169_1028 : decode (mt 169).2.1 1028 = .ok (.invokevirtual 130, 3) := by decide +kernel
theorem s169_1028 {ls : LV} {m : MM} {n : Nat} : go 169 1028 ls [.inr (.inr (7, some n))] m = bd (go 91 0 [some (.inr (.inr (7, some n))), none, none, none] [] m) (fun v m2 => go 169 1031 ls (v.toList ++ []) m2) := e_virt (y1 := 91) (na := 0) (as := []) (rest := []) d169_1028 (by decide +kernel) rfl (by decide +kernel) (show (ent [.inr (.inr (7, some n))]).length ≤ (mt 91).2.2.2.1 from Nat.le_of_ble_eq_true rfl) (cats_le (Nat.le_of_ble_eq_true rfl)) (by decide +kernel)
theorem d169_1031 : decode (mt 169).2.1 1031 = .ok (.aload_n 2, 1) := by decide +kernel
theorem s169_1031 {a0 a1 a3 : Option AV} {st : List AV} {m : MM} {x : Nat × Option Nat} : go 169 1031 [a0, a1, some (.inr (.inr x)), a3] st m = go 169 1032 [a0, a1, some (.inr (.inr x)), a3] (.inr (.inr x) :: st) m := e_1 d169_1031 (Or.inl rfl) rfl
theorem d169_1032 : decode (mt 169).2.1 1032 = .ok (.invokevirtual 133, 3) := by decide +kernel
theorem s169_1032 {ls : LV} {m : MM} {w0 : AV} {n : Nat} : go 169 1032 ls [.inr (.inr (8, some n)), w0] m = bd (go 165 0 [some (.inr (.inr (8, some n))), none, none, none, none, none, none] [] m) (fun v m2 => go 169 1035 ls (v.toList ++ [w0]) m2) := e_virt (y1 := 165) (na := 0) (as := []) (rest := [w0]) d169_1032 (by decide +kernel) rfl (by decide +kernel) (show (ent [.inr (.inr (8, some n))]).length ≤ (mt 165).2.2.2.1 from Nat.le_of_ble_eq_true rfl) (cats_le (Nat.le_of_ble_eq_true rfl)) (by decide +kernel)
theorem d169_1035 : decode (mt 169).2.1 1035 = .ok (.if_icmp .eq 28, 3) := by decide +kernel
theorem s169_1035 {ls : LV} {st : List AV} {m : MM} {a b : Int32} : go 169 1035 ls (.inl b :: .inl a :: st) m = if a = b then go 169 1063 ls st m else go 169 1038 ls st m := e_if (t := 1063) (b := hc .eq a b) d169_1035 (Or.inl rfl) (by simp only [xi, pI, jm_some (t := 1063) (show ((1035 : Nat) : Int) + 28 = ((1063 : Nat) : Int) by decide), Option.bind_some]) (by simp [hc])
theorem d169_1038 : decode (mt 169).2.1 1038 = .ok (.iconst 0, 1) := by decide +kernel
theorem s169_1038 {ls : LV} {st : List AV} {m : MM} : go 169 1038 ls st m = go 169 1039 ls (.inl 0 :: st) m := e_1 d169_1038 (Or.inl rfl) rfl
theorem d169_1039 : decode (mt 169).2.1 1039 = .ok (.ireturn, 1) := by decide +kernel
theorem s169_1039b0 {ls : LV} {m : MM} : go 169 1039 ls [.inl 0] m = some (some (.inl 0), m) := e_bool d169_1039 (by decide +kernel) (by decide)
theorem s169_1039b1 {ls : LV} {m : MM} : go 169 1039 ls [.inl 1] m = some (some (.inl 1), m) := e_bool d169_1039 (by decide +kernel) (by decide)
theorem d169_1040 : decode (mt 169).2.1 1040 = .ok (.aload_n 1, 1) := by decide +kernel
theorem s169_1040 {a0 a2 a3 : Option AV} {st : List AV} {m : MM} {x : Nat × Option Nat} : go 169 1040 [a0, some (.inr (.inr x)), a2, a3] st m = go 169 1041 [a0, some (.inr (.inr x)), a2, a3] (.inr (.inr x) :: st) m := e_1 d169_1040 (Or.inl rfl) rfl
theorem d169_1041 : decode (mt 169).2.1 1041 = .ok (.aload_n 0, 1) := by decide +kernel
theorem s169_1041 {a1 a2 a3 : Option AV} {st : List AV} {m : MM} {x : Nat × Option Nat} : go 169 1041 [some (.inr (.inr x)), a1, a2, a3] st m = go 169 1042 [some (.inr (.inr x)), a1, a2, a3] (.inr (.inr x) :: st) m := e_1 d169_1041 (Or.inl rfl) rfl
theorem d169_1042 : decode (mt 169).2.1 1042 = .ok (.iload_n 3, 1) := by decide +kernel
theorem s169_1042 {a0 a1 a2 : Option AV} {st : List AV} {m : MM} {x : Int32} : go 169 1042 [a0, a1, a2, some (.inl x)] st m = go 169 1043 [a0, a1, a2, some (.inl x)] (.inl x :: st) m := e_1 d169_1042 (Or.inl rfl) rfl
theorem d169_1043 : decode (mt 169).2.1 1043 = .ok (.iconst 1, 1) := by decide +kernel
theorem s169_1043 {ls : LV} {st : List AV} {m : MM} : go 169 1043 ls st m = go 169 1044 ls (.inl 1 :: st) m := e_1 d169_1043 (Or.inl rfl) rfl
theorem d169_1044 : decode (mt 169).2.1 1044 = .ok (.iadd, 1) := by decide +kernel
theorem s169_1044 {ls : LV} {st : List AV} {m : MM} {a b : Int32} : go 169 1044 ls (.inl b :: .inl a :: st) m = go 169 1045 ls (.inl (a + b) :: st) m := e_1 d169_1044 (Or.inl rfl) rfl
theorem d169_1045 : decode (mt 169).2.1 1045 = .ok (.iaload, 1) := by decide +kernel
theorem s169_1045 {ls : LV} {st : List AV} {m : MM} {n : Nat} {i : Int32} : go 169 1045 ls (.inl i :: .inr (.inr (0, some n)) :: st) m = ixk (ix i (mN m 0 n)) (fun j => go 169 1046 ls (.inl (mI m 0 n j) :: st) m) := e_ald d169_1045 (fun j hj => by simp only [xi, pI, pA, hj, Option.bind_some]; rfl) (fun hj => by simp only [xi, pI, pA, hj, Option.bind_none])
theorem d169_1046 : decode (mt 169).2.1 1046 = .ok (.invokevirtual 134, 3) := by decide +kernel
theorem s169_1046 {ls : LV} {m : MM} {x0 : Int32} {n : Nat} : go 169 1046 ls [.inl x0, .inr (.inr (7, some n))] m = bd (go 92 0 [some (.inr (.inr (7, some n))), some (.inl x0)] [] m) (fun v m2 => go 169 1049 ls (v.toList ++ []) m2) := e_virt (y1 := 92) (na := 1) (as := [.inl x0]) (rest := []) d169_1046 (by decide +kernel) rfl (by decide +kernel) (show (ent [.inr (.inr (7, some n)), .inl x0]).length ≤ (mt 92).2.2.2.1 from Nat.le_of_ble_eq_true rfl) (cats_le (Nat.le_of_ble_eq_true rfl)) (by decide +kernel)
theorem d169_1049 : decode (mt 169).2.1 1049 = .ok (.aload_n 2, 1) := by decide +kernel
theorem s169_1049 {a0 a1 a3 : Option AV} {st : List AV} {m : MM} {x : Nat × Option Nat} : go 169 1049 [a0, a1, some (.inr (.inr x)), a3] st m = go 169 1050 [a0, a1, some (.inr (.inr x)), a3] (.inr (.inr x) :: st) m := e_1 d169_1049 (Or.inl rfl) rfl
theorem d169_1050 : decode (mt 169).2.1 1050 = .ok (.aload_n 0, 1) := by decide +kernel
theorem s169_1050 {a1 a2 a3 : Option AV} {st : List AV} {m : MM} {x : Nat × Option Nat} : go 169 1050 [some (.inr (.inr x)), a1, a2, a3] st m = go 169 1051 [some (.inr (.inr x)), a1, a2, a3] (.inr (.inr x) :: st) m := e_1 d169_1050 (Or.inl rfl) rfl
theorem d169_1051 : decode (mt 169).2.1 1051 = .ok (.iload_n 3, 1) := by decide +kernel
theorem s169_1051 {a0 a1 a2 : Option AV} {st : List AV} {m : MM} {x : Int32} : go 169 1051 [a0, a1, a2, some (.inl x)] st m = go 169 1052 [a0, a1, a2, some (.inl x)] (.inl x :: st) m := e_1 d169_1051 (Or.inl rfl) rfl
theorem d169_1052 : decode (mt 169).2.1 1052 = .ok (.iconst 1, 1) := by decide +kernel
theorem s169_1052 {ls : LV} {st : List AV} {m : MM} : go 169 1052 ls st m = go 169 1053 ls (.inl 1 :: st) m := e_1 d169_1052 (Or.inl rfl) rfl
theorem d169_1053 : decode (mt 169).2.1 1053 = .ok (.iadd, 1) := by decide +kernel
theorem s169_1053 {ls : LV} {st : List AV} {m : MM} {a b : Int32} : go 169 1053 ls (.inl b :: .inl a :: st) m = go 169 1054 ls (.inl (a + b) :: st) m := e_1 d169_1053 (Or.inl rfl) rfl
theorem d169_1054 : decode (mt 169).2.1 1054 = .ok (.iaload, 1) := by decide +kernel
theorem s169_1054 {ls : LV} {st : List AV} {m : MM} {n : Nat} {i : Int32} : go 169 1054 ls (.inl i :: .inr (.inr (0, some n)) :: st) m = ixk (ix i (mN m 0 n)) (fun j => go 169 1055 ls (.inl (mI m 0 n j) :: st) m) := e_ald d169_1054 (fun j hj => by simp only [xi, pI, pA, hj, Option.bind_some]; rfl) (fun hj => by simp only [xi, pI, pA, hj, Option.bind_none])
theorem d169_1055 : decode (mt 169).2.1 1055 = .ok (.invokevirtual 137, 3) := by decide +kernel
theorem s169_1055 {ls : LV} {m : MM} {x0 : Int32} {w0 : AV} {n : Nat} : go 169 1055 ls [.inl x0, .inr (.inr (8, some n)), w0] m = bd (go 166 0 [some (.inr (.inr (8, some n))), some (.inl x0)] [] m) (fun v m2 => go 169 1058 ls (v.toList ++ [w0]) m2) := e_virt (y1 := 166) (na := 1) (as := [.inl x0]) (rest := [w0]) d169_1055 (by decide +kernel) rfl (by decide +kernel) (show (ent [.inr (.inr (8, some n)), .inl x0]).length ≤ (mt 166).2.2.2.1 from Nat.le_of_ble_eq_true rfl) (cats_le (Nat.le_of_ble_eq_true rfl)) (by decide +kernel)
theorem d169_1058 : decode (mt 169).2.1 1058 = .ok (.if_icmp .eq 5, 3) := by decide +kernel
theorem s169_1058 {ls : LV} {st : List AV} {m : MM} {a b : Int32} : go 169 1058 ls (.inl b :: .inl a :: st) m = if a = b then go 169 1063 ls st m else go 169 1061 ls st m := e_if (t := 1063) (b := hc .eq a b) d169_1058 (Or.inl rfl) (by simp only [xi, pI, jm_some (t := 1063) (show ((1058 : Nat) : Int) + 5 = ((1063 : Nat) : Int) by decide), Option.bind_some]) (by simp [hc])
theorem d169_1061 : decode (mt 169).2.1 1061 = .ok (.iconst 0, 1) := by decide +kernel
theorem s169_1061 {ls : LV} {st : List AV} {m : MM} : go 169 1061 ls st m = go 169 1062 ls (.inl 0 :: st) m := e_1 d169_1061 (Or.inl rfl) rfl
theorem d169_1062 : decode (mt 169).2.1 1062 = .ok (.ireturn, 1) := by decide +kernel
theorem s169_1062b0 {ls : LV} {m : MM} : go 169 1062 ls [.inl 0] m = some (some (.inl 0), m) := e_bool d169_1062 (by decide +kernel) (by decide)
theorem s169_1062b1 {ls : LV} {m : MM} : go 169 1062 ls [.inl 1] m = some (some (.inl 1), m) := e_bool d169_1062 (by decide +kernel) (by decide)
theorem d169_1063 : decode (mt 169).2.1 1063 = .ok (.iinc 3 5, 3) := by decide +kernel
theorem s169_1063i {a0 a1 : Option AV} {z : Int32} {st : List AV} {m : MM} {x : Int32} : go 169 1063 [a0, a1, some (.inl z), some (.inl x)] st m = go 169 1066 [a0, a1, some (.inl z), some (.inl (x + 5))] st m := e_1 d169_1063 (Or.inl rfl) rfl
theorem s169_1063r {a0 a1 : Option AV} {z : Nat × Option Nat} {st : List AV} {m : MM} {x : Int32} : go 169 1063 [a0, a1, some (.inr (.inr z)), some (.inl x)] st m = go 169 1066 [a0, a1, some (.inr (.inr z)), some (.inl (x + 5))] st m := e_1 d169_1063 (Or.inl rfl) rfl
theorem s169_1063n {a0 a1 : Option AV} {st : List AV} {m : MM} {x : Int32} : go 169 1063 [a0, a1, none, some (.inl x)] st m = go 169 1066 [a0, a1, none, some (.inl (x + 5))] st m := e_1 d169_1063 (Or.inl rfl) rfl
theorem d169_1066 : decode (mt 169).2.1 1066 = .ok (.goto (-1048), 3) := by decide +kernel
theorem s169_1066 {ls : LV} {st : List AV} {m : MM} : go 169 1066 ls st m = go 169 18 ls st m := e_1 d169_1066 (Or.inl rfl) (by rw [xi, jm_some (t := 18) (by decide)]; rfl)
theorem d169_1069 : decode (mt 169).2.1 1069 = .ok (.iconst 1, 1) := by decide +kernel
theorem s169_1069 {ls : LV} {st : List AV} {m : MM} : go 169 1069 ls st m = go 169 1070 ls (.inl 1 :: st) m := e_1 d169_1069 (Or.inl rfl) rfl
theorem d169_1070 : decode (mt 169).2.1 1070 = .ok (.ireturn, 1) := by decide +kernel
theorem s169_1070b0 {ls : LV} {m : MM} : go 169 1070 ls [.inl 0] m = some (some (.inl 0), m) := e_bool d169_1070 (by decide +kernel) (by decide)
theorem s169_1070b1 {ls : LV} {m : MM} : go 169 1070 ls [.inl 1] m = some (some (.inl 1), m) := e_bool d169_1070 (by decide +kernel) (by decide)
