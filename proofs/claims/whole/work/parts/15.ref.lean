/-! printed by wip/gen/eqs.py -/
/-! X7_comesJoin: 128 -/
theorem d128_0 : decode (mt 128).2.1 0 = .ok (.aload_n 0, 1) := by decide +kernel
theorem s128_0 {a1 a2 a3 a4 a5 a6 : Option AV} {st : List AV} {m : MM} {x : Nat × Option Nat} : go 128 0 [some (.inr (.inr x)), a1, a2, a3, a4, a5, a6] st m = go 128 1 [some (.inr (.inr x)), a1, a2, a3, a4, a5, a6] (.inr (.inr x) :: st) m := e_1 d128_0 (Or.inl rfl) rfl
theorem d128_1 : decode (mt 128).2.1 1 = .ok (.iload_n 1, 1) := by decide +kernel
theorem s128_1 {a0 a2 a3 a4 a5 a6 : Option AV} {st : List AV} {m : MM} {x : Int32} : go 128 1 [a0, some (.inl x), a2, a3, a4, a5, a6] st m = go 128 2 [a0, some (.inl x), a2, a3, a4, a5, a6] (.inl x :: st) m := e_1 d128_1 (Or.inl rfl) rfl
theorem d128_2 : decode (mt 128).2.1 2 = .ok (.aload_n 0, 1) := by decide +kernel
theorem s128_2 {a1 a2 a3 a4 a5 a6 : Option AV} {st : List AV} {m : MM} {x : Nat × Option Nat} : go 128 2 [some (.inr (.inr x)), a1, a2, a3, a4, a5, a6] st m = go 128 3 [some (.inr (.inr x)), a1, a2, a3, a4, a5, a6] (.inr (.inr x) :: st) m := e_1 d128_2 (Or.inl rfl) rfl
theorem d128_3 : decode (mt 128).2.1 3 = .ok (.getfield 13, 3) := by decide +kernel
theorem s128_3 {ls : LV} {st : List AV} {m : MM} {n : Nat} : go 128 3 ls (.inr (.inr (8, some n)) :: st) m = go 128 6 ls (.inr (.inr (19, mR m 8 n 2)) :: st) m := e_1 d128_3 (Or.inl rfl) (by rw [xi, pA, show lk fdL (mt 128).2.2.1 13 = some (8, 2) by decide +kernel]; rfl)
theorem d128_6 : decode (mt 128).2.1 6 = .ok (.iload_n 2, 1) := by decide +kernel
theorem s128_6 {a0 a1 a3 a4 a5 a6 : Option AV} {st : List AV} {m : MM} {x : Int32} : go 128 6 [a0, a1, some (.inl x), a3, a4, a5, a6] st m = go 128 7 [a0, a1, some (.inl x), a3, a4, a5, a6] (.inl x :: st) m := e_1 d128_6 (Or.inl rfl) rfl
theorem d128_7 : decode (mt 128).2.1 7 = .ok (.iaload, 1) := by decide +kernel
theorem s128_7 {ls : LV} {st : List AV} {m : MM} {n : Nat} {i : Int32} : go 128 7 ls (.inl i :: .inr (.inr (19, some n)) :: st) m = ixk (ix i (mN m 19 n)) (fun j => go 128 8 ls (.inl (mI m 19 n j) :: st) m) := e_ald d128_7 (fun j hj => by simp only [xi, pI, pA, hj, Option.bind_some]; rfl) (fun hj => by simp only [xi, pI, pA, hj, Option.bind_none])
theorem d128_8 : decode (mt 128).2.1 8 = .ok (.i2l, 1) := by decide +kernel
theorem s128_8 {ls : LV} {st : List AV} {m : MM} {a : Int32} : go 128 8 ls (.inl a :: st) m = go 128 9 ls (.inr (.inl a.toInt64) :: st) m := e_1 d128_8 (Or.inl rfl) rfl
theorem d128_9 : decode (mt 128).2.1 9 = .ok (.invokevirtual 149, 3) := by decide +kernel
theorem s128_9 {ls : LV} {m : MM} {x0 : Int32} {x1 : Int64} {n : Nat} : go 128 9 ls [.inr (.inl x1), .inl x0, .inr (.inr (8, some n))] m = bd (go 121 0 [some (.inr (.inr (8, some n))), some (.inl x0), some (.inr (.inl x1)), none, none, none] [] m) (fun v m2 => go 128 12 ls (v.toList ++ []) m2) := e_virt (y1 := 121) (na := 2) (as := [.inl x0, .inr (.inl x1)]) (rest := []) d128_9 (by decide +kernel) rfl (by decide +kernel) (show (ent [.inr (.inr (8, some n)), .inl x0, .inr (.inl x1)]).length ≤ (mt 121).2.2.2.1 from Nat.le_of_ble_eq_true rfl) (cats_le (Nat.le_of_ble_eq_true rfl)) (by decide +kernel)
theorem d128_12 : decode (mt 128).2.1 12 = .ok (.istore_n 3, 1) := by decide +kernel
theorem s128_12i {a0 a1 a3 a4 a5 a6 : Option AV} {z : Int32} {st : List AV} {m : MM} {x : Int32} : go 128 12 [a0, a1, some (.inl z), a3, a4, a5, a6] (.inl x :: st) m = go 128 13 [a0, a1, some (.inl z), some (.inl x), a4, a5, a6] st m := e_1 d128_12 (Or.inl rfl) rfl
theorem s128_12r {a0 a1 a3 a4 a5 a6 : Option AV} {z : Nat × Option Nat} {st : List AV} {m : MM} {x : Int32} : go 128 12 [a0, a1, some (.inr (.inr z)), a3, a4, a5, a6] (.inl x :: st) m = go 128 13 [a0, a1, some (.inr (.inr z)), some (.inl x), a4, a5, a6] st m := e_1 d128_12 (Or.inl rfl) rfl
theorem s128_12n {a0 a1 a3 a4 a5 a6 : Option AV} {st : List AV} {m : MM} {x : Int32} : go 128 12 [a0, a1, none, a3, a4, a5, a6] (.inl x :: st) m = go 128 13 [a0, a1, none, some (.inl x), a4, a5, a6] st m := e_1 d128_12 (Or.inl rfl) rfl
theorem d128_13 : decode (mt 128).2.1 13 = .ok (.iload_n 3, 1) := by decide +kernel
theorem s128_13 {a0 a1 a2 a4 a5 a6 : Option AV} {st : List AV} {m : MM} {x : Int32} : go 128 13 [a0, a1, a2, some (.inl x), a4, a5, a6] st m = go 128 14 [a0, a1, a2, some (.inl x), a4, a5, a6] (.inl x :: st) m := e_1 d128_13 (Or.inl rfl) rfl
theorem d128_14 : decode (mt 128).2.1 14 = .ok (.bipush (-10), 2) := by decide +kernel
theorem s128_14 {ls : LV} {st : List AV} {m : MM} : go 128 14 ls st m = go 128 16 ls (.inl (-10) :: st) m := e_1 d128_14 (Or.inl rfl) rfl
theorem d128_16 : decode (mt 128).2.1 16 = .ok (.if_icmp .eq 18, 3) := by decide +kernel
theorem s128_16 {ls : LV} {st : List AV} {m : MM} {a b : Int32} : go 128 16 ls (.inl b :: .inl a :: st) m = if a = b then go 128 34 ls st m else go 128 19 ls st m := e_if (t := 34) (b := hc .eq a b) d128_16 (Or.inl rfl) (by simp only [xi, pI, jm_some (t := 34) (show ((16 : Nat) : Int) + 18 = ((34 : Nat) : Int) by decide), Option.bind_some]) (by simp [hc])
theorem d128_19 : decode (mt 128).2.1 19 = .ok (.aload_n 0, 1) := by decide +kernel
theorem s128_19 {a1 a2 a3 a4 a5 a6 : Option AV} {st : List AV} {m : MM} {x : Nat × Option Nat} : go 128 19 [some (.inr (.inr x)), a1, a2, a3, a4, a5, a6] st m = go 128 20 [some (.inr (.inr x)), a1, a2, a3, a4, a5, a6] (.inr (.inr x) :: st) m := e_1 d128_19 (Or.inl rfl) rfl
theorem d128_20 : decode (mt 128).2.1 20 = .ok (.iconst 5, 1) := by decide +kernel
theorem s128_20 {ls : LV} {st : List AV} {m : MM} : go 128 20 ls st m = go 128 21 ls (.inl 5 :: st) m := e_1 d128_20 (Or.inl rfl) rfl
theorem d128_21 : decode (mt 128).2.1 21 = .ok (.iload_n 3, 1) := by decide +kernel
theorem s128_21 {a0 a1 a2 a4 a5 a6 : Option AV} {st : List AV} {m : MM} {x : Int32} : go 128 21 [a0, a1, a2, some (.inl x), a4, a5, a6] st m = go 128 22 [a0, a1, a2, some (.inl x), a4, a5, a6] (.inl x :: st) m := e_1 d128_21 (Or.inl rfl) rfl
theorem d128_22 : decode (mt 128).2.1 22 = .ok (.bipush (-4), 2) := by decide +kernel
theorem s128_22 {ls : LV} {st : List AV} {m : MM} : go 128 22 ls st m = go 128 24 ls (.inl (-4) :: st) m := e_1 d128_22 (Or.inl rfl) rfl
theorem d128_24 : decode (mt 128).2.1 24 = .ok (.bipush (-4), 2) := by decide +kernel
theorem s128_24 {ls : LV} {st : List AV} {m : MM} : go 128 24 ls st m = go 128 26 ls (.inl (-4) :: st) m := e_1 d128_24 (Or.inl rfl) rfl
theorem d128_26 : decode (mt 128).2.1 26 = .ok (.iconst 0, 1) := by decide +kernel
theorem s128_26 {ls : LV} {st : List AV} {m : MM} : go 128 26 ls st m = go 128 27 ls (.inl 0 :: st) m := e_1 d128_26 (Or.inl rfl) rfl
theorem d128_27 : decode (mt 128).2.1 27 = .ok (.iload_n 2, 1) := by decide +kernel
theorem s128_27 {a0 a1 a3 a4 a5 a6 : Option AV} {st : List AV} {m : MM} {x : Int32} : go 128 27 [a0, a1, some (.inl x), a3, a4, a5, a6] st m = go 128 28 [a0, a1, some (.inl x), a3, a4, a5, a6] (.inl x :: st) m := e_1 d128_27 (Or.inl rfl) rfl
theorem d128_28 : decode (mt 128).2.1 28 = .ok (.bipush (-4), 2) := by decide +kernel
theorem s128_28 {ls : LV} {st : List AV} {m : MM} : go 128 28 ls st m = go 128 30 ls (.inl (-4) :: st) m := e_1 d128_28 (Or.inl rfl) rfl
theorem d128_30 : decode (mt 128).2.1 30 = .ok (.invokevirtual 159, 3) := by decide +kernel
theorem s128_30 {ls : LV} {m : MM} {x0 : Int32} {x1 : Int32} {x2 : Int32} {x3 : Int32} {x4 : Int32} {x5 : Int32} {x6 : Int32} {n : Nat} : go 128 30 ls [.inl x6, .inl x5, .inl x4, .inl x3, .inl x2, .inl x1, .inl x0, .inr (.inr (8, some n))] m = bd (go 119 0 [some (.inr (.inr (8, some n))), some (.inl x0), some (.inl x1), some (.inl x2), some (.inl x3), some (.inl x4), some (.inl x5), some (.inl x6), none] [] m) (fun v m2 => go 128 33 ls (v.toList ++ []) m2) := e_virt (y1 := 119) (na := 7) (as := [.inl x0, .inl x1, .inl x2, .inl x3, .inl x4, .inl x5, .inl x6]) (rest := []) d128_30 (by decide +kernel) rfl (by decide +kernel) (show (ent [.inr (.inr (8, some n)), .inl x0, .inl x1, .inl x2, .inl x3, .inl x4, .inl x5, .inl x6]).length ≤ (mt 119).2.2.2.1 from Nat.le_of_ble_eq_true rfl) (cats_le (Nat.le_of_ble_eq_true rfl)) (by decide +kernel)
theorem d128_33 : decode (mt 128).2.1 33 = .ok (.return_, 1) := by decide +kernel
theorem s128_33 {ls : LV} {m : MM} : go 128 33 ls [] m = some (none, m) := e_void d128_33 (by decide +kernel)
theorem d128_34 : decode (mt 128).2.1 34 = .ok (.aload_n 0, 1) := by decide +kernel
theorem s128_34 {a1 a2 a3 a4 a5 a6 : Option AV} {st : List AV} {m : MM} {x : Nat × Option Nat} : go 128 34 [some (.inr (.inr x)), a1, a2, a3, a4, a5, a6] st m = go 128 35 [some (.inr (.inr x)), a1, a2, a3, a4, a5, a6] (.inr (.inr x) :: st) m := e_1 d128_34 (Or.inl rfl) rfl
theorem d128_35 : decode (mt 128).2.1 35 = .ok (.getfield 13, 3) := by decide +kernel
theorem s128_35 {ls : LV} {st : List AV} {m : MM} {n : Nat} : go 128 35 ls (.inr (.inr (8, some n)) :: st) m = go 128 38 ls (.inr (.inr (19, mR m 8 n 2)) :: st) m := e_1 d128_35 (Or.inl rfl) (by rw [xi, pA, show lk fdL (mt 128).2.2.1 13 = some (8, 2) by decide +kernel]; rfl)
theorem d128_38 : decode (mt 128).2.1 38 = .ok (.iload_n 1, 1) := by decide +kernel
theorem s128_38 {a0 a2 a3 a4 a5 a6 : Option AV} {st : List AV} {m : MM} {x : Int32} : go 128 38 [a0, some (.inl x), a2, a3, a4, a5, a6] st m = go 128 39 [a0, some (.inl x), a2, a3, a4, a5, a6] (.inl x :: st) m := e_1 d128_38 (Or.inl rfl) rfl
theorem d128_39 : decode (mt 128).2.1 39 = .ok (.iaload, 1) := by decide +kernel
theorem s128_39 {ls : LV} {st : List AV} {m : MM} {n : Nat} {i : Int32} : go 128 39 ls (.inl i :: .inr (.inr (19, some n)) :: st) m = ixk (ix i (mN m 19 n)) (fun j => go 128 40 ls (.inl (mI m 19 n j) :: st) m) := e_ald d128_39 (fun j hj => by simp only [xi, pI, pA, hj, Option.bind_some]; rfl) (fun hj => by simp only [xi, pI, pA, hj, Option.bind_none])
theorem d128_40 : decode (mt 128).2.1 40 = .ok (.aload_n 0, 1) := by decide +kernel
theorem s128_40 {a1 a2 a3 a4 a5 a6 : Option AV} {st : List AV} {m : MM} {x : Nat × Option Nat} : go 128 40 [some (.inr (.inr x)), a1, a2, a3, a4, a5, a6] st m = go 128 41 [some (.inr (.inr x)), a1, a2, a3, a4, a5, a6] (.inr (.inr x) :: st) m := e_1 d128_40 (Or.inl rfl) rfl
theorem d128_41 : decode (mt 128).2.1 41 = .ok (.getfield 13, 3) := by decide +kernel
theorem s128_41 {ls : LV} {st : List AV} {m : MM} {n : Nat} : go 128 41 ls (.inr (.inr (8, some n)) :: st) m = go 128 44 ls (.inr (.inr (19, mR m 8 n 2)) :: st) m := e_1 d128_41 (Or.inl rfl) (by rw [xi, pA, show lk fdL (mt 128).2.2.1 13 = some (8, 2) by decide +kernel]; rfl)
theorem d128_44 : decode (mt 128).2.1 44 = .ok (.iload_n 2, 1) := by decide +kernel
theorem s128_44 {a0 a1 a3 a4 a5 a6 : Option AV} {st : List AV} {m : MM} {x : Int32} : go 128 44 [a0, a1, some (.inl x), a3, a4, a5, a6] st m = go 128 45 [a0, a1, some (.inl x), a3, a4, a5, a6] (.inl x :: st) m := e_1 d128_44 (Or.inl rfl) rfl
theorem d128_45 : decode (mt 128).2.1 45 = .ok (.iaload, 1) := by decide +kernel
theorem s128_45 {ls : LV} {st : List AV} {m : MM} {n : Nat} {i : Int32} : go 128 45 ls (.inl i :: .inr (.inr (19, some n)) :: st) m = ixk (ix i (mN m 19 n)) (fun j => go 128 46 ls (.inl (mI m 19 n j) :: st) m) := e_ald d128_45 (fun j hj => by simp only [xi, pI, pA, hj, Option.bind_some]; rfl) (fun hj => by simp only [xi, pI, pA, hj, Option.bind_none])
theorem d128_46 : decode (mt 128).2.1 46 = .ok (.if_icmp .ge 7, 3) := by decide +kernel
theorem s128_46 {ls : LV} {st : List AV} {m : MM} {a b : Int32} : go 128 46 ls (.inl b :: .inl a :: st) m = if b ≤ a then go 128 53 ls st m else go 128 49 ls st m := e_if (t := 53) (b := hc .ge a b) d128_46 (Or.inl rfl) (by simp only [xi, pI, jm_some (t := 53) (show ((46 : Nat) : Int) + 7 = ((53 : Nat) : Int) by decide), Option.bind_some]) (by simp [hc])
theorem d128_49 : decode (mt 128).2.1 49 = .ok (.iconst 1, 1) := by decide +kernel
theorem s128_49 {ls : LV} {st : List AV} {m : MM} : go 128 49 ls st m = go 128 50 ls (.inl 1 :: st) m := e_1 d128_49 (Or.inl rfl) rfl
theorem d128_50 : decode (mt 128).2.1 50 = .ok (.goto 4, 3) := by decide +kernel
theorem s128_50 {ls : LV} {st : List AV} {m : MM} : go 128 50 ls st m = go 128 54 ls st m := e_1 d128_50 (Or.inl rfl) (by rw [xi, jm_some (t := 54) (by decide)]; rfl)
theorem d128_53 : decode (mt 128).2.1 53 = .ok (.iconst 0, 1) := by decide +kernel
theorem s128_53 {ls : LV} {st : List AV} {m : MM} : go 128 53 ls st m = go 128 54 ls (.inl 0 :: st) m := e_1 d128_53 (Or.inl rfl) rfl
theorem d128_54 : decode (mt 128).2.1 54 = .ok (.istore 4, 2) := by decide +kernel
theorem s128_54i {a0 a1 a2 a4 a5 a6 : Option AV} {z : Int32} {st : List AV} {m : MM} {x : Int32} : go 128 54 [a0, a1, a2, some (.inl z), a4, a5, a6] (.inl x :: st) m = go 128 56 [a0, a1, a2, some (.inl z), some (.inl x), a5, a6] st m := e_1 d128_54 (Or.inl rfl) rfl
theorem s128_54r {a0 a1 a2 a4 a5 a6 : Option AV} {z : Nat × Option Nat} {st : List AV} {m : MM} {x : Int32} : go 128 54 [a0, a1, a2, some (.inr (.inr z)), a4, a5, a6] (.inl x :: st) m = go 128 56 [a0, a1, a2, some (.inr (.inr z)), some (.inl x), a5, a6] st m := e_1 d128_54 (Or.inl rfl) rfl
theorem s128_54n {a0 a1 a2 a4 a5 a6 : Option AV} {st : List AV} {m : MM} {x : Int32} : go 128 54 [a0, a1, a2, none, a4, a5, a6] (.inl x :: st) m = go 128 56 [a0, a1, a2, none, some (.inl x), a5, a6] st m := e_1 d128_54 (Or.inl rfl) rfl
theorem d128_56 : decode (mt 128).2.1 56 = .ok (.aload_n 0, 1) := by decide +kernel
theorem s128_56 {a1 a2 a3 a4 a5 a6 : Option AV} {st : List AV} {m : MM} {x : Nat × Option Nat} : go 128 56 [some (.inr (.inr x)), a1, a2, a3, a4, a5, a6] st m = go 128 57 [some (.inr (.inr x)), a1, a2, a3, a4, a5, a6] (.inr (.inr x) :: st) m := e_1 d128_56 (Or.inl rfl) rfl
theorem d128_57 : decode (mt 128).2.1 57 = .ok (.iconst 0, 1) := by decide +kernel
theorem s128_57 {ls : LV} {st : List AV} {m : MM} : go 128 57 ls st m = go 128 58 ls (.inl 0 :: st) m := e_1 d128_57 (Or.inl rfl) rfl
theorem d128_58 : decode (mt 128).2.1 58 = .ok (.putfield 176, 3) := by decide +kernel
theorem s128_58 {ls : LV} {st : List AV} {m : MM} {n : Nat} {x : Int32} : go 128 58 ls (.inl x :: .inr (.inr (8, some n)) :: st) m = go 128 61 ls st (sI m 8 n 38 x) := e_put (r := 8) (f := 38) d128_58 (by decide +kernel) rfl (by decide +kernel)
theorem d128_61 : decode (mt 128).2.1 61 = .ok (.aload_n 0, 1) := by decide +kernel
theorem s128_61 {a1 a2 a3 a4 a5 a6 : Option AV} {st : List AV} {m : MM} {x : Nat × Option Nat} : go 128 61 [some (.inr (.inr x)), a1, a2, a3, a4, a5, a6] st m = go 128 62 [some (.inr (.inr x)), a1, a2, a3, a4, a5, a6] (.inr (.inr x) :: st) m := e_1 d128_61 (Or.inl rfl) rfl
theorem d128_62 : decode (mt 128).2.1 62 = .ok (.getfield 42, 3) := by decide +kernel
theorem s128_62 {ls : LV} {st : List AV} {m : MM} {n : Nat} : go 128 62 ls (.inr (.inr (8, some n)) :: st) m = go 128 65 ls (.inr (.inr (28, mR m 8 n 11)) :: st) m := e_1 d128_62 (Or.inl rfl) (by rw [xi, pA, show lk fdL (mt 128).2.2.1 42 = some (8, 11) by decide +kernel]; rfl)
theorem d128_65 : decode (mt 128).2.1 65 = .ok (.iload_n 1, 1) := by decide +kernel
theorem s128_65 {a0 a2 a3 a4 a5 a6 : Option AV} {st : List AV} {m : MM} {x : Int32} : go 128 65 [a0, some (.inl x), a2, a3, a4, a5, a6] st m = go 128 66 [a0, some (.inl x), a2, a3, a4, a5, a6] (.inl x :: st) m := e_1 d128_65 (Or.inl rfl) rfl
theorem d128_66 : decode (mt 128).2.1 66 = .ok (.iaload, 1) := by decide +kernel
theorem s128_66 {ls : LV} {st : List AV} {m : MM} {n : Nat} {i : Int32} : go 128 66 ls (.inl i :: .inr (.inr (28, some n)) :: st) m = ixk (ix i (mN m 28 n)) (fun j => go 128 67 ls (.inl (mI m 28 n j) :: st) m) := e_ald d128_66 (fun j hj => by simp only [xi, pI, pA, hj, Option.bind_some]; rfl) (fun hj => by simp only [xi, pI, pA, hj, Option.bind_none])
theorem d128_67 : decode (mt 128).2.1 67 = .ok (.iconst 1, 1) := by decide +kernel
theorem s128_67 {ls : LV} {st : List AV} {m : MM} : go 128 67 ls st m = go 128 68 ls (.inl 1 :: st) m := e_1 d128_67 (Or.inl rfl) rfl
theorem d128_68 : decode (mt 128).2.1 68 = .ok (.isub, 1) := by decide +kernel
theorem s128_68 {ls : LV} {st : List AV} {m : MM} {a b : Int32} : go 128 68 ls (.inl b :: .inl a :: st) m = go 128 69 ls (.inl (a - b) :: st) m := e_1 d128_68 (Or.inl rfl) rfl
theorem d128_69 : decode (mt 128).2.1 69 = .ok (.istore 5, 2) := by decide +kernel
theorem s128_69i {a0 a1 a2 a3 a5 a6 : Option AV} {z : Int32} {st : List AV} {m : MM} {x : Int32} : go 128 69 [a0, a1, a2, a3, some (.inl z), a5, a6] (.inl x :: st) m = go 128 71 [a0, a1, a2, a3, some (.inl z), some (.inl x), a6] st m := e_1 d128_69 (Or.inl rfl) rfl
theorem s128_69r {a0 a1 a2 a3 a5 a6 : Option AV} {z : Nat × Option Nat} {st : List AV} {m : MM} {x : Int32} : go 128 69 [a0, a1, a2, a3, some (.inr (.inr z)), a5, a6] (.inl x :: st) m = go 128 71 [a0, a1, a2, a3, some (.inr (.inr z)), some (.inl x), a6] st m := e_1 d128_69 (Or.inl rfl) rfl
theorem s128_69n {a0 a1 a2 a3 a5 a6 : Option AV} {st : List AV} {m : MM} {x : Int32} : go 128 69 [a0, a1, a2, a3, none, a5, a6] (.inl x :: st) m = go 128 71 [a0, a1, a2, a3, none, some (.inl x), a6] st m := e_1 d128_69 (Or.inl rfl) rfl
theorem d128_71 : decode (mt 128).2.1 71 = .ok (.iload 5, 2) := by decide +kernel
theorem s128_71 {a0 a1 a2 a3 a4 a6 : Option AV} {st : List AV} {m : MM} {x : Int32} : go 128 71 [a0, a1, a2, a3, a4, some (.inl x), a6] st m = go 128 73 [a0, a1, a2, a3, a4, some (.inl x), a6] (.inl x :: st) m := e_1 d128_71 (Or.inl rfl) rfl
theorem d128_73 : decode (mt 128).2.1 73 = .ok (.ifCond .lt 102, 3) := by decide +kernel
theorem s128_73 {ls : LV} {st : List AV} {m : MM} {a : Int32} : go 128 73 ls (.inl a :: st) m = if a < 0 then go 128 175 ls st m else go 128 76 ls st m := e_if (t := 175) (b := hc .lt a 0) d128_73 (Or.inl rfl) (by simp only [xi, pI, jm_some (t := 175) (show ((73 : Nat) : Int) + 102 = ((175 : Nat) : Int) by decide), Option.bind_some]) (by simp [hc])
theorem d128_76 : decode (mt 128).2.1 76 = .ok (.aload_n 0, 1) := by decide +kernel
theorem s128_76 {a1 a2 a3 a4 a5 a6 : Option AV} {st : List AV} {m : MM} {x : Nat × Option Nat} : go 128 76 [some (.inr (.inr x)), a1, a2, a3, a4, a5, a6] st m = go 128 77 [some (.inr (.inr x)), a1, a2, a3, a4, a5, a6] (.inr (.inr x) :: st) m := e_1 d128_76 (Or.inl rfl) rfl
theorem d128_77 : decode (mt 128).2.1 77 = .ok (.getfield 45, 3) := by decide +kernel
theorem s128_77 {ls : LV} {st : List AV} {m : MM} {n : Nat} : go 128 77 ls (.inr (.inr (8, some n)) :: st) m = go 128 80 ls (.inr (.inr (29, mR m 8 n 12)) :: st) m := e_1 d128_77 (Or.inl rfl) (by rw [xi, pA, show lk fdL (mt 128).2.2.1 45 = some (8, 12) by decide +kernel]; rfl)
theorem d128_80 : decode (mt 128).2.1 80 = .ok (.bipush 16, 2) := by decide +kernel
theorem s128_80 {ls : LV} {st : List AV} {m : MM} : go 128 80 ls st m = go 128 82 ls (.inl 16 :: st) m := e_1 d128_80 (Or.inl rfl) rfl
theorem d128_82 : decode (mt 128).2.1 82 = .ok (.iload_n 1, 1) := by decide +kernel
theorem s128_82 {a0 a2 a3 a4 a5 a6 : Option AV} {st : List AV} {m : MM} {x : Int32} : go 128 82 [a0, some (.inl x), a2, a3, a4, a5, a6] st m = go 128 83 [a0, some (.inl x), a2, a3, a4, a5, a6] (.inl x :: st) m := e_1 d128_82 (Or.inl rfl) rfl
theorem d128_83 : decode (mt 128).2.1 83 = .ok (.imul, 1) := by decide +kernel
theorem s128_83 {ls : LV} {st : List AV} {m : MM} {a b : Int32} : go 128 83 ls (.inl b :: .inl a :: st) m = go 128 84 ls (.inl (a * b) :: st) m := e_1 d128_83 (Or.inl rfl) rfl
theorem d128_84 : decode (mt 128).2.1 84 = .ok (.iload 5, 2) := by decide +kernel
theorem s128_84 {a0 a1 a2 a3 a4 a6 : Option AV} {st : List AV} {m : MM} {x : Int32} : go 128 84 [a0, a1, a2, a3, a4, some (.inl x), a6] st m = go 128 86 [a0, a1, a2, a3, a4, some (.inl x), a6] (.inl x :: st) m := e_1 d128_84 (Or.inl rfl) rfl
theorem d128_86 : decode (mt 128).2.1 86 = .ok (.iadd, 1) := by decide +kernel
theorem s128_86 {ls : LV} {st : List AV} {m : MM} {a b : Int32} : go 128 86 ls (.inl b :: .inl a :: st) m = go 128 87 ls (.inl (a + b) :: st) m := e_1 d128_86 (Or.inl rfl) rfl
theorem d128_87 : decode (mt 128).2.1 87 = .ok (.iaload, 1) := by decide +kernel
theorem s128_87 {ls : LV} {st : List AV} {m : MM} {n : Nat} {i : Int32} : go 128 87 ls (.inl i :: .inr (.inr (29, some n)) :: st) m = ixk (ix i (mN m 29 n)) (fun j => go 128 88 ls (.inl (mI m 29 n j) :: st) m) := e_ald d128_87 (fun j hj => by simp only [xi, pI, pA, hj, Option.bind_some]; rfl) (fun hj => by simp only [xi, pI, pA, hj, Option.bind_none])
theorem d128_88 : decode (mt 128).2.1 88 = .ok (.istore 6, 2) := by decide +kernel
theorem s128_88i {a0 a1 a2 a3 a4 a6 : Option AV} {z : Int32} {st : List AV} {m : MM} {x : Int32} : go 128 88 [a0, a1, a2, a3, a4, some (.inl z), a6] (.inl x :: st) m = go 128 90 [a0, a1, a2, a3, a4, some (.inl z), some (.inl x)] st m := e_1 d128_88 (Or.inl rfl) rfl
theorem s128_88r {a0 a1 a2 a3 a4 a6 : Option AV} {z : Nat × Option Nat} {st : List AV} {m : MM} {x : Int32} : go 128 88 [a0, a1, a2, a3, a4, some (.inr (.inr z)), a6] (.inl x :: st) m = go 128 90 [a0, a1, a2, a3, a4, some (.inr (.inr z)), some (.inl x)] st m := e_1 d128_88 (Or.inl rfl) rfl
theorem s128_88n {a0 a1 a2 a3 a4 a6 : Option AV} {st : List AV} {m : MM} {x : Int32} : go 128 88 [a0, a1, a2, a3, a4, none, a6] (.inl x :: st) m = go 128 90 [a0, a1, a2, a3, a4, none, some (.inl x)] st m := e_1 d128_88 (Or.inl rfl) rfl
theorem d128_90 : decode (mt 128).2.1 90 = .ok (.iload 4, 2) := by decide +kernel
theorem s128_90 {a0 a1 a2 a3 a5 a6 : Option AV} {st : List AV} {m : MM} {x : Int32} : go 128 90 [a0, a1, a2, a3, some (.inl x), a5, a6] st m = go 128 92 [a0, a1, a2, a3, some (.inl x), a5, a6] (.inl x :: st) m := e_1 d128_90 (Or.inl rfl) rfl
theorem d128_92 : decode (mt 128).2.1 92 = .ok (.ifCond .eq 17, 3) := by decide +kernel
theorem s128_92 {ls : LV} {st : List AV} {m : MM} {a : Int32} : go 128 92 ls (.inl a :: st) m = if a = 0 then go 128 109 ls st m else go 128 95 ls st m := e_if (t := 109) (b := hc .eq a 0) d128_92 (Or.inl rfl) (by simp only [xi, pI, jm_some (t := 109) (show ((92 : Nat) : Int) + 17 = ((109 : Nat) : Int) by decide), Option.bind_some]) (by simp [hc])
theorem d128_95 : decode (mt 128).2.1 95 = .ok (.iload 6, 2) := by decide +kernel
theorem s128_95 {a0 a1 a2 a3 a4 a5 : Option AV} {st : List AV} {m : MM} {x : Int32} : go 128 95 [a0, a1, a2, a3, a4, a5, some (.inl x)] st m = go 128 97 [a0, a1, a2, a3, a4, a5, some (.inl x)] (.inl x :: st) m := e_1 d128_95 (Or.inl rfl) rfl
theorem d128_97 : decode (mt 128).2.1 97 = .ok (.aload_n 0, 1) := by decide +kernel
theorem s128_97 {a1 a2 a3 a4 a5 a6 : Option AV} {st : List AV} {m : MM} {x : Nat × Option Nat} : go 128 97 [some (.inr (.inr x)), a1, a2, a3, a4, a5, a6] st m = go 128 98 [some (.inr (.inr x)), a1, a2, a3, a4, a5, a6] (.inr (.inr x) :: st) m := e_1 d128_97 (Or.inl rfl) rfl
theorem d128_98 : decode (mt 128).2.1 98 = .ok (.getfield 13, 3) := by decide +kernel
theorem s128_98 {ls : LV} {st : List AV} {m : MM} {n : Nat} : go 128 98 ls (.inr (.inr (8, some n)) :: st) m = go 128 101 ls (.inr (.inr (19, mR m 8 n 2)) :: st) m := e_1 d128_98 (Or.inl rfl) (by rw [xi, pA, show lk fdL (mt 128).2.2.1 13 = some (8, 2) by decide +kernel]; rfl)
theorem d128_101 : decode (mt 128).2.1 101 = .ok (.iload_n 2, 1) := by decide +kernel
theorem s128_101 {a0 a1 a3 a4 a5 a6 : Option AV} {st : List AV} {m : MM} {x : Int32} : go 128 101 [a0, a1, some (.inl x), a3, a4, a5, a6] st m = go 128 102 [a0, a1, some (.inl x), a3, a4, a5, a6] (.inl x :: st) m := e_1 d128_101 (Or.inl rfl) rfl
theorem d128_102 : decode (mt 128).2.1 102 = .ok (.iaload, 1) := by decide +kernel
theorem s128_102 {ls : LV} {st : List AV} {m : MM} {n : Nat} {i : Int32} : go 128 102 ls (.inl i :: .inr (.inr (19, some n)) :: st) m = ixk (ix i (mN m 19 n)) (fun j => go 128 103 ls (.inl (mI m 19 n j) :: st) m) := e_ald d128_102 (fun j hj => by simp only [xi, pI, pA, hj, Option.bind_some]; rfl) (fun hj => by simp only [xi, pI, pA, hj, Option.bind_none])
theorem d128_103 : decode (mt 128).2.1 103 = .ok (.if_icmp .lt 66, 3) := by decide +kernel
theorem s128_103 {ls : LV} {st : List AV} {m : MM} {a b : Int32} : go 128 103 ls (.inl b :: .inl a :: st) m = if a < b then go 128 169 ls st m else go 128 106 ls st m := e_if (t := 169) (b := hc .lt a b) d128_103 (Or.inl rfl) (by simp only [xi, pI, jm_some (t := 169) (show ((103 : Nat) : Int) + 66 = ((169 : Nat) : Int) by decide), Option.bind_some]) (by simp [hc])
theorem d128_106 : decode (mt 128).2.1 106 = .ok (.goto 14, 3) := by decide +kernel
theorem s128_106 {ls : LV} {st : List AV} {m : MM} : go 128 106 ls st m = go 128 120 ls st m := e_1 d128_106 (Or.inl rfl) (by rw [xi, jm_some (t := 120) (by decide)]; rfl)
theorem d128_109 : decode (mt 128).2.1 109 = .ok (.iload 6, 2) := by decide +kernel
theorem s128_109 {a0 a1 a2 a3 a4 a5 : Option AV} {st : List AV} {m : MM} {x : Int32} : go 128 109 [a0, a1, a2, a3, a4, a5, some (.inl x)] st m = go 128 111 [a0, a1, a2, a3, a4, a5, some (.inl x)] (.inl x :: st) m := e_1 d128_109 (Or.inl rfl) rfl
theorem d128_111 : decode (mt 128).2.1 111 = .ok (.aload_n 0, 1) := by decide +kernel
theorem s128_111 {a1 a2 a3 a4 a5 a6 : Option AV} {st : List AV} {m : MM} {x : Nat × Option Nat} : go 128 111 [some (.inr (.inr x)), a1, a2, a3, a4, a5, a6] st m = go 128 112 [some (.inr (.inr x)), a1, a2, a3, a4, a5, a6] (.inr (.inr x) :: st) m := e_1 d128_111 (Or.inl rfl) rfl
theorem d128_112 : decode (mt 128).2.1 112 = .ok (.getfield 13, 3) := by decide +kernel
theorem s128_112 {ls : LV} {st : List AV} {m : MM} {n : Nat} : go 128 112 ls (.inr (.inr (8, some n)) :: st) m = go 128 115 ls (.inr (.inr (19, mR m 8 n 2)) :: st) m := e_1 d128_112 (Or.inl rfl) (by rw [xi, pA, show lk fdL (mt 128).2.2.1 13 = some (8, 2) by decide +kernel]; rfl)
theorem d128_115 : decode (mt 128).2.1 115 = .ok (.iload_n 1, 1) := by decide +kernel
theorem s128_115 {a0 a2 a3 a4 a5 a6 : Option AV} {st : List AV} {m : MM} {x : Int32} : go 128 115 [a0, some (.inl x), a2, a3, a4, a5, a6] st m = go 128 116 [a0, some (.inl x), a2, a3, a4, a5, a6] (.inl x :: st) m := e_1 d128_115 (Or.inl rfl) rfl
theorem d128_116 : decode (mt 128).2.1 116 = .ok (.iaload, 1) := by decide +kernel
theorem s128_116 {ls : LV} {st : List AV} {m : MM} {n : Nat} {i : Int32} : go 128 116 ls (.inl i :: .inr (.inr (19, some n)) :: st) m = ixk (ix i (mN m 19 n)) (fun j => go 128 117 ls (.inl (mI m 19 n j) :: st) m) := e_ald d128_116 (fun j hj => by simp only [xi, pI, pA, hj, Option.bind_some]; rfl) (fun hj => by simp only [xi, pI, pA, hj, Option.bind_none])
theorem d128_117 : decode (mt 128).2.1 117 = .ok (.if_icmp .ge 52, 3) := by decide +kernel
theorem s128_117 {ls : LV} {st : List AV} {m : MM} {a b : Int32} : go 128 117 ls (.inl b :: .inl a :: st) m = if b ≤ a then go 128 169 ls st m else go 128 120 ls st m := e_if (t := 169) (b := hc .ge a b) d128_117 (Or.inl rfl) (by simp only [xi, pI, jm_some (t := 169) (show ((117 : Nat) : Int) + 52 = ((169 : Nat) : Int) by decide), Option.bind_some]) (by simp [hc])
theorem d128_120 : decode (mt 128).2.1 120 = .ok (.aload_n 0, 1) := by decide +kernel
theorem s128_120 {a1 a2 a3 a4 a5 a6 : Option AV} {st : List AV} {m : MM} {x : Nat × Option Nat} : go 128 120 [some (.inr (.inr x)), a1, a2, a3, a4, a5, a6] st m = go 128 121 [some (.inr (.inr x)), a1, a2, a3, a4, a5, a6] (.inr (.inr x) :: st) m := e_1 d128_120 (Or.inl rfl) rfl
theorem d128_121 : decode (mt 128).2.1 121 = .ok (.getfield 109, 3) := by decide +kernel
theorem s128_121 {ls : LV} {st : List AV} {m : MM} {n : Nat} : go 128 121 ls (.inr (.inr (8, some n)) :: st) m = go 128 124 ls (.inr (.inr (50, mR m 8 n 39)) :: st) m := e_1 d128_121 (Or.inl rfl) (by rw [xi, pA, show lk fdL (mt 128).2.2.1 109 = some (8, 39) by decide +kernel]; rfl)
theorem d128_124 : decode (mt 128).2.1 124 = .ok (.aload_n 0, 1) := by decide +kernel
theorem s128_124 {a1 a2 a3 a4 a5 a6 : Option AV} {st : List AV} {m : MM} {x : Nat × Option Nat} : go 128 124 [some (.inr (.inr x)), a1, a2, a3, a4, a5, a6] st m = go 128 125 [some (.inr (.inr x)), a1, a2, a3, a4, a5, a6] (.inr (.inr x) :: st) m := e_1 d128_124 (Or.inl rfl) rfl
theorem d128_125 : decode (mt 128).2.1 125 = .ok (.getfield 176, 3) := by decide +kernel
theorem s128_125 {ls : LV} {st : List AV} {m : MM} {n : Nat} : go 128 125 ls (.inr (.inr (8, some n)) :: st) m = go 128 128 ls (.inl (mI m 8 n 38) :: st) m := e_1 d128_125 (Or.inl rfl) (by rw [xi, pA, show lk fdL (mt 128).2.2.1 176 = some (8, 38) by decide +kernel]; rfl)
theorem d128_128 : decode (mt 128).2.1 128 = .ok (.iload 6, 2) := by decide +kernel
theorem s128_128 {a0 a1 a2 a3 a4 a5 : Option AV} {st : List AV} {m : MM} {x : Int32} : go 128 128 [a0, a1, a2, a3, a4, a5, some (.inl x)] st m = go 128 130 [a0, a1, a2, a3, a4, a5, some (.inl x)] (.inl x :: st) m := e_1 d128_128 (Or.inl rfl) rfl
theorem d128_130 : decode (mt 128).2.1 130 = .ok (.iastore, 1) := by decide +kernel
theorem s128_130 {ls : LV} {st : List AV} {m : MM} {n : Nat} {i : Int32} {x : Int32} : go 128 130 ls (.inl x :: .inl i :: .inr (.inr (50, some n)) :: st) m = ixk (ix i (mN m 50 n)) (fun j => go 128 131 ls st (sI m 50 n j x)) := e_ald d128_130 (fun j hj => by simp only [xi, pI, pL, pR, pA, hj, Option.bind_some]; exact if_pos ⟨rfl, by decide⟩) (fun hj => by simp only [xi, pI, pL, pR, pA, hj, Option.bind_none])
theorem d128_131 : decode (mt 128).2.1 131 = .ok (.aload_n 0, 1) := by decide +kernel
theorem s128_131 {a1 a2 a3 a4 a5 a6 : Option AV} {st : List AV} {m : MM} {x : Nat × Option Nat} : go 128 131 [some (.inr (.inr x)), a1, a2, a3, a4, a5, a6] st m = go 128 132 [some (.inr (.inr x)), a1, a2, a3, a4, a5, a6] (.inr (.inr x) :: st) m := e_1 d128_131 (Or.inl rfl) rfl
theorem d128_132 : decode (mt 128).2.1 132 = .ok (.getfield 112, 3) := by decide +kernel
theorem s128_132 {ls : LV} {st : List AV} {m : MM} {n : Nat} : go 128 132 ls (.inr (.inr (8, some n)) :: st) m = go 128 135 ls (.inr (.inr (51, mR m 8 n 40)) :: st) m := e_1 d128_132 (Or.inl rfl) (by rw [xi, pA, show lk fdL (mt 128).2.2.1 112 = some (8, 40) by decide +kernel]; rfl)
theorem d128_135 : decode (mt 128).2.1 135 = .ok (.aload_n 0, 1) := by decide +kernel
theorem s128_135 {a1 a2 a3 a4 a5 a6 : Option AV} {st : List AV} {m : MM} {x : Nat × Option Nat} : go 128 135 [some (.inr (.inr x)), a1, a2, a3, a4, a5, a6] st m = go 128 136 [some (.inr (.inr x)), a1, a2, a3, a4, a5, a6] (.inr (.inr x) :: st) m := e_1 d128_135 (Or.inl rfl) rfl
theorem d128_136 : decode (mt 128).2.1 136 = .ok (.getfield 176, 3) := by decide +kernel
theorem s128_136 {ls : LV} {st : List AV} {m : MM} {n : Nat} : go 128 136 ls (.inr (.inr (8, some n)) :: st) m = go 128 139 ls (.inl (mI m 8 n 38) :: st) m := e_1 d128_136 (Or.inl rfl) (by rw [xi, pA, show lk fdL (mt 128).2.2.1 176 = some (8, 38) by decide +kernel]; rfl)
theorem d128_139 : decode (mt 128).2.1 139 = .ok (.aload_n 0, 1) := by decide +kernel
theorem s128_139 {a1 a2 a3 a4 a5 a6 : Option AV} {st : List AV} {m : MM} {x : Nat × Option Nat} : go 128 139 [some (.inr (.inr x)), a1, a2, a3, a4, a5, a6] st m = go 128 140 [some (.inr (.inr x)), a1, a2, a3, a4, a5, a6] (.inr (.inr x) :: st) m := e_1 d128_139 (Or.inl rfl) rfl
theorem d128_140 : decode (mt 128).2.1 140 = .ok (.getfield 48, 3) := by decide +kernel
theorem s128_140 {ls : LV} {st : List AV} {m : MM} {n : Nat} : go 128 140 ls (.inr (.inr (8, some n)) :: st) m = go 128 143 ls (.inr (.inr (30, mR m 8 n 13)) :: st) m := e_1 d128_140 (Or.inl rfl) (by rw [xi, pA, show lk fdL (mt 128).2.2.1 48 = some (8, 13) by decide +kernel]; rfl)
theorem d128_143 : decode (mt 128).2.1 143 = .ok (.bipush 16, 2) := by decide +kernel
theorem s128_143 {ls : LV} {st : List AV} {m : MM} : go 128 143 ls st m = go 128 145 ls (.inl 16 :: st) m := e_1 d128_143 (Or.inl rfl) rfl
theorem d128_145 : decode (mt 128).2.1 145 = .ok (.iload_n 1, 1) := by decide +kernel
theorem s128_145 {a0 a2 a3 a4 a5 a6 : Option AV} {st : List AV} {m : MM} {x : Int32} : go 128 145 [a0, some (.inl x), a2, a3, a4, a5, a6] st m = go 128 146 [a0, some (.inl x), a2, a3, a4, a5, a6] (.inl x :: st) m := e_1 d128_145 (Or.inl rfl) rfl
theorem d128_146 : decode (mt 128).2.1 146 = .ok (.imul, 1) := by decide +kernel
theorem s128_146 {ls : LV} {st : List AV} {m : MM} {a b : Int32} : go 128 146 ls (.inl b :: .inl a :: st) m = go 128 147 ls (.inl (a * b) :: st) m := e_1 d128_146 (Or.inl rfl) rfl
theorem d128_147 : decode (mt 128).2.1 147 = .ok (.iload 5, 2) := by decide +kernel
theorem s128_147 {a0 a1 a2 a3 a4 a6 : Option AV} {st : List AV} {m : MM} {x : Int32} : go 128 147 [a0, a1, a2, a3, a4, some (.inl x), a6] st m = go 128 149 [a0, a1, a2, a3, a4, some (.inl x), a6] (.inl x :: st) m := e_1 d128_147 (Or.inl rfl) rfl
theorem d128_149 : decode (mt 128).2.1 149 = .ok (.iadd, 1) := by decide +kernel
theorem s128_149 {ls : LV} {st : List AV} {m : MM} {a b : Int32} : go 128 149 ls (.inl b :: .inl a :: st) m = go 128 150 ls (.inl (a + b) :: st) m := e_1 d128_149 (Or.inl rfl) rfl
theorem d128_150 : decode (mt 128).2.1 150 = .ok (.laload, 1) := by decide +kernel
theorem s128_150 {ls : LV} {st : List AV} {m : MM} {n : Nat} {i : Int32} : go 128 150 ls (.inl i :: .inr (.inr (30, some n)) :: st) m = ixk (ix i (mN m 30 n)) (fun j => go 128 151 ls (.inr (.inl (mL m 30 n j)) :: st) m) := e_ald d128_150 (fun j hj => by simp only [xi, pI, pA, hj, Option.bind_some]; rfl) (fun hj => by simp only [xi, pI, pA, hj, Option.bind_none])
theorem d128_151 : decode (mt 128).2.1 151 = .ok (.lastore, 1) := by decide +kernel
theorem s128_151 {ls : LV} {st : List AV} {m : MM} {n : Nat} {i : Int32} {x : Int64} : go 128 151 ls (.inr (.inl x) :: .inl i :: .inr (.inr (51, some n)) :: st) m = ixk (ix i (mN m 51 n)) (fun j => go 128 152 ls st (sL m 51 n j x)) := e_ald d128_151 (fun j hj => by simp only [xi, pI, pL, pR, pA, hj, Option.bind_some]; exact if_pos rfl) (fun hj => by simp only [xi, pI, pL, pR, pA, hj, Option.bind_none])
theorem d128_152 : decode (mt 128).2.1 152 = .ok (.aload_n 0, 1) := by decide +kernel
theorem s128_152 {a1 a2 a3 a4 a5 a6 : Option AV} {st : List AV} {m : MM} {x : Nat × Option Nat} : go 128 152 [some (.inr (.inr x)), a1, a2, a3, a4, a5, a6] st m = go 128 153 [some (.inr (.inr x)), a1, a2, a3, a4, a5, a6] (.inr (.inr x) :: st) m := e_1 d128_152 (Or.inl rfl) rfl
theorem d128_153 : decode (mt 128).2.1 153 = .ok (.dup, 1) := by decide +kernel
theorem s128_153 {ls : LV} {st : List AV} {m : MM} {x : Nat × Option Nat} : go 128 153 ls (.inr (.inr x) :: st) m = go 128 154 ls (.inr (.inr x) :: .inr (.inr x) :: st) m := e_1 d128_153 (Or.inl rfl) rfl
theorem d128_154 : decode (mt 128).2.1 154 = .ok (.getfield 176, 3) := by decide +kernel
theorem s128_154 {ls : LV} {st : List AV} {m : MM} {n : Nat} : go 128 154 ls (.inr (.inr (8, some n)) :: st) m = go 128 157 ls (.inl (mI m 8 n 38) :: st) m := e_1 d128_154 (Or.inl rfl) (by rw [xi, pA, show lk fdL (mt 128).2.2.1 176 = some (8, 38) by decide +kernel]; rfl)
theorem d128_157 : decode (mt 128).2.1 157 = .ok (.iconst 1, 1) := by decide +kernel
theorem s128_157 {ls : LV} {st : List AV} {m : MM} : go 128 157 ls st m = go 128 158 ls (.inl 1 :: st) m := e_1 d128_157 (Or.inl rfl) rfl
theorem d128_158 : decode (mt 128).2.1 158 = .ok (.iadd, 1) := by decide +kernel
theorem s128_158 {ls : LV} {st : List AV} {m : MM} {a b : Int32} : go 128 158 ls (.inl b :: .inl a :: st) m = go 128 159 ls (.inl (a + b) :: st) m := e_1 d128_158 (Or.inl rfl) rfl
theorem d128_159 : decode (mt 128).2.1 159 = .ok (.putfield 176, 3) := by decide +kernel
theorem s128_159 {ls : LV} {st : List AV} {m : MM} {n : Nat} {x : Int32} : go 128 159 ls (.inl x :: .inr (.inr (8, some n)) :: st) m = go 128 162 ls st (sI m 8 n 38 x) := e_put (r := 8) (f := 38) d128_159 (by decide +kernel) rfl (by decide +kernel)
theorem d128_162 : decode (mt 128).2.1 162 = .ok (.aload_n 0, 1) := by decide +kernel
theorem s128_162 {a1 a2 a3 a4 a5 a6 : Option AV} {st : List AV} {m : MM} {x : Nat × Option Nat} : go 128 162 [some (.inr (.inr x)), a1, a2, a3, a4, a5, a6] st m = go 128 163 [some (.inr (.inr x)), a1, a2, a3, a4, a5, a6] (.inr (.inr x) :: st) m := e_1 d128_162 (Or.inl rfl) rfl
theorem d128_163 : decode (mt 128).2.1 163 = .ok (.iload_n 1, 1) := by decide +kernel
theorem s128_163 {a0 a2 a3 a4 a5 a6 : Option AV} {st : List AV} {m : MM} {x : Int32} : go 128 163 [a0, some (.inl x), a2, a3, a4, a5, a6] st m = go 128 164 [a0, some (.inl x), a2, a3, a4, a5, a6] (.inl x :: st) m := e_1 d128_163 (Or.inl rfl) rfl
theorem d128_164 : decode (mt 128).2.1 164 = .ok (.iload 5, 2) := by decide +kernel
theorem s128_164 {a0 a1 a2 a3 a4 a6 : Option AV} {st : List AV} {m : MM} {x : Int32} : go 128 164 [a0, a1, a2, a3, a4, some (.inl x), a6] st m = go 128 166 [a0, a1, a2, a3, a4, some (.inl x), a6] (.inl x :: st) m := e_1 d128_164 (Or.inl rfl) rfl
theorem d128_166 : decode (mt 128).2.1 166 = .ok (.invokevirtual 179, 3) := by decide +kernel
theorem s128_166 {ls : LV} {m : MM} {x0 : Int32} {x1 : Int32} {n : Nat} : go 128 166 ls [.inl x1, .inl x0, .inr (.inr (8, some n))] m = bd (go 117 0 [some (.inr (.inr (8, some n))), some (.inl x0), some (.inl x1), none] [] m) (fun v m2 => go 128 169 ls (v.toList ++ []) m2) := e_virt (y1 := 117) (na := 2) (as := [.inl x0, .inl x1]) (rest := []) d128_166 (by decide +kernel) rfl (by decide +kernel) (show (ent [.inr (.inr (8, some n)), .inl x0, .inl x1]).length ≤ (mt 117).2.2.2.1 from Nat.le_of_ble_eq_true rfl) (cats_le (Nat.le_of_ble_eq_true rfl)) (by decide +kernel)
theorem d128_169 : decode (mt 128).2.1 169 = .ok (.iinc 5 (-1), 3) := by decide +kernel
theorem s128_169i {a0 a1 a2 a3 a6 : Option AV} {z : Int32} {st : List AV} {m : MM} {x : Int32} : go 128 169 [a0, a1, a2, a3, some (.inl z), some (.inl x), a6] st m = go 128 172 [a0, a1, a2, a3, some (.inl z), some (.inl (x + (-1))), a6] st m := e_1 d128_169 (Or.inl rfl) rfl
theorem s128_169r {a0 a1 a2 a3 a6 : Option AV} {z : Nat × Option Nat} {st : List AV} {m : MM} {x : Int32} : go 128 169 [a0, a1, a2, a3, some (.inr (.inr z)), some (.inl x), a6] st m = go 128 172 [a0, a1, a2, a3, some (.inr (.inr z)), some (.inl (x + (-1))), a6] st m := e_1 d128_169 (Or.inl rfl) rfl
theorem s128_169n {a0 a1 a2 a3 a6 : Option AV} {st : List AV} {m : MM} {x : Int32} : go 128 169 [a0, a1, a2, a3, none, some (.inl x), a6] st m = go 128 172 [a0, a1, a2, a3, none, some (.inl (x + (-1))), a6] st m := e_1 d128_169 (Or.inl rfl) rfl
theorem d128_172 : decode (mt 128).2.1 172 = .ok (.goto (-101), 3) := by decide +kernel
theorem s128_172 {ls : LV} {st : List AV} {m : MM} : go 128 172 ls st m = go 128 71 ls st m := e_1 d128_172 (Or.inl rfl) (by rw [xi, jm_some (t := 71) (by decide)]; rfl)
theorem d128_175 : decode (mt 128).2.1 175 = .ok (.aload_n 0, 1) := by decide +kernel
theorem s128_175 {a1 a2 a3 a4 a5 a6 : Option AV} {st : List AV} {m : MM} {x : Nat × Option Nat} : go 128 175 [some (.inr (.inr x)), a1, a2, a3, a4, a5, a6] st m = go 128 176 [some (.inr (.inr x)), a1, a2, a3, a4, a5, a6] (.inr (.inr x) :: st) m := e_1 d128_175 (Or.inl rfl) rfl
theorem d128_176 : decode (mt 128).2.1 176 = .ok (.bipush 6, 2) := by decide +kernel
theorem s128_176 {ls : LV} {st : List AV} {m : MM} : go 128 176 ls st m = go 128 178 ls (.inl 6 :: st) m := e_1 d128_176 (Or.inl rfl) rfl
theorem d128_178 : decode (mt 128).2.1 178 = .ok (.iload_n 2, 1) := by decide +kernel
theorem s128_178 {a0 a1 a3 a4 a5 a6 : Option AV} {st : List AV} {m : MM} {x : Int32} : go 128 178 [a0, a1, some (.inl x), a3, a4, a5, a6] st m = go 128 179 [a0, a1, some (.inl x), a3, a4, a5, a6] (.inl x :: st) m := e_1 d128_178 (Or.inl rfl) rfl
theorem d128_179 : decode (mt 128).2.1 179 = .ok (.bipush (-4), 2) := by decide +kernel
theorem s128_179 {ls : LV} {st : List AV} {m : MM} : go 128 179 ls st m = go 128 181 ls (.inl (-4) :: st) m := e_1 d128_179 (Or.inl rfl) rfl
theorem d128_181 : decode (mt 128).2.1 181 = .ok (.bipush (-4), 2) := by decide +kernel
theorem s128_181 {ls : LV} {st : List AV} {m : MM} : go 128 181 ls st m = go 128 183 ls (.inl (-4) :: st) m := e_1 d128_181 (Or.inl rfl) rfl
theorem d128_183 : decode (mt 128).2.1 183 = .ok (.iconst 0, 1) := by decide +kernel
theorem s128_183 {ls : LV} {st : List AV} {m : MM} : go 128 183 ls st m = go 128 184 ls (.inl 0 :: st) m := e_1 d128_183 (Or.inl rfl) rfl
theorem d128_184 : decode (mt 128).2.1 184 = .ok (.iload 4, 2) := by decide +kernel
theorem s128_184 {a0 a1 a2 a3 a5 a6 : Option AV} {st : List AV} {m : MM} {x : Int32} : go 128 184 [a0, a1, a2, a3, some (.inl x), a5, a6] st m = go 128 186 [a0, a1, a2, a3, some (.inl x), a5, a6] (.inl x :: st) m := e_1 d128_184 (Or.inl rfl) rfl
theorem d128_186 : decode (mt 128).2.1 186 = .ok (.ifCond .eq 7, 3) := by decide +kernel
theorem s128_186 {ls : LV} {st : List AV} {m : MM} {a : Int32} : go 128 186 ls (.inl a :: st) m = if a = 0 then go 128 193 ls st m else go 128 189 ls st m := e_if (t := 193) (b := hc .eq a 0) d128_186 (Or.inl rfl) (by simp only [xi, pI, jm_some (t := 193) (show ((186 : Nat) : Int) + 7 = ((193 : Nat) : Int) by decide), Option.bind_some]) (by simp [hc])
theorem d128_189 : decode (mt 128).2.1 189 = .ok (.iload_n 1, 1) := by decide +kernel
theorem s128_189 {a0 a2 a3 a4 a5 a6 : Option AV} {st : List AV} {m : MM} {x : Int32} : go 128 189 [a0, some (.inl x), a2, a3, a4, a5, a6] st m = go 128 190 [a0, some (.inl x), a2, a3, a4, a5, a6] (.inl x :: st) m := e_1 d128_189 (Or.inl rfl) rfl
theorem d128_190 : decode (mt 128).2.1 190 = .ok (.goto 5, 3) := by decide +kernel
theorem s128_190 {ls : LV} {st : List AV} {m : MM} : go 128 190 ls st m = go 128 195 ls st m := e_1 d128_190 (Or.inl rfl) (by rw [xi, jm_some (t := 195) (by decide)]; rfl)
theorem d128_193 : decode (mt 128).2.1 193 = .ok (.bipush (-4), 2) := by decide +kernel
theorem s128_193 {ls : LV} {st : List AV} {m : MM} : go 128 193 ls st m = go 128 195 ls (.inl (-4) :: st) m := e_1 d128_193 (Or.inl rfl) rfl
theorem d128_195 : decode (mt 128).2.1 195 = .ok (.iload 4, 2) := by decide +kernel
theorem s128_195 {a0 a1 a2 a3 a5 a6 : Option AV} {st : List AV} {m : MM} {x : Int32} : go 128 195 [a0, a1, a2, a3, some (.inl x), a5, a6] st m = go 128 197 [a0, a1, a2, a3, some (.inl x), a5, a6] (.inl x :: st) m := e_1 d128_195 (Or.inl rfl) rfl
theorem d128_197 : decode (mt 128).2.1 197 = .ok (.ifCond .eq 12, 3) := by decide +kernel
theorem s128_197 {ls : LV} {st : List AV} {m : MM} {a : Int32} : go 128 197 ls (.inl a :: st) m = if a = 0 then go 128 209 ls st m else go 128 200 ls st m := e_if (t := 209) (b := hc .eq a 0) d128_197 (Or.inl rfl) (by simp only [xi, pI, jm_some (t := 209) (show ((197 : Nat) : Int) + 12 = ((209 : Nat) : Int) by decide), Option.bind_some]) (by simp [hc])
theorem d128_200 : decode (mt 128).2.1 200 = .ok (.aload_n 0, 1) := by decide +kernel
theorem s128_200 {a1 a2 a3 a4 a5 a6 : Option AV} {st : List AV} {m : MM} {x : Nat × Option Nat} : go 128 200 [some (.inr (.inr x)), a1, a2, a3, a4, a5, a6] st m = go 128 201 [some (.inr (.inr x)), a1, a2, a3, a4, a5, a6] (.inr (.inr x) :: st) m := e_1 d128_200 (Or.inl rfl) rfl
theorem d128_201 : decode (mt 128).2.1 201 = .ok (.iload_n 1, 1) := by decide +kernel
theorem s128_201 {a0 a2 a3 a4 a5 a6 : Option AV} {st : List AV} {m : MM} {x : Int32} : go 128 201 [a0, some (.inl x), a2, a3, a4, a5, a6] st m = go 128 202 [a0, some (.inl x), a2, a3, a4, a5, a6] (.inl x :: st) m := e_1 d128_201 (Or.inl rfl) rfl
theorem d128_202 : decode (mt 128).2.1 202 = .ok (.iconst 0, 1) := by decide +kernel
theorem s128_202 {ls : LV} {st : List AV} {m : MM} : go 128 202 ls st m = go 128 203 ls (.inl 0 :: st) m := e_1 d128_202 (Or.inl rfl) rfl
theorem d128_203 : decode (mt 128).2.1 203 = .ok (.invokevirtual 143, 3) := by decide +kernel
theorem s128_203 {ls : LV} {m : MM} {x0 : Int32} {x1 : Int32} {w0 w1 w2 w3 w4 w5 w6 : AV} {n : Nat} (hc : cats [w0, w1, w2, w3, w4, w5, w6] ≤ 8) : go 128 203 ls [.inl x1, .inl x0, .inr (.inr (8, some n)), w0, w1, w2, w3, w4, w5, w6] m = bd (go 113 0 [some (.inr (.inr (8, some n))), some (.inl x0), some (.inl x1)] [] m) (fun v m2 => go 128 206 ls (v.toList ++ [w0, w1, w2, w3, w4, w5, w6]) m2) := e_virt (y1 := 113) (na := 2) (as := [.inl x0, .inl x1]) (rest := [w0, w1, w2, w3, w4, w5, w6]) d128_203 (by decide +kernel) rfl (by decide +kernel) (show (ent [.inr (.inr (8, some n)), .inl x0, .inl x1]).length ≤ (mt 113).2.2.2.1 from Nat.le_of_ble_eq_true rfl) hc (by decide +kernel)
theorem d128_206 : decode (mt 128).2.1 206 = .ok (.goto 4, 3) := by decide +kernel
theorem s128_206 {ls : LV} {st : List AV} {m : MM} : go 128 206 ls st m = go 128 210 ls st m := e_1 d128_206 (Or.inl rfl) (by rw [xi, jm_some (t := 210) (by decide)]; rfl)
theorem d128_209 : decode (mt 128).2.1 209 = .ok (.iload_n 1, 1) := by decide +kernel
theorem s128_209 {a0 a2 a3 a4 a5 a6 : Option AV} {st : List AV} {m : MM} {x : Int32} : go 128 209 [a0, some (.inl x), a2, a3, a4, a5, a6] st m = go 128 210 [a0, some (.inl x), a2, a3, a4, a5, a6] (.inl x :: st) m := e_1 d128_209 (Or.inl rfl) rfl
theorem d128_210 : decode (mt 128).2.1 210 = .ok (.invokevirtual 159, 3) := by decide +kernel
theorem s128_210 {ls : LV} {m : MM} {x0 : Int32} {x1 : Int32} {x2 : Int32} {x3 : Int32} {x4 : Int32} {x5 : Int32} {x6 : Int32} {n : Nat} : go 128 210 ls [.inl x6, .inl x5, .inl x4, .inl x3, .inl x2, .inl x1, .inl x0, .inr (.inr (8, some n))] m = bd (go 119 0 [some (.inr (.inr (8, some n))), some (.inl x0), some (.inl x1), some (.inl x2), some (.inl x3), some (.inl x4), some (.inl x5), some (.inl x6), none] [] m) (fun v m2 => go 128 213 ls (v.toList ++ []) m2) := e_virt (y1 := 119) (na := 7) (as := [.inl x0, .inl x1, .inl x2, .inl x3, .inl x4, .inl x5, .inl x6]) (rest := []) d128_210 (by decide +kernel) rfl (by decide +kernel) (show (ent [.inr (.inr (8, some n)), .inl x0, .inl x1, .inl x2, .inl x3, .inl x4, .inl x5, .inl x6]).length ≤ (mt 119).2.2.2.1 from Nat.le_of_ble_eq_true rfl) (cats_le (Nat.le_of_ble_eq_true rfl)) (by decide +kernel)
theorem d128_213 : decode (mt 128).2.1 213 = .ok (.return_, 1) := by decide +kernel
theorem s128_213 {ls : LV} {m : MM} : go 128 213 ls [] m = some (none, m) := e_void d128_213 (by decide +kernel)
/-! X7_unpack: 129 -/
theorem d129_0 : decode (mt 129).2.1 0 = .ok (.iconst 0, 1) := by decide +kernel
theorem s129_0 {ls : LV} {st : List AV} {m : MM} : go 129 0 ls st m = go 129 1 ls (.inl 0 :: st) m := e_1 d129_0 (Or.inl rfl) rfl
theorem d129_1 : decode (mt 129).2.1 1 = .ok (.istore_n 2, 1) := by decide +kernel
theorem s129_1i {a0 a2 : Option AV} {z : Int32} {st : List AV} {m : MM} {x : Int32} : go 129 1 [a0, some (.inl z), a2] (.inl x :: st) m = go 129 2 [a0, some (.inl z), some (.inl x)] st m := e_1 d129_1 (Or.inl rfl) rfl
theorem s129_1r {a0 a2 : Option AV} {z : Nat × Option Nat} {st : List AV} {m : MM} {x : Int32} : go 129 1 [a0, some (.inr (.inr z)), a2] (.inl x :: st) m = go 129 2 [a0, some (.inr (.inr z)), some (.inl x)] st m := e_1 d129_1 (Or.inl rfl) rfl
theorem s129_1n {a0 a2 : Option AV} {st : List AV} {m : MM} {x : Int32} : go 129 1 [a0, none, a2] (.inl x :: st) m = go 129 2 [a0, none, some (.inl x)] st m := e_1 d129_1 (Or.inl rfl) rfl
theorem d129_2 : decode (mt 129).2.1 2 = .ok (.iload_n 2, 1) := by decide +kernel
theorem s129_2 {a0 a1 : Option AV} {st : List AV} {m : MM} {x : Int32} : go 129 2 [a0, a1, some (.inl x)] st m = go 129 3 [a0, a1, some (.inl x)] (.inl x :: st) m := e_1 d129_2 (Or.inl rfl) rfl
theorem d129_3 : decode (mt 129).2.1 3 = .ok (.aload_n 0, 1) := by decide +kernel
theorem s129_3 {a1 a2 : Option AV} {st : List AV} {m : MM} {x : Nat × Option Nat} : go 129 3 [some (.inr (.inr x)), a1, a2] st m = go 129 4 [some (.inr (.inr x)), a1, a2] (.inr (.inr x) :: st) m := e_1 d129_3 (Or.inl rfl) rfl
theorem d129_4 : decode (mt 129).2.1 4 = .ok (.getfield 176, 3) := by decide +kernel
theorem s129_4 {ls : LV} {st : List AV} {m : MM} {n : Nat} : go 129 4 ls (.inr (.inr (8, some n)) :: st) m = go 129 7 ls (.inl (mI m 8 n 38) :: st) m := e_1 d129_4 (Or.inl rfl) (by rw [xi, pA, show lk fdL (mt 129).2.2.1 176 = some (8, 38) by decide +kernel]; rfl)
theorem d129_7 : decode (mt 129).2.1 7 = .ok (.if_icmp .ge 26, 3) := by decide +kernel
theorem s129_7 {ls : LV} {st : List AV} {m : MM} {a b : Int32} : go 129 7 ls (.inl b :: .inl a :: st) m = if b ≤ a then go 129 33 ls st m else go 129 10 ls st m := e_if (t := 33) (b := hc .ge a b) d129_7 (Or.inl rfl) (by simp only [xi, pI, jm_some (t := 33) (show ((7 : Nat) : Int) + 26 = ((33 : Nat) : Int) by decide), Option.bind_some]) (by simp [hc])
theorem d129_10 : decode (mt 129).2.1 10 = .ok (.aload_n 0, 1) := by decide +kernel
theorem s129_10 {a1 a2 : Option AV} {st : List AV} {m : MM} {x : Nat × Option Nat} : go 129 10 [some (.inr (.inr x)), a1, a2] st m = go 129 11 [some (.inr (.inr x)), a1, a2] (.inr (.inr x) :: st) m := e_1 d129_10 (Or.inl rfl) rfl
theorem d129_11 : decode (mt 129).2.1 11 = .ok (.iload_n 1, 1) := by decide +kernel
theorem s129_11 {a0 a2 : Option AV} {st : List AV} {m : MM} {x : Int32} : go 129 11 [a0, some (.inl x), a2] st m = go 129 12 [a0, some (.inl x), a2] (.inl x :: st) m := e_1 d129_11 (Or.inl rfl) rfl
theorem d129_12 : decode (mt 129).2.1 12 = .ok (.aload_n 0, 1) := by decide +kernel
theorem s129_12 {a1 a2 : Option AV} {st : List AV} {m : MM} {x : Nat × Option Nat} : go 129 12 [some (.inr (.inr x)), a1, a2] st m = go 129 13 [some (.inr (.inr x)), a1, a2] (.inr (.inr x) :: st) m := e_1 d129_12 (Or.inl rfl) rfl
theorem d129_13 : decode (mt 129).2.1 13 = .ok (.getfield 109, 3) := by decide +kernel
theorem s129_13 {ls : LV} {st : List AV} {m : MM} {n : Nat} : go 129 13 ls (.inr (.inr (8, some n)) :: st) m = go 129 16 ls (.inr (.inr (50, mR m 8 n 39)) :: st) m := e_1 d129_13 (Or.inl rfl) (by rw [xi, pA, show lk fdL (mt 129).2.2.1 109 = some (8, 39) by decide +kernel]; rfl)
theorem d129_16 : decode (mt 129).2.1 16 = .ok (.iload_n 2, 1) := by decide +kernel
theorem s129_16 {a0 a1 : Option AV} {st : List AV} {m : MM} {x : Int32} : go 129 16 [a0, a1, some (.inl x)] st m = go 129 17 [a0, a1, some (.inl x)] (.inl x :: st) m := e_1 d129_16 (Or.inl rfl) rfl
theorem d129_17 : decode (mt 129).2.1 17 = .ok (.iaload, 1) := by decide +kernel
theorem s129_17 {ls : LV} {st : List AV} {m : MM} {n : Nat} {i : Int32} : go 129 17 ls (.inl i :: .inr (.inr (50, some n)) :: st) m = ixk (ix i (mN m 50 n)) (fun j => go 129 18 ls (.inl (mI m 50 n j) :: st) m) := e_ald d129_17 (fun j hj => by simp only [xi, pI, pA, hj, Option.bind_some]; rfl) (fun hj => by simp only [xi, pI, pA, hj, Option.bind_none])
theorem d129_18 : decode (mt 129).2.1 18 = .ok (.aload_n 0, 1) := by decide +kernel
theorem s129_18 {a1 a2 : Option AV} {st : List AV} {m : MM} {x : Nat × Option Nat} : go 129 18 [some (.inr (.inr x)), a1, a2] st m = go 129 19 [some (.inr (.inr x)), a1, a2] (.inr (.inr x) :: st) m := e_1 d129_18 (Or.inl rfl) rfl
theorem d129_19 : decode (mt 129).2.1 19 = .ok (.getfield 112, 3) := by decide +kernel
theorem s129_19 {ls : LV} {st : List AV} {m : MM} {n : Nat} : go 129 19 ls (.inr (.inr (8, some n)) :: st) m = go 129 22 ls (.inr (.inr (51, mR m 8 n 40)) :: st) m := e_1 d129_19 (Or.inl rfl) (by rw [xi, pA, show lk fdL (mt 129).2.2.1 112 = some (8, 40) by decide +kernel]; rfl)
theorem d129_22 : decode (mt 129).2.1 22 = .ok (.iload_n 2, 1) := by decide +kernel
theorem s129_22 {a0 a1 : Option AV} {st : List AV} {m : MM} {x : Int32} : go 129 22 [a0, a1, some (.inl x)] st m = go 129 23 [a0, a1, some (.inl x)] (.inl x :: st) m := e_1 d129_22 (Or.inl rfl) rfl
theorem d129_23 : decode (mt 129).2.1 23 = .ok (.laload, 1) := by decide +kernel
theorem s129_23 {ls : LV} {st : List AV} {m : MM} {n : Nat} {i : Int32} : go 129 23 ls (.inl i :: .inr (.inr (51, some n)) :: st) m = ixk (ix i (mN m 51 n)) (fun j => go 129 24 ls (.inr (.inl (mL m 51 n j)) :: st) m) := e_ald d129_23 (fun j hj => by simp only [xi, pI, pA, hj, Option.bind_some]; rfl) (fun hj => by simp only [xi, pI, pA, hj, Option.bind_none])
theorem d129_24 : decode (mt 129).2.1 24 = .ok (.invokevirtual 166, 3) := by decide +kernel
theorem s129_24 {ls : LV} {m : MM} {x0 : Int32} {x1 : Int32} {x2 : Int64} {n : Nat} : go 129 24 ls [.inr (.inl x2), .inl x1, .inl x0, .inr (.inr (8, some n))] m = bd (go 115 0 [some (.inr (.inr (8, some n))), some (.inl x0), some (.inl x1), some (.inr (.inl x2)), none, none, none] [] m) (fun v m2 => go 129 27 ls (v.toList ++ []) m2) := e_virt (y1 := 115) (na := 3) (as := [.inl x0, .inl x1, .inr (.inl x2)]) (rest := []) d129_24 (by decide +kernel) rfl (by decide +kernel) (show (ent [.inr (.inr (8, some n)), .inl x0, .inl x1, .inr (.inl x2)]).length ≤ (mt 115).2.2.2.1 from Nat.le_of_ble_eq_true rfl) (cats_le (Nat.le_of_ble_eq_true rfl)) (by decide +kernel)
theorem d129_27 : decode (mt 129).2.1 27 = .ok (.iinc 2 1, 3) := by decide +kernel
theorem s129_27i {a0 : Option AV} {z : Int32} {st : List AV} {m : MM} {x : Int32} : go 129 27 [a0, some (.inl z), some (.inl x)] st m = go 129 30 [a0, some (.inl z), some (.inl (x + 1))] st m := e_1 d129_27 (Or.inl rfl) rfl
theorem s129_27r {a0 : Option AV} {z : Nat × Option Nat} {st : List AV} {m : MM} {x : Int32} : go 129 27 [a0, some (.inr (.inr z)), some (.inl x)] st m = go 129 30 [a0, some (.inr (.inr z)), some (.inl (x + 1))] st m := e_1 d129_27 (Or.inl rfl) rfl
theorem s129_27n {a0 : Option AV} {st : List AV} {m : MM} {x : Int32} : go 129 27 [a0, none, some (.inl x)] st m = go 129 30 [a0, none, some (.inl (x + 1))] st m := e_1 d129_27 (Or.inl rfl) rfl
theorem d129_30 : decode (mt 129).2.1 30 = .ok (.goto (-28), 3) := by decide +kernel
theorem s129_30 {ls : LV} {st : List AV} {m : MM} : go 129 30 ls st m = go 129 2 ls st m := e_1 d129_30 (Or.inl rfl) (by rw [xi, jm_some (t := 2) (by decide)]; rfl)
theorem d129_33 : decode (mt 129).2.1 33 = .ok (.aload_n 0, 1) := by decide +kernel
theorem s129_33 {a1 a2 : Option AV} {st : List AV} {m : MM} {x : Nat × Option Nat} : go 129 33 [some (.inr (.inr x)), a1, a2] st m = go 129 34 [some (.inr (.inr x)), a1, a2] (.inr (.inr x) :: st) m := e_1 d129_33 (Or.inl rfl) rfl
theorem d129_34 : decode (mt 129).2.1 34 = .ok (.iconst 0, 1) := by decide +kernel
theorem s129_34 {ls : LV} {st : List AV} {m : MM} : go 129 34 ls st m = go 129 35 ls (.inl 0 :: st) m := e_1 d129_34 (Or.inl rfl) rfl
theorem d129_35 : decode (mt 129).2.1 35 = .ok (.putfield 176, 3) := by decide +kernel
theorem s129_35 {ls : LV} {st : List AV} {m : MM} {n : Nat} {x : Int32} : go 129 35 ls (.inl x :: .inr (.inr (8, some n)) :: st) m = go 129 38 ls st (sI m 8 n 38 x) := e_put (r := 8) (f := 38) d129_35 (by decide +kernel) rfl (by decide +kernel)
theorem d129_38 : decode (mt 129).2.1 38 = .ok (.return_, 1) := by decide +kernel
theorem s129_38 {ls : LV} {m : MM} : go 129 38 ls [] m = some (none, m) := e_void d129_38 (by decide +kernel)
/-! X7_comesLink: 130 -/
theorem d130_0 : decode (mt 130).2.1 0 = .ok (.bipush 9, 2) := by decide +kernel
theorem s130_0 {ls : LV} {st : List AV} {m : MM} : go 130 0 ls st m = go 130 2 ls (.inl 9 :: st) m := e_1 d130_0 (Or.inl rfl) rfl
theorem d130_2 : decode (mt 130).2.1 2 = .ok (.iload_n 1, 1) := by decide +kernel
theorem s130_2 {a0 a2 a3 a4 a5 a6 a7 : Option AV} {st : List AV} {m : MM} {x : Int32} : go 130 2 [a0, some (.inl x), a2, a3, a4, a5, a6, a7] st m = go 130 3 [a0, some (.inl x), a2, a3, a4, a5, a6, a7] (.inl x :: st) m := e_1 d130_2 (Or.inl rfl) rfl
theorem d130_3 : decode (mt 130).2.1 3 = .ok (.imul, 1) := by decide +kernel
theorem s130_3 {ls : LV} {st : List AV} {m : MM} {a b : Int32} : go 130 3 ls (.inl b :: .inl a :: st) m = go 130 4 ls (.inl (a * b) :: st) m := e_1 d130_3 (Or.inl rfl) rfl
theorem d130_4 : decode (mt 130).2.1 4 = .ok (.iload_n 2, 1) := by decide +kernel
theorem s130_4 {a0 a1 a3 a4 a5 a6 a7 : Option AV} {st : List AV} {m : MM} {x : Int32} : go 130 4 [a0, a1, some (.inl x), a3, a4, a5, a6, a7] st m = go 130 5 [a0, a1, some (.inl x), a3, a4, a5, a6, a7] (.inl x :: st) m := e_1 d130_4 (Or.inl rfl) rfl
theorem d130_5 : decode (mt 130).2.1 5 = .ok (.iadd, 1) := by decide +kernel
theorem s130_5 {ls : LV} {st : List AV} {m : MM} {a b : Int32} : go 130 5 ls (.inl b :: .inl a :: st) m = go 130 6 ls (.inl (a + b) :: st) m := e_1 d130_5 (Or.inl rfl) rfl
theorem d130_6 : decode (mt 130).2.1 6 = .ok (.istore 5, 2) := by decide +kernel
theorem s130_6i {a0 a1 a2 a3 a5 a6 a7 : Option AV} {z : Int32} {st : List AV} {m : MM} {x : Int32} : go 130 6 [a0, a1, a2, a3, some (.inl z), a5, a6, a7] (.inl x :: st) m = go 130 8 [a0, a1, a2, a3, some (.inl z), some (.inl x), a6, a7] st m := e_1 d130_6 (Or.inl rfl) rfl
theorem s130_6r {a0 a1 a2 a3 a5 a6 a7 : Option AV} {z : Nat × Option Nat} {st : List AV} {m : MM} {x : Int32} : go 130 6 [a0, a1, a2, a3, some (.inr (.inr z)), a5, a6, a7] (.inl x :: st) m = go 130 8 [a0, a1, a2, a3, some (.inr (.inr z)), some (.inl x), a6, a7] st m := e_1 d130_6 (Or.inl rfl) rfl
theorem s130_6n {a0 a1 a2 a3 a5 a6 a7 : Option AV} {st : List AV} {m : MM} {x : Int32} : go 130 6 [a0, a1, a2, a3, none, a5, a6, a7] (.inl x :: st) m = go 130 8 [a0, a1, a2, a3, none, some (.inl x), a6, a7] st m := e_1 d130_6 (Or.inl rfl) rfl
theorem d130_8 : decode (mt 130).2.1 8 = .ok (.iload 4, 2) := by decide +kernel
theorem s130_8 {a0 a1 a2 a3 a5 a6 a7 : Option AV} {st : List AV} {m : MM} {x : Int32} : go 130 8 [a0, a1, a2, a3, some (.inl x), a5, a6, a7] st m = go 130 10 [a0, a1, a2, a3, some (.inl x), a5, a6, a7] (.inl x :: st) m := e_1 d130_8 (Or.inl rfl) rfl
theorem d130_10 : decode (mt 130).2.1 10 = .ok (.bipush (-4), 2) := by decide +kernel
theorem s130_10 {ls : LV} {st : List AV} {m : MM} : go 130 10 ls st m = go 130 12 ls (.inl (-4) :: st) m := e_1 d130_10 (Or.inl rfl) rfl
theorem d130_12 : decode (mt 130).2.1 12 = .ok (.if_icmp .ne 14, 3) := by decide +kernel
theorem s130_12 {ls : LV} {st : List AV} {m : MM} {a b : Int32} : go 130 12 ls (.inl b :: .inl a :: st) m = if ¬ a = b then go 130 26 ls st m else go 130 15 ls st m := e_if (t := 26) (b := hc .ne a b) d130_12 (Or.inl rfl) (by simp only [xi, pI, jm_some (t := 26) (show ((12 : Nat) : Int) + 14 = ((26 : Nat) : Int) by decide), Option.bind_some]) (by simp [hc])
theorem d130_15 : decode (mt 130).2.1 15 = .ok (.aload_n 0, 1) := by decide +kernel
theorem s130_15 {a1 a2 a3 a4 a5 a6 a7 : Option AV} {st : List AV} {m : MM} {x : Nat × Option Nat} : go 130 15 [some (.inr (.inr x)), a1, a2, a3, a4, a5, a6, a7] st m = go 130 16 [some (.inr (.inr x)), a1, a2, a3, a4, a5, a6, a7] (.inr (.inr x) :: st) m := e_1 d130_15 (Or.inl rfl) rfl
theorem d130_16 : decode (mt 130).2.1 16 = .ok (.getfield 26, 3) := by decide +kernel
theorem s130_16 {ls : LV} {st : List AV} {m : MM} {n : Nat} : go 130 16 ls (.inr (.inr (8, some n)) :: st) m = go 130 19 ls (.inr (.inr (23, mR m 8 n 6)) :: st) m := e_1 d130_16 (Or.inl rfl) (by rw [xi, pA, show lk fdL (mt 130).2.2.1 26 = some (8, 6) by decide +kernel]; rfl)
theorem d130_19 : decode (mt 130).2.1 19 = .ok (.iload 5, 2) := by decide +kernel
theorem s130_19 {a0 a1 a2 a3 a4 a6 a7 : Option AV} {st : List AV} {m : MM} {x : Int32} : go 130 19 [a0, a1, a2, a3, a4, some (.inl x), a6, a7] st m = go 130 21 [a0, a1, a2, a3, a4, some (.inl x), a6, a7] (.inl x :: st) m := e_1 d130_19 (Or.inl rfl) rfl
theorem d130_21 : decode (mt 130).2.1 21 = .ok (.baload, 1) := by decide +kernel
theorem s130_21 {ls : LV} {st : List AV} {m : MM} {n : Nat} {i : Int32} : go 130 21 ls (.inl i :: .inr (.inr (23, some n)) :: st) m = ixk (ix i (mN m 23 n)) (fun j => go 130 22 ls (.inl (mI m 23 n j) :: st) m) := e_ald d130_21 (fun j hj => by simp only [xi, pI, pA, hj, Option.bind_some]; rfl) (fun hj => by simp only [xi, pI, pA, hj, Option.bind_none])
theorem d130_22 : decode (mt 130).2.1 22 = .ok (.ifCond .ne 4, 3) := by decide +kernel
theorem s130_22 {ls : LV} {st : List AV} {m : MM} {a : Int32} : go 130 22 ls (.inl a :: st) m = if ¬ a = 0 then go 130 26 ls st m else go 130 25 ls st m := e_if (t := 26) (b := hc .ne a 0) d130_22 (Or.inl rfl) (by simp only [xi, pI, jm_some (t := 26) (show ((22 : Nat) : Int) + 4 = ((26 : Nat) : Int) by decide), Option.bind_some]) (by simp [hc])
theorem d130_25 : decode (mt 130).2.1 25 = .ok (.return_, 1) := by decide +kernel
theorem s130_25 {ls : LV} {m : MM} : go 130 25 ls [] m = some (none, m) := e_void d130_25 (by decide +kernel)
theorem d130_26 : decode (mt 130).2.1 26 = .ok (.aload_n 0, 1) := by decide +kernel
theorem s130_26 {a1 a2 a3 a4 a5 a6 a7 : Option AV} {st : List AV} {m : MM} {x : Nat × Option Nat} : go 130 26 [some (.inr (.inr x)), a1, a2, a3, a4, a5, a6, a7] st m = go 130 27 [some (.inr (.inr x)), a1, a2, a3, a4, a5, a6, a7] (.inr (.inr x) :: st) m := e_1 d130_26 (Or.inl rfl) rfl
theorem d130_27 : decode (mt 130).2.1 27 = .ok (.getfield 26, 3) := by decide +kernel
theorem s130_27 {ls : LV} {st : List AV} {m : MM} {n : Nat} : go 130 27 ls (.inr (.inr (8, some n)) :: st) m = go 130 30 ls (.inr (.inr (23, mR m 8 n 6)) :: st) m := e_1 d130_27 (Or.inl rfl) (by rw [xi, pA, show lk fdL (mt 130).2.2.1 26 = some (8, 6) by decide +kernel]; rfl)
theorem d130_30 : decode (mt 130).2.1 30 = .ok (.iload 5, 2) := by decide +kernel
theorem s130_30 {a0 a1 a2 a3 a4 a6 a7 : Option AV} {st : List AV} {m : MM} {x : Int32} : go 130 30 [a0, a1, a2, a3, a4, some (.inl x), a6, a7] st m = go 130 32 [a0, a1, a2, a3, a4, some (.inl x), a6, a7] (.inl x :: st) m := e_1 d130_30 (Or.inl rfl) rfl
theorem d130_32 : decode (mt 130).2.1 32 = .ok (.baload, 1) := by decide +kernel
theorem s130_32 {ls : LV} {st : List AV} {m : MM} {n : Nat} {i : Int32} : go 130 32 ls (.inl i :: .inr (.inr (23, some n)) :: st) m = ixk (ix i (mN m 23 n)) (fun j => go 130 33 ls (.inl (mI m 23 n j) :: st) m) := e_ald d130_32 (fun j hj => by simp only [xi, pI, pA, hj, Option.bind_some]; rfl) (fun hj => by simp only [xi, pI, pA, hj, Option.bind_none])
theorem d130_33 : decode (mt 130).2.1 33 = .ok (.ifCond .eq 27, 3) := by decide +kernel
theorem s130_33 {ls : LV} {st : List AV} {m : MM} {a : Int32} : go 130 33 ls (.inl a :: st) m = if a = 0 then go 130 60 ls st m else go 130 36 ls st m := e_if (t := 60) (b := hc .eq a 0) d130_33 (Or.inl rfl) (by simp only [xi, pI, jm_some (t := 60) (show ((33 : Nat) : Int) + 27 = ((60 : Nat) : Int) by decide), Option.bind_some]) (by simp [hc])
theorem d130_36 : decode (mt 130).2.1 36 = .ok (.aload_n 0, 1) := by decide +kernel
theorem s130_36 {a1 a2 a3 a4 a5 a6 a7 : Option AV} {st : List AV} {m : MM} {x : Nat × Option Nat} : go 130 36 [some (.inr (.inr x)), a1, a2, a3, a4, a5, a6, a7] st m = go 130 37 [some (.inr (.inr x)), a1, a2, a3, a4, a5, a6, a7] (.inr (.inr x) :: st) m := e_1 d130_36 (Or.inl rfl) rfl
theorem d130_37 : decode (mt 130).2.1 37 = .ok (.getfield 30, 3) := by decide +kernel
theorem s130_37 {ls : LV} {st : List AV} {m : MM} {n : Nat} : go 130 37 ls (.inr (.inr (8, some n)) :: st) m = go 130 40 ls (.inr (.inr (24, mR m 8 n 7)) :: st) m := e_1 d130_37 (Or.inl rfl) (by rw [xi, pA, show lk fdL (mt 130).2.2.1 30 = some (8, 7) by decide +kernel]; rfl)
theorem d130_40 : decode (mt 130).2.1 40 = .ok (.iload 5, 2) := by decide +kernel
theorem s130_40 {a0 a1 a2 a3 a4 a6 a7 : Option AV} {st : List AV} {m : MM} {x : Int32} : go 130 40 [a0, a1, a2, a3, a4, some (.inl x), a6, a7] st m = go 130 42 [a0, a1, a2, a3, a4, some (.inl x), a6, a7] (.inl x :: st) m := e_1 d130_40 (Or.inl rfl) rfl
theorem d130_42 : decode (mt 130).2.1 42 = .ok (.iaload, 1) := by decide +kernel
theorem s130_42 {ls : LV} {st : List AV} {m : MM} {n : Nat} {i : Int32} : go 130 42 ls (.inl i :: .inr (.inr (24, some n)) :: st) m = ixk (ix i (mN m 24 n)) (fun j => go 130 43 ls (.inl (mI m 24 n j) :: st) m) := e_ald d130_42 (fun j hj => by simp only [xi, pI, pA, hj, Option.bind_some]; rfl) (fun hj => by simp only [xi, pI, pA, hj, Option.bind_none])
theorem d130_43 : decode (mt 130).2.1 43 = .ok (.bipush (-4), 2) := by decide +kernel
theorem s130_43 {ls : LV} {st : List AV} {m : MM} : go 130 43 ls st m = go 130 45 ls (.inl (-4) :: st) m := e_1 d130_43 (Or.inl rfl) rfl
theorem d130_45 : decode (mt 130).2.1 45 = .ok (.if_icmp .ne 19, 3) := by decide +kernel
theorem s130_45 {ls : LV} {st : List AV} {m : MM} {a b : Int32} : go 130 45 ls (.inl b :: .inl a :: st) m = if ¬ a = b then go 130 64 ls st m else go 130 48 ls st m := e_if (t := 64) (b := hc .ne a b) d130_45 (Or.inl rfl) (by simp only [xi, pI, jm_some (t := 64) (show ((45 : Nat) : Int) + 19 = ((64 : Nat) : Int) by decide), Option.bind_some]) (by simp [hc])
theorem d130_48 : decode (mt 130).2.1 48 = .ok (.aload_n 0, 1) := by decide +kernel
theorem s130_48 {a1 a2 a3 a4 a5 a6 a7 : Option AV} {st : List AV} {m : MM} {x : Nat × Option Nat} : go 130 48 [some (.inr (.inr x)), a1, a2, a3, a4, a5, a6, a7] st m = go 130 49 [some (.inr (.inr x)), a1, a2, a3, a4, a5, a6, a7] (.inr (.inr x) :: st) m := e_1 d130_48 (Or.inl rfl) rfl
theorem d130_49 : decode (mt 130).2.1 49 = .ok (.getfield 33, 3) := by decide +kernel
theorem s130_49 {ls : LV} {st : List AV} {m : MM} {n : Nat} : go 130 49 ls (.inr (.inr (8, some n)) :: st) m = go 130 52 ls (.inr (.inr (25, mR m 8 n 8)) :: st) m := e_1 d130_49 (Or.inl rfl) (by rw [xi, pA, show lk fdL (mt 130).2.2.1 33 = some (8, 8) by decide +kernel]; rfl)
theorem d130_52 : decode (mt 130).2.1 52 = .ok (.iload 5, 2) := by decide +kernel
theorem s130_52 {a0 a1 a2 a3 a4 a6 a7 : Option AV} {st : List AV} {m : MM} {x : Int32} : go 130 52 [a0, a1, a2, a3, a4, some (.inl x), a6, a7] st m = go 130 54 [a0, a1, a2, a3, a4, some (.inl x), a6, a7] (.inl x :: st) m := e_1 d130_52 (Or.inl rfl) rfl
theorem d130_54 : decode (mt 130).2.1 54 = .ok (.iaload, 1) := by decide +kernel
theorem s130_54 {ls : LV} {st : List AV} {m : MM} {n : Nat} {i : Int32} : go 130 54 ls (.inl i :: .inr (.inr (25, some n)) :: st) m = ixk (ix i (mN m 25 n)) (fun j => go 130 55 ls (.inl (mI m 25 n j) :: st) m) := e_ald d130_54 (fun j hj => by simp only [xi, pI, pA, hj, Option.bind_some]; rfl) (fun hj => by simp only [xi, pI, pA, hj, Option.bind_none])
theorem d130_55 : decode (mt 130).2.1 55 = .ok (.bipush (-4), 2) := by decide +kernel
theorem s130_55 {ls : LV} {st : List AV} {m : MM} : go 130 55 ls st m = go 130 57 ls (.inl (-4) :: st) m := e_1 d130_55 (Or.inl rfl) rfl
theorem d130_57 : decode (mt 130).2.1 57 = .ok (.if_icmp .ne 7, 3) := by decide +kernel
theorem s130_57 {ls : LV} {st : List AV} {m : MM} {a b : Int32} : go 130 57 ls (.inl b :: .inl a :: st) m = if ¬ a = b then go 130 64 ls st m else go 130 60 ls st m := e_if (t := 64) (b := hc .ne a b) d130_57 (Or.inl rfl) (by simp only [xi, pI, jm_some (t := 64) (show ((57 : Nat) : Int) + 7 = ((64 : Nat) : Int) by decide), Option.bind_some]) (by simp [hc])
theorem d130_60 : decode (mt 130).2.1 60 = .ok (.iconst 1, 1) := by decide +kernel
theorem s130_60 {ls : LV} {st : List AV} {m : MM} : go 130 60 ls st m = go 130 61 ls (.inl 1 :: st) m := e_1 d130_60 (Or.inl rfl) rfl
theorem d130_61 : decode (mt 130).2.1 61 = .ok (.goto 4, 3) := by decide +kernel
theorem s130_61 {ls : LV} {st : List AV} {m : MM} : go 130 61 ls st m = go 130 65 ls st m := e_1 d130_61 (Or.inl rfl) (by rw [xi, jm_some (t := 65) (by decide)]; rfl)
theorem d130_64 : decode (mt 130).2.1 64 = .ok (.iconst 0, 1) := by decide +kernel
theorem s130_64 {ls : LV} {st : List AV} {m : MM} : go 130 64 ls st m = go 130 65 ls (.inl 0 :: st) m := e_1 d130_64 (Or.inl rfl) rfl
theorem d130_65 : decode (mt 130).2.1 65 = .ok (.istore 6, 2) := by decide +kernel
theorem s130_65i {a0 a1 a2 a3 a4 a6 a7 : Option AV} {z : Int32} {st : List AV} {m : MM} {x : Int32} : go 130 65 [a0, a1, a2, a3, a4, some (.inl z), a6, a7] (.inl x :: st) m = go 130 67 [a0, a1, a2, a3, a4, some (.inl z), some (.inl x), a7] st m := e_1 d130_65 (Or.inl rfl) rfl
theorem s130_65r {a0 a1 a2 a3 a4 a6 a7 : Option AV} {z : Nat × Option Nat} {st : List AV} {m : MM} {x : Int32} : go 130 65 [a0, a1, a2, a3, a4, some (.inr (.inr z)), a6, a7] (.inl x :: st) m = go 130 67 [a0, a1, a2, a3, a4, some (.inr (.inr z)), some (.inl x), a7] st m := e_1 d130_65 (Or.inl rfl) rfl
theorem s130_65n {a0 a1 a2 a3 a4 a6 a7 : Option AV} {st : List AV} {m : MM} {x : Int32} : go 130 65 [a0, a1, a2, a3, a4, none, a6, a7] (.inl x :: st) m = go 130 67 [a0, a1, a2, a3, a4, none, some (.inl x), a7] st m := e_1 d130_65 (Or.inl rfl) rfl
theorem d130_67 : decode (mt 130).2.1 67 = .ok (.aload_n 0, 1) := by decide +kernel
theorem s130_67 {a1 a2 a3 a4 a5 a6 a7 : Option AV} {st : List AV} {m : MM} {x : Nat × Option Nat} : go 130 67 [some (.inr (.inr x)), a1, a2, a3, a4, a5, a6, a7] st m = go 130 68 [some (.inr (.inr x)), a1, a2, a3, a4, a5, a6, a7] (.inr (.inr x) :: st) m := e_1 d130_67 (Or.inl rfl) rfl
theorem d130_68 : decode (mt 130).2.1 68 = .ok (.getfield 26, 3) := by decide +kernel
theorem s130_68 {ls : LV} {st : List AV} {m : MM} {n : Nat} : go 130 68 ls (.inr (.inr (8, some n)) :: st) m = go 130 71 ls (.inr (.inr (23, mR m 8 n 6)) :: st) m := e_1 d130_68 (Or.inl rfl) (by rw [xi, pA, show lk fdL (mt 130).2.2.1 26 = some (8, 6) by decide +kernel]; rfl)
theorem d130_71 : decode (mt 130).2.1 71 = .ok (.iload 5, 2) := by decide +kernel
theorem s130_71 {a0 a1 a2 a3 a4 a6 a7 : Option AV} {st : List AV} {m : MM} {x : Int32} : go 130 71 [a0, a1, a2, a3, a4, some (.inl x), a6, a7] st m = go 130 73 [a0, a1, a2, a3, a4, some (.inl x), a6, a7] (.inl x :: st) m := e_1 d130_71 (Or.inl rfl) rfl
theorem d130_73 : decode (mt 130).2.1 73 = .ok (.iconst 1, 1) := by decide +kernel
theorem s130_73 {ls : LV} {st : List AV} {m : MM} : go 130 73 ls st m = go 130 74 ls (.inl 1 :: st) m := e_1 d130_73 (Or.inl rfl) rfl
theorem d130_74 : decode (mt 130).2.1 74 = .ok (.bastore, 1) := by decide +kernel
theorem s130_74b0 {ls : LV} {st : List AV} {m : MM} {n : Nat} {i : Int32} : go 130 74 ls (.inl 0 :: .inl i :: .inr (.inr (23, some n)) :: st) m = ixk (ix i (mN m 23 n)) (fun j => go 130 75 ls st (sI m 23 n j 0)) := e_ald d130_74 (fun j hj => by simp only [xi, pI, pL, pR, pA, hj, Option.bind_some]; exact if_pos (Or.inl ⟨rfl, by decide⟩)) (fun hj => by simp only [xi, pI, pL, pR, pA, hj, Option.bind_none])
theorem s130_74b1 {ls : LV} {st : List AV} {m : MM} {n : Nat} {i : Int32} : go 130 74 ls (.inl 1 :: .inl i :: .inr (.inr (23, some n)) :: st) m = ixk (ix i (mN m 23 n)) (fun j => go 130 75 ls st (sI m 23 n j 1)) := e_ald d130_74 (fun j hj => by simp only [xi, pI, pL, pR, pA, hj, Option.bind_some]; exact if_pos (Or.inl ⟨rfl, by decide⟩)) (fun hj => by simp only [xi, pI, pL, pR, pA, hj, Option.bind_none])
theorem d130_75 : decode (mt 130).2.1 75 = .ok (.iload_n 3, 1) := by decide +kernel
theorem s130_75 {a0 a1 a2 a4 a5 a6 a7 : Option AV} {st : List AV} {m : MM} {x : Int32} : go 130 75 [a0, a1, a2, some (.inl x), a4, a5, a6, a7] st m = go 130 76 [a0, a1, a2, some (.inl x), a4, a5, a6, a7] (.inl x :: st) m := e_1 d130_75 (Or.inl rfl) rfl
theorem d130_76 : decode (mt 130).2.1 76 = .ok (.ifCond .ne 15, 3) := by decide +kernel
theorem s130_76 {ls : LV} {st : List AV} {m : MM} {a : Int32} : go 130 76 ls (.inl a :: st) m = if ¬ a = 0 then go 130 91 ls st m else go 130 79 ls st m := e_if (t := 91) (b := hc .ne a 0) d130_76 (Or.inl rfl) (by simp only [xi, pI, jm_some (t := 91) (show ((76 : Nat) : Int) + 15 = ((91 : Nat) : Int) by decide), Option.bind_some]) (by simp [hc])
theorem d130_79 : decode (mt 130).2.1 79 = .ok (.aload_n 0, 1) := by decide +kernel
theorem s130_79 {a1 a2 a3 a4 a5 a6 a7 : Option AV} {st : List AV} {m : MM} {x : Nat × Option Nat} : go 130 79 [some (.inr (.inr x)), a1, a2, a3, a4, a5, a6, a7] st m = go 130 80 [some (.inr (.inr x)), a1, a2, a3, a4, a5, a6, a7] (.inr (.inr x) :: st) m := e_1 d130_79 (Or.inl rfl) rfl
theorem d130_80 : decode (mt 130).2.1 80 = .ok (.getfield 30, 3) := by decide +kernel
theorem s130_80 {ls : LV} {st : List AV} {m : MM} {n : Nat} : go 130 80 ls (.inr (.inr (8, some n)) :: st) m = go 130 83 ls (.inr (.inr (24, mR m 8 n 7)) :: st) m := e_1 d130_80 (Or.inl rfl) (by rw [xi, pA, show lk fdL (mt 130).2.2.1 30 = some (8, 7) by decide +kernel]; rfl)
theorem d130_83 : decode (mt 130).2.1 83 = .ok (.iload 5, 2) := by decide +kernel
theorem s130_83 {a0 a1 a2 a3 a4 a6 a7 : Option AV} {st : List AV} {m : MM} {x : Int32} : go 130 83 [a0, a1, a2, a3, a4, some (.inl x), a6, a7] st m = go 130 85 [a0, a1, a2, a3, a4, some (.inl x), a6, a7] (.inl x :: st) m := e_1 d130_83 (Or.inl rfl) rfl
theorem d130_85 : decode (mt 130).2.1 85 = .ok (.iload 4, 2) := by decide +kernel
theorem s130_85 {a0 a1 a2 a3 a5 a6 a7 : Option AV} {st : List AV} {m : MM} {x : Int32} : go 130 85 [a0, a1, a2, a3, some (.inl x), a5, a6, a7] st m = go 130 87 [a0, a1, a2, a3, some (.inl x), a5, a6, a7] (.inl x :: st) m := e_1 d130_85 (Or.inl rfl) rfl
theorem d130_87 : decode (mt 130).2.1 87 = .ok (.iastore, 1) := by decide +kernel
theorem s130_87 {ls : LV} {st : List AV} {m : MM} {n : Nat} {i : Int32} {x : Int32} : go 130 87 ls (.inl x :: .inl i :: .inr (.inr (24, some n)) :: st) m = ixk (ix i (mN m 24 n)) (fun j => go 130 88 ls st (sI m 24 n j x)) := e_ald d130_87 (fun j hj => by simp only [xi, pI, pL, pR, pA, hj, Option.bind_some]; exact if_pos ⟨rfl, by decide⟩) (fun hj => by simp only [xi, pI, pL, pR, pA, hj, Option.bind_none])
theorem d130_88 : decode (mt 130).2.1 88 = .ok (.goto 12, 3) := by decide +kernel
theorem s130_88 {ls : LV} {st : List AV} {m : MM} : go 130 88 ls st m = go 130 100 ls st m := e_1 d130_88 (Or.inl rfl) (by rw [xi, jm_some (t := 100) (by decide)]; rfl)
theorem d130_91 : decode (mt 130).2.1 91 = .ok (.aload_n 0, 1) := by decide +kernel
theorem s130_91 {a1 a2 a3 a4 a5 a6 a7 : Option AV} {st : List AV} {m : MM} {x : Nat × Option Nat} : go 130 91 [some (.inr (.inr x)), a1, a2, a3, a4, a5, a6, a7] st m = go 130 92 [some (.inr (.inr x)), a1, a2, a3, a4, a5, a6, a7] (.inr (.inr x) :: st) m := e_1 d130_91 (Or.inl rfl) rfl
theorem d130_92 : decode (mt 130).2.1 92 = .ok (.getfield 33, 3) := by decide +kernel
theorem s130_92 {ls : LV} {st : List AV} {m : MM} {n : Nat} : go 130 92 ls (.inr (.inr (8, some n)) :: st) m = go 130 95 ls (.inr (.inr (25, mR m 8 n 8)) :: st) m := e_1 d130_92 (Or.inl rfl) (by rw [xi, pA, show lk fdL (mt 130).2.2.1 33 = some (8, 8) by decide +kernel]; rfl)
theorem d130_95 : decode (mt 130).2.1 95 = .ok (.iload 5, 2) := by decide +kernel
theorem s130_95 {a0 a1 a2 a3 a4 a6 a7 : Option AV} {st : List AV} {m : MM} {x : Int32} : go 130 95 [a0, a1, a2, a3, a4, some (.inl x), a6, a7] st m = go 130 97 [a0, a1, a2, a3, a4, some (.inl x), a6, a7] (.inl x :: st) m := e_1 d130_95 (Or.inl rfl) rfl
theorem d130_97 : decode (mt 130).2.1 97 = .ok (.iload 4, 2) := by decide +kernel
theorem s130_97 {a0 a1 a2 a3 a5 a6 a7 : Option AV} {st : List AV} {m : MM} {x : Int32} : go 130 97 [a0, a1, a2, a3, some (.inl x), a5, a6, a7] st m = go 130 99 [a0, a1, a2, a3, some (.inl x), a5, a6, a7] (.inl x :: st) m := e_1 d130_97 (Or.inl rfl) rfl
theorem d130_99 : decode (mt 130).2.1 99 = .ok (.iastore, 1) := by decide +kernel
theorem s130_99 {ls : LV} {st : List AV} {m : MM} {n : Nat} {i : Int32} {x : Int32} : go 130 99 ls (.inl x :: .inl i :: .inr (.inr (25, some n)) :: st) m = ixk (ix i (mN m 25 n)) (fun j => go 130 100 ls st (sI m 25 n j x)) := e_ald d130_99 (fun j hj => by simp only [xi, pI, pL, pR, pA, hj, Option.bind_some]; exact if_pos ⟨rfl, by decide⟩) (fun hj => by simp only [xi, pI, pL, pR, pA, hj, Option.bind_none])
theorem d130_100 : decode (mt 130).2.1 100 = .ok (.aload_n 0, 1) := by decide +kernel
theorem s130_100 {a1 a2 a3 a4 a5 a6 a7 : Option AV} {st : List AV} {m : MM} {x : Nat × Option Nat} : go 130 100 [some (.inr (.inr x)), a1, a2, a3, a4, a5, a6, a7] st m = go 130 101 [some (.inr (.inr x)), a1, a2, a3, a4, a5, a6, a7] (.inr (.inr x) :: st) m := e_1 d130_100 (Or.inl rfl) rfl
theorem d130_101 : decode (mt 130).2.1 101 = .ok (.getfield 30, 3) := by decide +kernel
theorem s130_101 {ls : LV} {st : List AV} {m : MM} {n : Nat} : go 130 101 ls (.inr (.inr (8, some n)) :: st) m = go 130 104 ls (.inr (.inr (24, mR m 8 n 7)) :: st) m := e_1 d130_101 (Or.inl rfl) (by rw [xi, pA, show lk fdL (mt 130).2.2.1 30 = some (8, 7) by decide +kernel]; rfl)
theorem d130_104 : decode (mt 130).2.1 104 = .ok (.iload 5, 2) := by decide +kernel
theorem s130_104 {a0 a1 a2 a3 a4 a6 a7 : Option AV} {st : List AV} {m : MM} {x : Int32} : go 130 104 [a0, a1, a2, a3, a4, some (.inl x), a6, a7] st m = go 130 106 [a0, a1, a2, a3, a4, some (.inl x), a6, a7] (.inl x :: st) m := e_1 d130_104 (Or.inl rfl) rfl
theorem d130_106 : decode (mt 130).2.1 106 = .ok (.iaload, 1) := by decide +kernel
theorem s130_106 {ls : LV} {st : List AV} {m : MM} {n : Nat} {i : Int32} : go 130 106 ls (.inl i :: .inr (.inr (24, some n)) :: st) m = ixk (ix i (mN m 24 n)) (fun j => go 130 107 ls (.inl (mI m 24 n j) :: st) m) := e_ald d130_106 (fun j hj => by simp only [xi, pI, pA, hj, Option.bind_some]; rfl) (fun hj => by simp only [xi, pI, pA, hj, Option.bind_none])
theorem d130_107 : decode (mt 130).2.1 107 = .ok (.bipush (-4), 2) := by decide +kernel
theorem s130_107 {ls : LV} {st : List AV} {m : MM} : go 130 107 ls st m = go 130 109 ls (.inl (-4) :: st) m := e_1 d130_107 (Or.inl rfl) rfl
theorem d130_109 : decode (mt 130).2.1 109 = .ok (.if_icmp .ne 19, 3) := by decide +kernel
theorem s130_109 {ls : LV} {st : List AV} {m : MM} {a b : Int32} : go 130 109 ls (.inl b :: .inl a :: st) m = if ¬ a = b then go 130 128 ls st m else go 130 112 ls st m := e_if (t := 128) (b := hc .ne a b) d130_109 (Or.inl rfl) (by simp only [xi, pI, jm_some (t := 128) (show ((109 : Nat) : Int) + 19 = ((128 : Nat) : Int) by decide), Option.bind_some]) (by simp [hc])
theorem d130_112 : decode (mt 130).2.1 112 = .ok (.aload_n 0, 1) := by decide +kernel
theorem s130_112 {a1 a2 a3 a4 a5 a6 a7 : Option AV} {st : List AV} {m : MM} {x : Nat × Option Nat} : go 130 112 [some (.inr (.inr x)), a1, a2, a3, a4, a5, a6, a7] st m = go 130 113 [some (.inr (.inr x)), a1, a2, a3, a4, a5, a6, a7] (.inr (.inr x) :: st) m := e_1 d130_112 (Or.inl rfl) rfl
theorem d130_113 : decode (mt 130).2.1 113 = .ok (.getfield 33, 3) := by decide +kernel
theorem s130_113 {ls : LV} {st : List AV} {m : MM} {n : Nat} : go 130 113 ls (.inr (.inr (8, some n)) :: st) m = go 130 116 ls (.inr (.inr (25, mR m 8 n 8)) :: st) m := e_1 d130_113 (Or.inl rfl) (by rw [xi, pA, show lk fdL (mt 130).2.2.1 33 = some (8, 8) by decide +kernel]; rfl)
theorem d130_116 : decode (mt 130).2.1 116 = .ok (.iload 5, 2) := by decide +kernel
theorem s130_116 {a0 a1 a2 a3 a4 a6 a7 : Option AV} {st : List AV} {m : MM} {x : Int32} : go 130 116 [a0, a1, a2, a3, a4, some (.inl x), a6, a7] st m = go 130 118 [a0, a1, a2, a3, a4, some (.inl x), a6, a7] (.inl x :: st) m := e_1 d130_116 (Or.inl rfl) rfl
theorem d130_118 : decode (mt 130).2.1 118 = .ok (.iaload, 1) := by decide +kernel
theorem s130_118 {ls : LV} {st : List AV} {m : MM} {n : Nat} {i : Int32} : go 130 118 ls (.inl i :: .inr (.inr (25, some n)) :: st) m = ixk (ix i (mN m 25 n)) (fun j => go 130 119 ls (.inl (mI m 25 n j) :: st) m) := e_ald d130_118 (fun j hj => by simp only [xi, pI, pA, hj, Option.bind_some]; rfl) (fun hj => by simp only [xi, pI, pA, hj, Option.bind_none])
theorem d130_119 : decode (mt 130).2.1 119 = .ok (.bipush (-4), 2) := by decide +kernel
theorem s130_119 {ls : LV} {st : List AV} {m : MM} : go 130 119 ls st m = go 130 121 ls (.inl (-4) :: st) m := e_1 d130_119 (Or.inl rfl) rfl
theorem d130_121 : decode (mt 130).2.1 121 = .ok (.if_icmp .ne 7, 3) := by decide +kernel
theorem s130_121 {ls : LV} {st : List AV} {m : MM} {a b : Int32} : go 130 121 ls (.inl b :: .inl a :: st) m = if ¬ a = b then go 130 128 ls st m else go 130 124 ls st m := e_if (t := 128) (b := hc .ne a b) d130_121 (Or.inl rfl) (by simp only [xi, pI, jm_some (t := 128) (show ((121 : Nat) : Int) + 7 = ((128 : Nat) : Int) by decide), Option.bind_some]) (by simp [hc])
theorem d130_124 : decode (mt 130).2.1 124 = .ok (.iconst 1, 1) := by decide +kernel
theorem s130_124 {ls : LV} {st : List AV} {m : MM} : go 130 124 ls st m = go 130 125 ls (.inl 1 :: st) m := e_1 d130_124 (Or.inl rfl) rfl
theorem d130_125 : decode (mt 130).2.1 125 = .ok (.goto 4, 3) := by decide +kernel
theorem s130_125 {ls : LV} {st : List AV} {m : MM} : go 130 125 ls st m = go 130 129 ls st m := e_1 d130_125 (Or.inl rfl) (by rw [xi, jm_some (t := 129) (by decide)]; rfl)
theorem d130_128 : decode (mt 130).2.1 128 = .ok (.iconst 0, 1) := by decide +kernel
theorem s130_128 {ls : LV} {st : List AV} {m : MM} : go 130 128 ls st m = go 130 129 ls (.inl 0 :: st) m := e_1 d130_128 (Or.inl rfl) rfl
theorem d130_129 : decode (mt 130).2.1 129 = .ok (.istore 7, 2) := by decide +kernel
theorem s130_129i {a0 a1 a2 a3 a4 a5 a7 : Option AV} {z : Int32} {st : List AV} {m : MM} {x : Int32} : go 130 129 [a0, a1, a2, a3, a4, a5, some (.inl z), a7] (.inl x :: st) m = go 130 131 [a0, a1, a2, a3, a4, a5, some (.inl z), some (.inl x)] st m := e_1 d130_129 (Or.inl rfl) rfl
theorem s130_129r {a0 a1 a2 a3 a4 a5 a7 : Option AV} {z : Nat × Option Nat} {st : List AV} {m : MM} {x : Int32} : go 130 129 [a0, a1, a2, a3, a4, a5, some (.inr (.inr z)), a7] (.inl x :: st) m = go 130 131 [a0, a1, a2, a3, a4, a5, some (.inr (.inr z)), some (.inl x)] st m := e_1 d130_129 (Or.inl rfl) rfl
theorem s130_129n {a0 a1 a2 a3 a4 a5 a7 : Option AV} {st : List AV} {m : MM} {x : Int32} : go 130 129 [a0, a1, a2, a3, a4, a5, none, a7] (.inl x :: st) m = go 130 131 [a0, a1, a2, a3, a4, a5, none, some (.inl x)] st m := e_1 d130_129 (Or.inl rfl) rfl
theorem d130_131 : decode (mt 130).2.1 131 = .ok (.iload 7, 2) := by decide +kernel
theorem s130_131 {a0 a1 a2 a3 a4 a5 a6 : Option AV} {st : List AV} {m : MM} {x : Int32} : go 130 131 [a0, a1, a2, a3, a4, a5, a6, some (.inl x)] st m = go 130 133 [a0, a1, a2, a3, a4, a5, a6, some (.inl x)] (.inl x :: st) m := e_1 d130_131 (Or.inl rfl) rfl
theorem d130_133 : decode (mt 130).2.1 133 = .ok (.ifCond .eq 14, 3) := by decide +kernel
theorem s130_133 {ls : LV} {st : List AV} {m : MM} {a : Int32} : go 130 133 ls (.inl a :: st) m = if a = 0 then go 130 147 ls st m else go 130 136 ls st m := e_if (t := 147) (b := hc .eq a 0) d130_133 (Or.inl rfl) (by simp only [xi, pI, jm_some (t := 147) (show ((133 : Nat) : Int) + 14 = ((147 : Nat) : Int) by decide), Option.bind_some]) (by simp [hc])
theorem d130_136 : decode (mt 130).2.1 136 = .ok (.aload_n 0, 1) := by decide +kernel
theorem s130_136 {a1 a2 a3 a4 a5 a6 a7 : Option AV} {st : List AV} {m : MM} {x : Nat × Option Nat} : go 130 136 [some (.inr (.inr x)), a1, a2, a3, a4, a5, a6, a7] st m = go 130 137 [some (.inr (.inr x)), a1, a2, a3, a4, a5, a6, a7] (.inr (.inr x) :: st) m := e_1 d130_136 (Or.inl rfl) rfl
theorem d130_137 : decode (mt 130).2.1 137 = .ok (.iload_n 1, 1) := by decide +kernel
theorem s130_137 {a0 a2 a3 a4 a5 a6 a7 : Option AV} {st : List AV} {m : MM} {x : Int32} : go 130 137 [a0, some (.inl x), a2, a3, a4, a5, a6, a7] st m = go 130 138 [a0, some (.inl x), a2, a3, a4, a5, a6, a7] (.inl x :: st) m := e_1 d130_137 (Or.inl rfl) rfl
theorem d130_138 : decode (mt 130).2.1 138 = .ok (.iload_n 2, 1) := by decide +kernel
theorem s130_138 {a0 a1 a3 a4 a5 a6 a7 : Option AV} {st : List AV} {m : MM} {x : Int32} : go 130 138 [a0, a1, some (.inl x), a3, a4, a5, a6, a7] st m = go 130 139 [a0, a1, some (.inl x), a3, a4, a5, a6, a7] (.inl x :: st) m := e_1 d130_138 (Or.inl rfl) rfl
theorem d130_139 : decode (mt 130).2.1 139 = .ok (.iconst 1, 1) := by decide +kernel
theorem s130_139 {ls : LV} {st : List AV} {m : MM} : go 130 139 ls st m = go 130 140 ls (.inl 1 :: st) m := e_1 d130_139 (Or.inl rfl) rfl
theorem d130_140 : decode (mt 130).2.1 140 = .ok (.iadd, 1) := by decide +kernel
theorem s130_140 {ls : LV} {st : List AV} {m : MM} {a b : Int32} : go 130 140 ls (.inl b :: .inl a :: st) m = go 130 141 ls (.inl (a + b) :: st) m := e_1 d130_140 (Or.inl rfl) rfl
theorem d130_141 : decode (mt 130).2.1 141 = .ok (.invokevirtual 122, 3) := by decide +kernel
theorem s130_141 {ls : LV} {m : MM} {x0 : Int32} {x1 : Int32} {n : Nat} : go 130 141 ls [.inl x1, .inl x0, .inr (.inr (8, some n))] m = bd (go 107 0 [some (.inr (.inr (8, some n))), some (.inl x0), some (.inl x1), none] [] m) (fun v m2 => go 130 144 ls (v.toList ++ []) m2) := e_virt (y1 := 107) (na := 2) (as := [.inl x0, .inl x1]) (rest := []) d130_141 (by decide +kernel) rfl (by decide +kernel) (show (ent [.inr (.inr (8, some n)), .inl x0, .inl x1]).length ≤ (mt 107).2.2.2.1 from Nat.le_of_ble_eq_true rfl) (cats_le (Nat.le_of_ble_eq_true rfl)) (by decide +kernel)
theorem d130_144 : decode (mt 130).2.1 144 = .ok (.goto 24, 3) := by decide +kernel
theorem s130_144 {ls : LV} {st : List AV} {m : MM} : go 130 144 ls st m = go 130 168 ls st m := e_1 d130_144 (Or.inl rfl) (by rw [xi, jm_some (t := 168) (by decide)]; rfl)
theorem d130_147 : decode (mt 130).2.1 147 = .ok (.iload 6, 2) := by decide +kernel
theorem s130_147 {a0 a1 a2 a3 a4 a5 a7 : Option AV} {st : List AV} {m : MM} {x : Int32} : go 130 147 [a0, a1, a2, a3, a4, a5, some (.inl x), a7] st m = go 130 149 [a0, a1, a2, a3, a4, a5, some (.inl x), a7] (.inl x :: st) m := e_1 d130_147 (Or.inl rfl) rfl
theorem d130_149 : decode (mt 130).2.1 149 = .ok (.ifCond .eq 19, 3) := by decide +kernel
theorem s130_149 {ls : LV} {st : List AV} {m : MM} {a : Int32} : go 130 149 ls (.inl a :: st) m = if a = 0 then go 130 168 ls st m else go 130 152 ls st m := e_if (t := 168) (b := hc .eq a 0) d130_149 (Or.inl rfl) (by simp only [xi, pI, jm_some (t := 168) (show ((149 : Nat) : Int) + 19 = ((168 : Nat) : Int) by decide), Option.bind_some]) (by simp [hc])
theorem d130_152 : decode (mt 130).2.1 152 = .ok (.iload_n 2, 1) := by decide +kernel
theorem s130_152 {a0 a1 a3 a4 a5 a6 a7 : Option AV} {st : List AV} {m : MM} {x : Int32} : go 130 152 [a0, a1, some (.inl x), a3, a4, a5, a6, a7] st m = go 130 153 [a0, a1, some (.inl x), a3, a4, a5, a6, a7] (.inl x :: st) m := e_1 d130_152 (Or.inl rfl) rfl
theorem d130_153 : decode (mt 130).2.1 153 = .ok (.bipush 8, 2) := by decide +kernel
theorem s130_153 {ls : LV} {st : List AV} {m : MM} : go 130 153 ls st m = go 130 155 ls (.inl 8 :: st) m := e_1 d130_153 (Or.inl rfl) rfl
theorem d130_155 : decode (mt 130).2.1 155 = .ok (.if_icmp .ge 13, 3) := by decide +kernel
theorem s130_155 {ls : LV} {st : List AV} {m : MM} {a b : Int32} : go 130 155 ls (.inl b :: .inl a :: st) m = if b ≤ a then go 130 168 ls st m else go 130 158 ls st m := e_if (t := 168) (b := hc .ge a b) d130_155 (Or.inl rfl) (by simp only [xi, pI, jm_some (t := 168) (show ((155 : Nat) : Int) + 13 = ((168 : Nat) : Int) by decide), Option.bind_some]) (by simp [hc])
theorem d130_158 : decode (mt 130).2.1 158 = .ok (.aload_n 0, 1) := by decide +kernel
theorem s130_158 {a1 a2 a3 a4 a5 a6 a7 : Option AV} {st : List AV} {m : MM} {x : Nat × Option Nat} : go 130 158 [some (.inr (.inr x)), a1, a2, a3, a4, a5, a6, a7] st m = go 130 159 [some (.inr (.inr x)), a1, a2, a3, a4, a5, a6, a7] (.inr (.inr x) :: st) m := e_1 d130_158 (Or.inl rfl) rfl
theorem d130_159 : decode (mt 130).2.1 159 = .ok (.getfield 26, 3) := by decide +kernel
theorem s130_159 {ls : LV} {st : List AV} {m : MM} {n : Nat} : go 130 159 ls (.inr (.inr (8, some n)) :: st) m = go 130 162 ls (.inr (.inr (23, mR m 8 n 6)) :: st) m := e_1 d130_159 (Or.inl rfl) (by rw [xi, pA, show lk fdL (mt 130).2.2.1 26 = some (8, 6) by decide +kernel]; rfl)
theorem d130_162 : decode (mt 130).2.1 162 = .ok (.iload 5, 2) := by decide +kernel
theorem s130_162 {a0 a1 a2 a3 a4 a6 a7 : Option AV} {st : List AV} {m : MM} {x : Int32} : go 130 162 [a0, a1, a2, a3, a4, some (.inl x), a6, a7] st m = go 130 164 [a0, a1, a2, a3, a4, some (.inl x), a6, a7] (.inl x :: st) m := e_1 d130_162 (Or.inl rfl) rfl
theorem d130_164 : decode (mt 130).2.1 164 = .ok (.iconst 1, 1) := by decide +kernel
theorem s130_164 {ls : LV} {st : List AV} {m : MM} : go 130 164 ls st m = go 130 165 ls (.inl 1 :: st) m := e_1 d130_164 (Or.inl rfl) rfl
theorem d130_165 : decode (mt 130).2.1 165 = .ok (.iadd, 1) := by decide +kernel
theorem s130_165 {ls : LV} {st : List AV} {m : MM} {a b : Int32} : go 130 165 ls (.inl b :: .inl a :: st) m = go 130 166 ls (.inl (a + b) :: st) m := e_1 d130_165 (Or.inl rfl) rfl
theorem d130_166 : decode (mt 130).2.1 166 = .ok (.iconst 1, 1) := by decide +kernel
theorem s130_166 {ls : LV} {st : List AV} {m : MM} : go 130 166 ls st m = go 130 167 ls (.inl 1 :: st) m := e_1 d130_166 (Or.inl rfl) rfl
theorem d130_167 : decode (mt 130).2.1 167 = .ok (.bastore, 1) := by decide +kernel
theorem s130_167b0 {ls : LV} {st : List AV} {m : MM} {n : Nat} {i : Int32} : go 130 167 ls (.inl 0 :: .inl i :: .inr (.inr (23, some n)) :: st) m = ixk (ix i (mN m 23 n)) (fun j => go 130 168 ls st (sI m 23 n j 0)) := e_ald d130_167 (fun j hj => by simp only [xi, pI, pL, pR, pA, hj, Option.bind_some]; exact if_pos (Or.inl ⟨rfl, by decide⟩)) (fun hj => by simp only [xi, pI, pL, pR, pA, hj, Option.bind_none])
theorem s130_167b1 {ls : LV} {st : List AV} {m : MM} {n : Nat} {i : Int32} : go 130 167 ls (.inl 1 :: .inl i :: .inr (.inr (23, some n)) :: st) m = ixk (ix i (mN m 23 n)) (fun j => go 130 168 ls st (sI m 23 n j 1)) := e_ald d130_167 (fun j hj => by simp only [xi, pI, pL, pR, pA, hj, Option.bind_some]; exact if_pos (Or.inl ⟨rfl, by decide⟩)) (fun hj => by simp only [xi, pI, pL, pR, pA, hj, Option.bind_none])
theorem d130_168 : decode (mt 130).2.1 168 = .ok (.return_, 1) := by decide +kernel
theorem s130_168 {ls : LV} {m : MM} : go 130 168 ls [] m = some (none, m) := e_void d130_168 (by decide +kernel)
/-! X7_comesSeek: 131 -/
theorem d131_0 : decode (mt 131).2.1 0 = .ok (.aload_n 0, 1) := by decide +kernel
theorem s131_0 {a1 a2 a3 a4 a5 : Option AV} {st : List AV} {m : MM} {x : Nat × Option Nat} : go 131 0 [some (.inr (.inr x)), a1, a2, a3, a4, a5] st m = go 131 1 [some (.inr (.inr x)), a1, a2, a3, a4, a5] (.inr (.inr x) :: st) m := e_1 d131_0 (Or.inl rfl) rfl
theorem d131_1 : decode (mt 131).2.1 1 = .ok (.iload_n 1, 1) := by decide +kernel
theorem s131_1 {a0 a2 a3 a4 a5 : Option AV} {st : List AV} {m : MM} {x : Int32} : go 131 1 [a0, some (.inl x), a2, a3, a4, a5] st m = go 131 2 [a0, some (.inl x), a2, a3, a4, a5] (.inl x :: st) m := e_1 d131_1 (Or.inl rfl) rfl
theorem d131_2 : decode (mt 131).2.1 2 = .ok (.iload 4, 2) := by decide +kernel
theorem s131_2 {a0 a1 a2 a3 a5 : Option AV} {st : List AV} {m : MM} {x : Int32} : go 131 2 [a0, a1, a2, a3, some (.inl x), a5] st m = go 131 4 [a0, a1, a2, a3, some (.inl x), a5] (.inl x :: st) m := e_1 d131_2 (Or.inl rfl) rfl
theorem d131_4 : decode (mt 131).2.1 4 = .ok (.iload_n 2, 1) := by decide +kernel
theorem s131_4 {a0 a1 a3 a4 a5 : Option AV} {st : List AV} {m : MM} {x : Int32} : go 131 4 [a0, a1, some (.inl x), a3, a4, a5] st m = go 131 5 [a0, a1, some (.inl x), a3, a4, a5] (.inl x :: st) m := e_1 d131_4 (Or.inl rfl) rfl
theorem d131_5 : decode (mt 131).2.1 5 = .ok (.iconst 1, 1) := by decide +kernel
theorem s131_5 {ls : LV} {st : List AV} {m : MM} : go 131 5 ls st m = go 131 6 ls (.inl 1 :: st) m := e_1 d131_5 (Or.inl rfl) rfl
theorem d131_6 : decode (mt 131).2.1 6 = .ok (.iadd, 1) := by decide +kernel
theorem s131_6 {ls : LV} {st : List AV} {m : MM} {a b : Int32} : go 131 6 ls (.inl b :: .inl a :: st) m = go 131 7 ls (.inl (a + b) :: st) m := e_1 d131_6 (Or.inl rfl) rfl
theorem d131_7 : decode (mt 131).2.1 7 = .ok (.invokevirtual 182, 3) := by decide +kernel
theorem s131_7 {ls : LV} {m : MM} {x0 : Int32} {x1 : Int32} {x2 : Int32} {n : Nat} : go 131 7 ls [.inl x2, .inl x1, .inl x0, .inr (.inr (8, some n))] m = bd (go 114 0 [some (.inr (.inr (8, some n))), some (.inl x0), some (.inl x1), some (.inl x2)] [] m) (fun v m2 => go 131 10 ls (v.toList ++ []) m2) := e_virt (y1 := 114) (na := 3) (as := [.inl x0, .inl x1, .inl x2]) (rest := []) d131_7 (by decide +kernel) rfl (by decide +kernel) (show (ent [.inr (.inr (8, some n)), .inl x0, .inl x1, .inl x2]).length ≤ (mt 114).2.2.2.1 from Nat.le_of_ble_eq_true rfl) (cats_le (Nat.le_of_ble_eq_true rfl)) (by decide +kernel)
theorem d131_10 : decode (mt 131).2.1 10 = .ok (.ifCond .eq 66, 3) := by decide +kernel
theorem s131_10 {ls : LV} {st : List AV} {m : MM} {a : Int32} : go 131 10 ls (.inl a :: st) m = if a = 0 then go 131 76 ls st m else go 131 13 ls st m := e_if (t := 76) (b := hc .eq a 0) d131_10 (Or.inl rfl) (by simp only [xi, pI, jm_some (t := 76) (show ((10 : Nat) : Int) + 66 = ((76 : Nat) : Int) by decide), Option.bind_some]) (by simp [hc])
theorem d131_13 : decode (mt 131).2.1 13 = .ok (.iload_n 3, 1) := by decide +kernel
theorem s131_13 {a0 a1 a2 a4 a5 : Option AV} {st : List AV} {m : MM} {x : Int32} : go 131 13 [a0, a1, a2, some (.inl x), a4, a5] st m = go 131 14 [a0, a1, a2, some (.inl x), a4, a5] (.inl x :: st) m := e_1 d131_13 (Or.inl rfl) rfl
theorem d131_14 : decode (mt 131).2.1 14 = .ok (.iconst 1, 1) := by decide +kernel
theorem s131_14 {ls : LV} {st : List AV} {m : MM} : go 131 14 ls st m = go 131 15 ls (.inl 1 :: st) m := e_1 d131_14 (Or.inl rfl) rfl
theorem d131_15 : decode (mt 131).2.1 15 = .ok (.if_icmp .ne 14, 3) := by decide +kernel
theorem s131_15 {ls : LV} {st : List AV} {m : MM} {a b : Int32} : go 131 15 ls (.inl b :: .inl a :: st) m = if ¬ a = b then go 131 29 ls st m else go 131 18 ls st m := e_if (t := 29) (b := hc .ne a b) d131_15 (Or.inl rfl) (by simp only [xi, pI, jm_some (t := 29) (show ((15 : Nat) : Int) + 14 = ((29 : Nat) : Int) by decide), Option.bind_some]) (by simp [hc])
theorem d131_18 : decode (mt 131).2.1 18 = .ok (.aload_n 0, 1) := by decide +kernel
theorem s131_18 {a1 a2 a3 a4 a5 : Option AV} {st : List AV} {m : MM} {x : Nat × Option Nat} : go 131 18 [some (.inr (.inr x)), a1, a2, a3, a4, a5] st m = go 131 19 [some (.inr (.inr x)), a1, a2, a3, a4, a5] (.inr (.inr x) :: st) m := e_1 d131_18 (Or.inl rfl) rfl
theorem d131_19 : decode (mt 131).2.1 19 = .ok (.iload_n 1, 1) := by decide +kernel
theorem s131_19 {a0 a2 a3 a4 a5 : Option AV} {st : List AV} {m : MM} {x : Int32} : go 131 19 [a0, some (.inl x), a2, a3, a4, a5] st m = go 131 20 [a0, some (.inl x), a2, a3, a4, a5] (.inl x :: st) m := e_1 d131_19 (Or.inl rfl) rfl
theorem d131_20 : decode (mt 131).2.1 20 = .ok (.iload_n 2, 1) := by decide +kernel
theorem s131_20 {a0 a1 a3 a4 a5 : Option AV} {st : List AV} {m : MM} {x : Int32} : go 131 20 [a0, a1, some (.inl x), a3, a4, a5] st m = go 131 21 [a0, a1, some (.inl x), a3, a4, a5] (.inl x :: st) m := e_1 d131_20 (Or.inl rfl) rfl
theorem d131_21 : decode (mt 131).2.1 21 = .ok (.iconst 1, 1) := by decide +kernel
theorem s131_21 {ls : LV} {st : List AV} {m : MM} : go 131 21 ls st m = go 131 22 ls (.inl 1 :: st) m := e_1 d131_21 (Or.inl rfl) rfl
theorem d131_22 : decode (mt 131).2.1 22 = .ok (.iadd, 1) := by decide +kernel
theorem s131_22 {ls : LV} {st : List AV} {m : MM} {a b : Int32} : go 131 22 ls (.inl b :: .inl a :: st) m = go 131 23 ls (.inl (a + b) :: st) m := e_1 d131_22 (Or.inl rfl) rfl
theorem d131_23 : decode (mt 131).2.1 23 = .ok (.invokevirtual 146, 3) := by decide +kernel
theorem s131_23 {ls : LV} {m : MM} {x0 : Int32} {x1 : Int32} {n : Nat} : go 131 23 ls [.inl x1, .inl x0, .inr (.inr (8, some n))] m = bd (go 112 0 [some (.inr (.inr (8, some n))), some (.inl x0), some (.inl x1)] [] m) (fun v m2 => go 131 26 ls (v.toList ++ []) m2) := e_virt (y1 := 112) (na := 2) (as := [.inl x0, .inl x1]) (rest := []) d131_23 (by decide +kernel) rfl (by decide +kernel) (show (ent [.inr (.inr (8, some n)), .inl x0, .inl x1]).length ≤ (mt 112).2.2.2.1 from Nat.le_of_ble_eq_true rfl) (cats_le (Nat.le_of_ble_eq_true rfl)) (by decide +kernel)
theorem d131_26 : decode (mt 131).2.1 26 = .ok (.goto 11, 3) := by decide +kernel
theorem s131_26 {ls : LV} {st : List AV} {m : MM} : go 131 26 ls st m = go 131 37 ls st m := e_1 d131_26 (Or.inl rfl) (by rw [xi, jm_some (t := 37) (by decide)]; rfl)
theorem d131_29 : decode (mt 131).2.1 29 = .ok (.aload_n 0, 1) := by decide +kernel
theorem s131_29 {a1 a2 a3 a4 a5 : Option AV} {st : List AV} {m : MM} {x : Nat × Option Nat} : go 131 29 [some (.inr (.inr x)), a1, a2, a3, a4, a5] st m = go 131 30 [some (.inr (.inr x)), a1, a2, a3, a4, a5] (.inr (.inr x) :: st) m := e_1 d131_29 (Or.inl rfl) rfl
theorem d131_30 : decode (mt 131).2.1 30 = .ok (.iload_n 1, 1) := by decide +kernel
theorem s131_30 {a0 a2 a3 a4 a5 : Option AV} {st : List AV} {m : MM} {x : Int32} : go 131 30 [a0, some (.inl x), a2, a3, a4, a5] st m = go 131 31 [a0, some (.inl x), a2, a3, a4, a5] (.inl x :: st) m := e_1 d131_30 (Or.inl rfl) rfl
theorem d131_31 : decode (mt 131).2.1 31 = .ok (.iload_n 2, 1) := by decide +kernel
theorem s131_31 {a0 a1 a3 a4 a5 : Option AV} {st : List AV} {m : MM} {x : Int32} : go 131 31 [a0, a1, some (.inl x), a3, a4, a5] st m = go 131 32 [a0, a1, some (.inl x), a3, a4, a5] (.inl x :: st) m := e_1 d131_31 (Or.inl rfl) rfl
theorem d131_32 : decode (mt 131).2.1 32 = .ok (.iconst 1, 1) := by decide +kernel
theorem s131_32 {ls : LV} {st : List AV} {m : MM} : go 131 32 ls st m = go 131 33 ls (.inl 1 :: st) m := e_1 d131_32 (Or.inl rfl) rfl
theorem d131_33 : decode (mt 131).2.1 33 = .ok (.iadd, 1) := by decide +kernel
theorem s131_33 {ls : LV} {st : List AV} {m : MM} {a b : Int32} : go 131 33 ls (.inl b :: .inl a :: st) m = go 131 34 ls (.inl (a + b) :: st) m := e_1 d131_33 (Or.inl rfl) rfl
theorem d131_34 : decode (mt 131).2.1 34 = .ok (.invokevirtual 143, 3) := by decide +kernel
theorem s131_34 {ls : LV} {m : MM} {x0 : Int32} {x1 : Int32} {n : Nat} : go 131 34 ls [.inl x1, .inl x0, .inr (.inr (8, some n))] m = bd (go 113 0 [some (.inr (.inr (8, some n))), some (.inl x0), some (.inl x1)] [] m) (fun v m2 => go 131 37 ls (v.toList ++ []) m2) := e_virt (y1 := 113) (na := 2) (as := [.inl x0, .inl x1]) (rest := []) d131_34 (by decide +kernel) rfl (by decide +kernel) (show (ent [.inr (.inr (8, some n)), .inl x0, .inl x1]).length ≤ (mt 113).2.2.2.1 from Nat.le_of_ble_eq_true rfl) (cats_le (Nat.le_of_ble_eq_true rfl)) (by decide +kernel)
theorem d131_37 : decode (mt 131).2.1 37 = .ok (.istore 5, 2) := by decide +kernel
theorem s131_37i {a0 a1 a2 a3 a5 : Option AV} {z : Int32} {st : List AV} {m : MM} {x : Int32} : go 131 37 [a0, a1, a2, a3, some (.inl z), a5] (.inl x :: st) m = go 131 39 [a0, a1, a2, a3, some (.inl z), some (.inl x)] st m := e_1 d131_37 (Or.inl rfl) rfl
theorem s131_37r {a0 a1 a2 a3 a5 : Option AV} {z : Nat × Option Nat} {st : List AV} {m : MM} {x : Int32} : go 131 37 [a0, a1, a2, a3, some (.inr (.inr z)), a5] (.inl x :: st) m = go 131 39 [a0, a1, a2, a3, some (.inr (.inr z)), some (.inl x)] st m := e_1 d131_37 (Or.inl rfl) rfl
theorem s131_37n {a0 a1 a2 a3 a5 : Option AV} {st : List AV} {m : MM} {x : Int32} : go 131 37 [a0, a1, a2, a3, none, a5] (.inl x :: st) m = go 131 39 [a0, a1, a2, a3, none, some (.inl x)] st m := e_1 d131_37 (Or.inl rfl) rfl
theorem d131_39 : decode (mt 131).2.1 39 = .ok (.aload_n 0, 1) := by decide +kernel
theorem s131_39 {a1 a2 a3 a4 a5 : Option AV} {st : List AV} {m : MM} {x : Nat × Option Nat} : go 131 39 [some (.inr (.inr x)), a1, a2, a3, a4, a5] st m = go 131 40 [some (.inr (.inr x)), a1, a2, a3, a4, a5] (.inr (.inr x) :: st) m := e_1 d131_39 (Or.inl rfl) rfl
theorem d131_40 : decode (mt 131).2.1 40 = .ok (.bipush 9, 2) := by decide +kernel
theorem s131_40 {ls : LV} {st : List AV} {m : MM} : go 131 40 ls st m = go 131 42 ls (.inl 9 :: st) m := e_1 d131_40 (Or.inl rfl) rfl
theorem d131_42 : decode (mt 131).2.1 42 = .ok (.iload 4, 2) := by decide +kernel
theorem s131_42 {a0 a1 a2 a3 a5 : Option AV} {st : List AV} {m : MM} {x : Int32} : go 131 42 [a0, a1, a2, a3, some (.inl x), a5] st m = go 131 44 [a0, a1, a2, a3, some (.inl x), a5] (.inl x :: st) m := e_1 d131_42 (Or.inl rfl) rfl
theorem d131_44 : decode (mt 131).2.1 44 = .ok (.bipush (-4), 2) := by decide +kernel
theorem s131_44 {ls : LV} {st : List AV} {m : MM} : go 131 44 ls st m = go 131 46 ls (.inl (-4) :: st) m := e_1 d131_44 (Or.inl rfl) rfl
theorem d131_46 : decode (mt 131).2.1 46 = .ok (.iload_n 2, 1) := by decide +kernel
theorem s131_46 {a0 a1 a3 a4 a5 : Option AV} {st : List AV} {m : MM} {x : Int32} : go 131 46 [a0, a1, some (.inl x), a3, a4, a5] st m = go 131 47 [a0, a1, some (.inl x), a3, a4, a5] (.inl x :: st) m := e_1 d131_46 (Or.inl rfl) rfl
theorem d131_47 : decode (mt 131).2.1 47 = .ok (.iconst 1, 1) := by decide +kernel
theorem s131_47 {ls : LV} {st : List AV} {m : MM} : go 131 47 ls st m = go 131 48 ls (.inl 1 :: st) m := e_1 d131_47 (Or.inl rfl) rfl
theorem d131_48 : decode (mt 131).2.1 48 = .ok (.iadd, 1) := by decide +kernel
theorem s131_48 {ls : LV} {st : List AV} {m : MM} {a b : Int32} : go 131 48 ls (.inl b :: .inl a :: st) m = go 131 49 ls (.inl (a + b) :: st) m := e_1 d131_48 (Or.inl rfl) rfl
theorem d131_49 : decode (mt 131).2.1 49 = .ok (.iconst 0, 1) := by decide +kernel
theorem s131_49 {ls : LV} {st : List AV} {m : MM} : go 131 49 ls st m = go 131 50 ls (.inl 0 :: st) m := e_1 d131_49 (Or.inl rfl) rfl
theorem d131_50 : decode (mt 131).2.1 50 = .ok (.iload_n 3, 1) := by decide +kernel
theorem s131_50 {a0 a1 a2 a4 a5 : Option AV} {st : List AV} {m : MM} {x : Int32} : go 131 50 [a0, a1, a2, some (.inl x), a4, a5] st m = go 131 51 [a0, a1, a2, some (.inl x), a4, a5] (.inl x :: st) m := e_1 d131_50 (Or.inl rfl) rfl
theorem d131_51 : decode (mt 131).2.1 51 = .ok (.iconst 1, 1) := by decide +kernel
theorem s131_51 {ls : LV} {st : List AV} {m : MM} : go 131 51 ls st m = go 131 52 ls (.inl 1 :: st) m := e_1 d131_51 (Or.inl rfl) rfl
theorem d131_52 : decode (mt 131).2.1 52 = .ok (.if_icmp .ne 8, 3) := by decide +kernel
theorem s131_52 {ls : LV} {st : List AV} {m : MM} {a b : Int32} : go 131 52 ls (.inl b :: .inl a :: st) m = if ¬ a = b then go 131 60 ls st m else go 131 55 ls st m := e_if (t := 60) (b := hc .ne a b) d131_52 (Or.inl rfl) (by simp only [xi, pI, jm_some (t := 60) (show ((52 : Nat) : Int) + 8 = ((60 : Nat) : Int) by decide), Option.bind_some]) (by simp [hc])
theorem d131_55 : decode (mt 131).2.1 55 = .ok (.iload 5, 2) := by decide +kernel
theorem s131_55 {a0 a1 a2 a3 a4 : Option AV} {st : List AV} {m : MM} {x : Int32} : go 131 55 [a0, a1, a2, a3, a4, some (.inl x)] st m = go 131 57 [a0, a1, a2, a3, a4, some (.inl x)] (.inl x :: st) m := e_1 d131_55 (Or.inl rfl) rfl
theorem d131_57 : decode (mt 131).2.1 57 = .ok (.goto 4, 3) := by decide +kernel
theorem s131_57 {ls : LV} {st : List AV} {m : MM} : go 131 57 ls st m = go 131 61 ls st m := e_1 d131_57 (Or.inl rfl) (by rw [xi, jm_some (t := 61) (by decide)]; rfl)
theorem d131_60 : decode (mt 131).2.1 60 = .ok (.iload_n 1, 1) := by decide +kernel
theorem s131_60 {a0 a2 a3 a4 a5 : Option AV} {st : List AV} {m : MM} {x : Int32} : go 131 60 [a0, some (.inl x), a2, a3, a4, a5] st m = go 131 61 [a0, some (.inl x), a2, a3, a4, a5] (.inl x :: st) m := e_1 d131_60 (Or.inl rfl) rfl
theorem d131_61 : decode (mt 131).2.1 61 = .ok (.iload_n 3, 1) := by decide +kernel
theorem s131_61 {a0 a1 a2 a4 a5 : Option AV} {st : List AV} {m : MM} {x : Int32} : go 131 61 [a0, a1, a2, some (.inl x), a4, a5] st m = go 131 62 [a0, a1, a2, some (.inl x), a4, a5] (.inl x :: st) m := e_1 d131_61 (Or.inl rfl) rfl
theorem d131_62 : decode (mt 131).2.1 62 = .ok (.iconst 1, 1) := by decide +kernel
theorem s131_62 {ls : LV} {st : List AV} {m : MM} : go 131 62 ls st m = go 131 63 ls (.inl 1 :: st) m := e_1 d131_62 (Or.inl rfl) rfl
theorem d131_63 : decode (mt 131).2.1 63 = .ok (.if_icmp .ne 7, 3) := by decide +kernel
theorem s131_63 {ls : LV} {st : List AV} {m : MM} {a b : Int32} : go 131 63 ls (.inl b :: .inl a :: st) m = if ¬ a = b then go 131 70 ls st m else go 131 66 ls st m := e_if (t := 70) (b := hc .ne a b) d131_63 (Or.inl rfl) (by simp only [xi, pI, jm_some (t := 70) (show ((63 : Nat) : Int) + 7 = ((70 : Nat) : Int) by decide), Option.bind_some]) (by simp [hc])
theorem d131_66 : decode (mt 131).2.1 66 = .ok (.iload_n 1, 1) := by decide +kernel
theorem s131_66 {a0 a2 a3 a4 a5 : Option AV} {st : List AV} {m : MM} {x : Int32} : go 131 66 [a0, some (.inl x), a2, a3, a4, a5] st m = go 131 67 [a0, some (.inl x), a2, a3, a4, a5] (.inl x :: st) m := e_1 d131_66 (Or.inl rfl) rfl
theorem d131_67 : decode (mt 131).2.1 67 = .ok (.goto 5, 3) := by decide +kernel
theorem s131_67 {ls : LV} {st : List AV} {m : MM} : go 131 67 ls st m = go 131 72 ls st m := e_1 d131_67 (Or.inl rfl) (by rw [xi, jm_some (t := 72) (by decide)]; rfl)
theorem d131_70 : decode (mt 131).2.1 70 = .ok (.iload 5, 2) := by decide +kernel
theorem s131_70 {a0 a1 a2 a3 a4 : Option AV} {st : List AV} {m : MM} {x : Int32} : go 131 70 [a0, a1, a2, a3, a4, some (.inl x)] st m = go 131 72 [a0, a1, a2, a3, a4, some (.inl x)] (.inl x :: st) m := e_1 d131_70 (Or.inl rfl) rfl
theorem d131_72 : decode (mt 131).2.1 72 = .ok (.invokevirtual 159, 3) := by decide +kernel
theorem s131_72 {ls : LV} {m : MM} {x0 : Int32} {x1 : Int32} {x2 : Int32} {x3 : Int32} {x4 : Int32} {x5 : Int32} {x6 : Int32} {n : Nat} : go 131 72 ls [.inl x6, .inl x5, .inl x4, .inl x3, .inl x2, .inl x1, .inl x0, .inr (.inr (8, some n))] m = bd (go 119 0 [some (.inr (.inr (8, some n))), some (.inl x0), some (.inl x1), some (.inl x2), some (.inl x3), some (.inl x4), some (.inl x5), some (.inl x6), none] [] m) (fun v m2 => go 131 75 ls (v.toList ++ []) m2) := e_virt (y1 := 119) (na := 7) (as := [.inl x0, .inl x1, .inl x2, .inl x3, .inl x4, .inl x5, .inl x6]) (rest := []) d131_72 (by decide +kernel) rfl (by decide +kernel) (show (ent [.inr (.inr (8, some n)), .inl x0, .inl x1, .inl x2, .inl x3, .inl x4, .inl x5, .inl x6]).length ≤ (mt 119).2.2.2.1 from Nat.le_of_ble_eq_true rfl) (cats_le (Nat.le_of_ble_eq_true rfl)) (by decide +kernel)
theorem d131_75 : decode (mt 131).2.1 75 = .ok (.return_, 1) := by decide +kernel
theorem s131_75 {ls : LV} {m : MM} : go 131 75 ls [] m = some (none, m) := e_void d131_75 (by decide +kernel)
theorem d131_76 : decode (mt 131).2.1 76 = .ok (.iload_n 3, 1) := by decide +kernel
theorem s131_76 {a0 a1 a2 a4 a5 : Option AV} {st : List AV} {m : MM} {x : Int32} : go 131 76 [a0, a1, a2, some (.inl x), a4, a5] st m = go 131 77 [a0, a1, a2, some (.inl x), a4, a5] (.inl x :: st) m := e_1 d131_76 (Or.inl rfl) rfl
theorem d131_77 : decode (mt 131).2.1 77 = .ok (.iconst 1, 1) := by decide +kernel
theorem s131_77 {ls : LV} {st : List AV} {m : MM} : go 131 77 ls st m = go 131 78 ls (.inl 1 :: st) m := e_1 d131_77 (Or.inl rfl) rfl
theorem d131_78 : decode (mt 131).2.1 78 = .ok (.if_icmp .ne 12, 3) := by decide +kernel
theorem s131_78 {ls : LV} {st : List AV} {m : MM} {a b : Int32} : go 131 78 ls (.inl b :: .inl a :: st) m = if ¬ a = b then go 131 90 ls st m else go 131 81 ls st m := e_if (t := 90) (b := hc .ne a b) d131_78 (Or.inl rfl) (by simp only [xi, pI, jm_some (t := 90) (show ((78 : Nat) : Int) + 12 = ((90 : Nat) : Int) by decide), Option.bind_some]) (by simp [hc])
theorem d131_81 : decode (mt 131).2.1 81 = .ok (.aload_n 0, 1) := by decide +kernel
theorem s131_81 {a1 a2 a3 a4 a5 : Option AV} {st : List AV} {m : MM} {x : Nat × Option Nat} : go 131 81 [some (.inr (.inr x)), a1, a2, a3, a4, a5] st m = go 131 82 [some (.inr (.inr x)), a1, a2, a3, a4, a5] (.inr (.inr x) :: st) m := e_1 d131_81 (Or.inl rfl) rfl
theorem d131_82 : decode (mt 131).2.1 82 = .ok (.iload_n 1, 1) := by decide +kernel
theorem s131_82 {a0 a2 a3 a4 a5 : Option AV} {st : List AV} {m : MM} {x : Int32} : go 131 82 [a0, some (.inl x), a2, a3, a4, a5] st m = go 131 83 [a0, some (.inl x), a2, a3, a4, a5] (.inl x :: st) m := e_1 d131_82 (Or.inl rfl) rfl
theorem d131_83 : decode (mt 131).2.1 83 = .ok (.iload_n 2, 1) := by decide +kernel
theorem s131_83 {a0 a1 a3 a4 a5 : Option AV} {st : List AV} {m : MM} {x : Int32} : go 131 83 [a0, a1, some (.inl x), a3, a4, a5] st m = go 131 84 [a0, a1, some (.inl x), a3, a4, a5] (.inl x :: st) m := e_1 d131_83 (Or.inl rfl) rfl
theorem d131_84 : decode (mt 131).2.1 84 = .ok (.invokevirtual 143, 3) := by decide +kernel
theorem s131_84 {ls : LV} {m : MM} {x0 : Int32} {x1 : Int32} {n : Nat} : go 131 84 ls [.inl x1, .inl x0, .inr (.inr (8, some n))] m = bd (go 113 0 [some (.inr (.inr (8, some n))), some (.inl x0), some (.inl x1)] [] m) (fun v m2 => go 131 87 ls (v.toList ++ []) m2) := e_virt (y1 := 113) (na := 2) (as := [.inl x0, .inl x1]) (rest := []) d131_84 (by decide +kernel) rfl (by decide +kernel) (show (ent [.inr (.inr (8, some n)), .inl x0, .inl x1]).length ≤ (mt 113).2.2.2.1 from Nat.le_of_ble_eq_true rfl) (cats_le (Nat.le_of_ble_eq_true rfl)) (by decide +kernel)
theorem d131_87 : decode (mt 131).2.1 87 = .ok (.goto 9, 3) := by decide +kernel
theorem s131_87 {ls : LV} {st : List AV} {m : MM} : go 131 87 ls st m = go 131 96 ls st m := e_1 d131_87 (Or.inl rfl) (by rw [xi, jm_some (t := 96) (by decide)]; rfl)
theorem d131_90 : decode (mt 131).2.1 90 = .ok (.aload_n 0, 1) := by decide +kernel
theorem s131_90 {a1 a2 a3 a4 a5 : Option AV} {st : List AV} {m : MM} {x : Nat × Option Nat} : go 131 90 [some (.inr (.inr x)), a1, a2, a3, a4, a5] st m = go 131 91 [some (.inr (.inr x)), a1, a2, a3, a4, a5] (.inr (.inr x) :: st) m := e_1 d131_90 (Or.inl rfl) rfl
theorem d131_91 : decode (mt 131).2.1 91 = .ok (.iload_n 1, 1) := by decide +kernel
theorem s131_91 {a0 a2 a3 a4 a5 : Option AV} {st : List AV} {m : MM} {x : Int32} : go 131 91 [a0, some (.inl x), a2, a3, a4, a5] st m = go 131 92 [a0, some (.inl x), a2, a3, a4, a5] (.inl x :: st) m := e_1 d131_91 (Or.inl rfl) rfl
theorem d131_92 : decode (mt 131).2.1 92 = .ok (.iload_n 2, 1) := by decide +kernel
theorem s131_92 {a0 a1 a3 a4 a5 : Option AV} {st : List AV} {m : MM} {x : Int32} : go 131 92 [a0, a1, some (.inl x), a3, a4, a5] st m = go 131 93 [a0, a1, some (.inl x), a3, a4, a5] (.inl x :: st) m := e_1 d131_92 (Or.inl rfl) rfl
theorem d131_93 : decode (mt 131).2.1 93 = .ok (.invokevirtual 146, 3) := by decide +kernel
theorem s131_93 {ls : LV} {m : MM} {x0 : Int32} {x1 : Int32} {n : Nat} : go 131 93 ls [.inl x1, .inl x0, .inr (.inr (8, some n))] m = bd (go 112 0 [some (.inr (.inr (8, some n))), some (.inl x0), some (.inl x1)] [] m) (fun v m2 => go 131 96 ls (v.toList ++ []) m2) := e_virt (y1 := 112) (na := 2) (as := [.inl x0, .inl x1]) (rest := []) d131_93 (by decide +kernel) rfl (by decide +kernel) (show (ent [.inr (.inr (8, some n)), .inl x0, .inl x1]).length ≤ (mt 112).2.2.2.1 from Nat.le_of_ble_eq_true rfl) (cats_le (Nat.le_of_ble_eq_true rfl)) (by decide +kernel)
theorem d131_96 : decode (mt 131).2.1 96 = .ok (.istore 5, 2) := by decide +kernel
theorem s131_96i {a0 a1 a2 a3 a5 : Option AV} {z : Int32} {st : List AV} {m : MM} {x : Int32} : go 131 96 [a0, a1, a2, a3, some (.inl z), a5] (.inl x :: st) m = go 131 98 [a0, a1, a2, a3, some (.inl z), some (.inl x)] st m := e_1 d131_96 (Or.inl rfl) rfl
theorem s131_96r {a0 a1 a2 a3 a5 : Option AV} {z : Nat × Option Nat} {st : List AV} {m : MM} {x : Int32} : go 131 96 [a0, a1, a2, a3, some (.inr (.inr z)), a5] (.inl x :: st) m = go 131 98 [a0, a1, a2, a3, some (.inr (.inr z)), some (.inl x)] st m := e_1 d131_96 (Or.inl rfl) rfl
theorem s131_96n {a0 a1 a2 a3 a5 : Option AV} {st : List AV} {m : MM} {x : Int32} : go 131 96 [a0, a1, a2, a3, none, a5] (.inl x :: st) m = go 131 98 [a0, a1, a2, a3, none, some (.inl x)] st m := e_1 d131_96 (Or.inl rfl) rfl
theorem d131_98 : decode (mt 131).2.1 98 = .ok (.iload 5, 2) := by decide +kernel
theorem s131_98 {a0 a1 a2 a3 a4 : Option AV} {st : List AV} {m : MM} {x : Int32} : go 131 98 [a0, a1, a2, a3, a4, some (.inl x)] st m = go 131 100 [a0, a1, a2, a3, a4, some (.inl x)] (.inl x :: st) m := e_1 d131_98 (Or.inl rfl) rfl
theorem d131_100 : decode (mt 131).2.1 100 = .ok (.bipush (-4), 2) := by decide +kernel
theorem s131_100 {ls : LV} {st : List AV} {m : MM} : go 131 100 ls st m = go 131 102 ls (.inl (-4) :: st) m := e_1 d131_100 (Or.inl rfl) rfl
theorem d131_102 : decode (mt 131).2.1 102 = .ok (.if_icmp .eq 22, 3) := by decide +kernel
theorem s131_102 {ls : LV} {st : List AV} {m : MM} {a b : Int32} : go 131 102 ls (.inl b :: .inl a :: st) m = if a = b then go 131 124 ls st m else go 131 105 ls st m := e_if (t := 124) (b := hc .eq a b) d131_102 (Or.inl rfl) (by simp only [xi, pI, jm_some (t := 124) (show ((102 : Nat) : Int) + 22 = ((124 : Nat) : Int) by decide), Option.bind_some]) (by simp [hc])
theorem d131_105 : decode (mt 131).2.1 105 = .ok (.aload_n 0, 1) := by decide +kernel
theorem s131_105 {a1 a2 a3 a4 a5 : Option AV} {st : List AV} {m : MM} {x : Nat × Option Nat} : go 131 105 [some (.inr (.inr x)), a1, a2, a3, a4, a5] st m = go 131 106 [some (.inr (.inr x)), a1, a2, a3, a4, a5] (.inr (.inr x) :: st) m := e_1 d131_105 (Or.inl rfl) rfl
theorem d131_106 : decode (mt 131).2.1 106 = .ok (.bipush 8, 2) := by decide +kernel
theorem s131_106 {ls : LV} {st : List AV} {m : MM} : go 131 106 ls st m = go 131 108 ls (.inl 8 :: st) m := e_1 d131_106 (Or.inl rfl) rfl
theorem d131_108 : decode (mt 131).2.1 108 = .ok (.iload 5, 2) := by decide +kernel
theorem s131_108 {a0 a1 a2 a3 a4 : Option AV} {st : List AV} {m : MM} {x : Int32} : go 131 108 [a0, a1, a2, a3, a4, some (.inl x)] st m = go 131 110 [a0, a1, a2, a3, a4, some (.inl x)] (.inl x :: st) m := e_1 d131_108 (Or.inl rfl) rfl
theorem d131_110 : decode (mt 131).2.1 110 = .ok (.bipush (-4), 2) := by decide +kernel
theorem s131_110 {ls : LV} {st : List AV} {m : MM} : go 131 110 ls st m = go 131 112 ls (.inl (-4) :: st) m := e_1 d131_110 (Or.inl rfl) rfl
theorem d131_112 : decode (mt 131).2.1 112 = .ok (.iload_n 2, 1) := by decide +kernel
theorem s131_112 {a0 a1 a3 a4 a5 : Option AV} {st : List AV} {m : MM} {x : Int32} : go 131 112 [a0, a1, some (.inl x), a3, a4, a5] st m = go 131 113 [a0, a1, some (.inl x), a3, a4, a5] (.inl x :: st) m := e_1 d131_112 (Or.inl rfl) rfl
theorem d131_113 : decode (mt 131).2.1 113 = .ok (.iload_n 3, 1) := by decide +kernel
theorem s131_113 {a0 a1 a2 a4 a5 : Option AV} {st : List AV} {m : MM} {x : Int32} : go 131 113 [a0, a1, a2, some (.inl x), a4, a5] st m = go 131 114 [a0, a1, a2, some (.inl x), a4, a5] (.inl x :: st) m := e_1 d131_113 (Or.inl rfl) rfl
theorem d131_114 : decode (mt 131).2.1 114 = .ok (.iload 4, 2) := by decide +kernel
theorem s131_114 {a0 a1 a2 a3 a5 : Option AV} {st : List AV} {m : MM} {x : Int32} : go 131 114 [a0, a1, a2, a3, some (.inl x), a5] st m = go 131 116 [a0, a1, a2, a3, some (.inl x), a5] (.inl x :: st) m := e_1 d131_114 (Or.inl rfl) rfl
theorem d131_116 : decode (mt 131).2.1 116 = .ok (.bipush (-4), 2) := by decide +kernel
theorem s131_116 {ls : LV} {st : List AV} {m : MM} : go 131 116 ls st m = go 131 118 ls (.inl (-4) :: st) m := e_1 d131_116 (Or.inl rfl) rfl
theorem d131_118 : decode (mt 131).2.1 118 = .ok (.invokevirtual 159, 3) := by decide +kernel
theorem s131_118 {ls : LV} {m : MM} {x0 : Int32} {x1 : Int32} {x2 : Int32} {x3 : Int32} {x4 : Int32} {x5 : Int32} {x6 : Int32} {n : Nat} : go 131 118 ls [.inl x6, .inl x5, .inl x4, .inl x3, .inl x2, .inl x1, .inl x0, .inr (.inr (8, some n))] m = bd (go 119 0 [some (.inr (.inr (8, some n))), some (.inl x0), some (.inl x1), some (.inl x2), some (.inl x3), some (.inl x4), some (.inl x5), some (.inl x6), none] [] m) (fun v m2 => go 131 121 ls (v.toList ++ []) m2) := e_virt (y1 := 119) (na := 7) (as := [.inl x0, .inl x1, .inl x2, .inl x3, .inl x4, .inl x5, .inl x6]) (rest := []) d131_118 (by decide +kernel) rfl (by decide +kernel) (show (ent [.inr (.inr (8, some n)), .inl x0, .inl x1, .inl x2, .inl x3, .inl x4, .inl x5, .inl x6]).length ≤ (mt 119).2.2.2.1 from Nat.le_of_ble_eq_true rfl) (cats_le (Nat.le_of_ble_eq_true rfl)) (by decide +kernel)
theorem d131_121 : decode (mt 131).2.1 121 = .ok (.goto 62, 3) := by decide +kernel
theorem s131_121 {ls : LV} {st : List AV} {m : MM} : go 131 121 ls st m = go 131 183 ls st m := e_1 d131_121 (Or.inl rfl) (by rw [xi, jm_some (t := 183) (by decide)]; rfl)
theorem d131_124 : decode (mt 131).2.1 124 = .ok (.iload_n 3, 1) := by decide +kernel
theorem s131_124 {a0 a1 a2 a4 a5 : Option AV} {st : List AV} {m : MM} {x : Int32} : go 131 124 [a0, a1, a2, some (.inl x), a4, a5] st m = go 131 125 [a0, a1, a2, some (.inl x), a4, a5] (.inl x :: st) m := e_1 d131_124 (Or.inl rfl) rfl
theorem d131_125 : decode (mt 131).2.1 125 = .ok (.iconst 1, 1) := by decide +kernel
theorem s131_125 {ls : LV} {st : List AV} {m : MM} : go 131 125 ls st m = go 131 126 ls (.inl 1 :: st) m := e_1 d131_125 (Or.inl rfl) rfl
theorem d131_126 : decode (mt 131).2.1 126 = .ok (.if_icmp .ne 39, 3) := by decide +kernel
theorem s131_126 {ls : LV} {st : List AV} {m : MM} {a b : Int32} : go 131 126 ls (.inl b :: .inl a :: st) m = if ¬ a = b then go 131 165 ls st m else go 131 129 ls st m := e_if (t := 165) (b := hc .ne a b) d131_126 (Or.inl rfl) (by simp only [xi, pI, jm_some (t := 165) (show ((126 : Nat) : Int) + 39 = ((165 : Nat) : Int) by decide), Option.bind_some]) (by simp [hc])
theorem d131_129 : decode (mt 131).2.1 129 = .ok (.aload_n 0, 1) := by decide +kernel
theorem s131_129 {a1 a2 a3 a4 a5 : Option AV} {st : List AV} {m : MM} {x : Nat × Option Nat} : go 131 129 [some (.inr (.inr x)), a1, a2, a3, a4, a5] st m = go 131 130 [some (.inr (.inr x)), a1, a2, a3, a4, a5] (.inr (.inr x) :: st) m := e_1 d131_129 (Or.inl rfl) rfl
theorem d131_130 : decode (mt 131).2.1 130 = .ok (.iload 4, 2) := by decide +kernel
theorem s131_130 {a0 a1 a2 a3 a5 : Option AV} {st : List AV} {m : MM} {x : Int32} : go 131 130 [a0, a1, a2, a3, some (.inl x), a5] st m = go 131 132 [a0, a1, a2, a3, some (.inl x), a5] (.inl x :: st) m := e_1 d131_130 (Or.inl rfl) rfl
theorem d131_132 : decode (mt 131).2.1 132 = .ok (.iload_n 2, 1) := by decide +kernel
theorem s131_132 {a0 a1 a3 a4 a5 : Option AV} {st : List AV} {m : MM} {x : Int32} : go 131 132 [a0, a1, some (.inl x), a3, a4, a5] st m = go 131 133 [a0, a1, some (.inl x), a3, a4, a5] (.inl x :: st) m := e_1 d131_132 (Or.inl rfl) rfl
theorem d131_133 : decode (mt 131).2.1 133 = .ok (.invokevirtual 146, 3) := by decide +kernel
theorem s131_133 {ls : LV} {m : MM} {x0 : Int32} {x1 : Int32} {n : Nat} : go 131 133 ls [.inl x1, .inl x0, .inr (.inr (8, some n))] m = bd (go 112 0 [some (.inr (.inr (8, some n))), some (.inl x0), some (.inl x1)] [] m) (fun v m2 => go 131 136 ls (v.toList ++ []) m2) := e_virt (y1 := 112) (na := 2) (as := [.inl x0, .inl x1]) (rest := []) d131_133 (by decide +kernel) rfl (by decide +kernel) (show (ent [.inr (.inr (8, some n)), .inl x0, .inl x1]).length ≤ (mt 112).2.2.2.1 from Nat.le_of_ble_eq_true rfl) (cats_le (Nat.le_of_ble_eq_true rfl)) (by decide +kernel)
theorem d131_136 : decode (mt 131).2.1 136 = .ok (.bipush (-4), 2) := by decide +kernel
theorem s131_136 {ls : LV} {st : List AV} {m : MM} : go 131 136 ls st m = go 131 138 ls (.inl (-4) :: st) m := e_1 d131_136 (Or.inl rfl) rfl
theorem d131_138 : decode (mt 131).2.1 138 = .ok (.if_icmp .eq 27, 3) := by decide +kernel
theorem s131_138 {ls : LV} {st : List AV} {m : MM} {a b : Int32} : go 131 138 ls (.inl b :: .inl a :: st) m = if a = b then go 131 165 ls st m else go 131 141 ls st m := e_if (t := 165) (b := hc .eq a b) d131_138 (Or.inl rfl) (by simp only [xi, pI, jm_some (t := 165) (show ((138 : Nat) : Int) + 27 = ((165 : Nat) : Int) by decide), Option.bind_some]) (by simp [hc])
theorem d131_141 : decode (mt 131).2.1 141 = .ok (.aload_n 0, 1) := by decide +kernel
theorem s131_141 {a1 a2 a3 a4 a5 : Option AV} {st : List AV} {m : MM} {x : Nat × Option Nat} : go 131 141 [some (.inr (.inr x)), a1, a2, a3, a4, a5] st m = go 131 142 [some (.inr (.inr x)), a1, a2, a3, a4, a5] (.inr (.inr x) :: st) m := e_1 d131_141 (Or.inl rfl) rfl
theorem d131_142 : decode (mt 131).2.1 142 = .ok (.bipush 8, 2) := by decide +kernel
theorem s131_142 {ls : LV} {st : List AV} {m : MM} : go 131 142 ls st m = go 131 144 ls (.inl 8 :: st) m := e_1 d131_142 (Or.inl rfl) rfl
theorem d131_144 : decode (mt 131).2.1 144 = .ok (.aload_n 0, 1) := by decide +kernel
theorem s131_144 {a1 a2 a3 a4 a5 : Option AV} {st : List AV} {m : MM} {x : Nat × Option Nat} : go 131 144 [some (.inr (.inr x)), a1, a2, a3, a4, a5] st m = go 131 145 [some (.inr (.inr x)), a1, a2, a3, a4, a5] (.inr (.inr x) :: st) m := e_1 d131_144 (Or.inl rfl) rfl
theorem d131_145 : decode (mt 131).2.1 145 = .ok (.iload 4, 2) := by decide +kernel
theorem s131_145 {a0 a1 a2 a3 a5 : Option AV} {st : List AV} {m : MM} {x : Int32} : go 131 145 [a0, a1, a2, a3, some (.inl x), a5] st m = go 131 147 [a0, a1, a2, a3, some (.inl x), a5] (.inl x :: st) m := e_1 d131_145 (Or.inl rfl) rfl
theorem d131_147 : decode (mt 131).2.1 147 = .ok (.iload_n 2, 1) := by decide +kernel
theorem s131_147 {a0 a1 a3 a4 a5 : Option AV} {st : List AV} {m : MM} {x : Int32} : go 131 147 [a0, a1, some (.inl x), a3, a4, a5] st m = go 131 148 [a0, a1, some (.inl x), a3, a4, a5] (.inl x :: st) m := e_1 d131_147 (Or.inl rfl) rfl
theorem d131_148 : decode (mt 131).2.1 148 = .ok (.invokevirtual 146, 3) := by decide +kernel
theorem s131_148 {ls : LV} {m : MM} {x0 : Int32} {x1 : Int32} {w0 w1 : AV} {n : Nat} : go 131 148 ls [.inl x1, .inl x0, .inr (.inr (8, some n)), w0, w1] m = bd (go 112 0 [some (.inr (.inr (8, some n))), some (.inl x0), some (.inl x1)] [] m) (fun v m2 => go 131 151 ls (v.toList ++ [w0, w1]) m2) := e_virt (y1 := 112) (na := 2) (as := [.inl x0, .inl x1]) (rest := [w0, w1]) d131_148 (by decide +kernel) rfl (by decide +kernel) (show (ent [.inr (.inr (8, some n)), .inl x0, .inl x1]).length ≤ (mt 112).2.2.2.1 from Nat.le_of_ble_eq_true rfl) (cats_le (Nat.le_of_ble_eq_true rfl)) (by decide +kernel)
theorem d131_151 : decode (mt 131).2.1 151 = .ok (.bipush (-4), 2) := by decide +kernel
theorem s131_151 {ls : LV} {st : List AV} {m : MM} : go 131 151 ls st m = go 131 153 ls (.inl (-4) :: st) m := e_1 d131_151 (Or.inl rfl) rfl
theorem d131_153 : decode (mt 131).2.1 153 = .ok (.iload_n 2, 1) := by decide +kernel
theorem s131_153 {a0 a1 a3 a4 a5 : Option AV} {st : List AV} {m : MM} {x : Int32} : go 131 153 [a0, a1, some (.inl x), a3, a4, a5] st m = go 131 154 [a0, a1, some (.inl x), a3, a4, a5] (.inl x :: st) m := e_1 d131_153 (Or.inl rfl) rfl
theorem d131_154 : decode (mt 131).2.1 154 = .ok (.iconst 0, 1) := by decide +kernel
theorem s131_154 {ls : LV} {st : List AV} {m : MM} : go 131 154 ls st m = go 131 155 ls (.inl 0 :: st) m := e_1 d131_154 (Or.inl rfl) rfl
theorem d131_155 : decode (mt 131).2.1 155 = .ok (.iload 4, 2) := by decide +kernel
theorem s131_155 {a0 a1 a2 a3 a5 : Option AV} {st : List AV} {m : MM} {x : Int32} : go 131 155 [a0, a1, a2, a3, some (.inl x), a5] st m = go 131 157 [a0, a1, a2, a3, some (.inl x), a5] (.inl x :: st) m := e_1 d131_155 (Or.inl rfl) rfl
theorem d131_157 : decode (mt 131).2.1 157 = .ok (.bipush (-4), 2) := by decide +kernel
theorem s131_157 {ls : LV} {st : List AV} {m : MM} : go 131 157 ls st m = go 131 159 ls (.inl (-4) :: st) m := e_1 d131_157 (Or.inl rfl) rfl
theorem d131_159 : decode (mt 131).2.1 159 = .ok (.invokevirtual 159, 3) := by decide +kernel
theorem s131_159 {ls : LV} {m : MM} {x0 : Int32} {x1 : Int32} {x2 : Int32} {x3 : Int32} {x4 : Int32} {x5 : Int32} {x6 : Int32} {n : Nat} : go 131 159 ls [.inl x6, .inl x5, .inl x4, .inl x3, .inl x2, .inl x1, .inl x0, .inr (.inr (8, some n))] m = bd (go 119 0 [some (.inr (.inr (8, some n))), some (.inl x0), some (.inl x1), some (.inl x2), some (.inl x3), some (.inl x4), some (.inl x5), some (.inl x6), none] [] m) (fun v m2 => go 131 162 ls (v.toList ++ []) m2) := e_virt (y1 := 119) (na := 7) (as := [.inl x0, .inl x1, .inl x2, .inl x3, .inl x4, .inl x5, .inl x6]) (rest := []) d131_159 (by decide +kernel) rfl (by decide +kernel) (show (ent [.inr (.inr (8, some n)), .inl x0, .inl x1, .inl x2, .inl x3, .inl x4, .inl x5, .inl x6]).length ≤ (mt 119).2.2.2.1 from Nat.le_of_ble_eq_true rfl) (cats_le (Nat.le_of_ble_eq_true rfl)) (by decide +kernel)
theorem d131_162 : decode (mt 131).2.1 162 = .ok (.goto 21, 3) := by decide +kernel
theorem s131_162 {ls : LV} {st : List AV} {m : MM} : go 131 162 ls st m = go 131 183 ls st m := e_1 d131_162 (Or.inl rfl) (by rw [xi, jm_some (t := 183) (by decide)]; rfl)
theorem d131_165 : decode (mt 131).2.1 165 = .ok (.aload_n 0, 1) := by decide +kernel
theorem s131_165 {a1 a2 a3 a4 a5 : Option AV} {st : List AV} {m : MM} {x : Nat × Option Nat} : go 131 165 [some (.inr (.inr x)), a1, a2, a3, a4, a5] st m = go 131 166 [some (.inr (.inr x)), a1, a2, a3, a4, a5] (.inr (.inr x) :: st) m := e_1 d131_165 (Or.inl rfl) rfl
theorem d131_166 : decode (mt 131).2.1 166 = .ok (.bipush 9, 2) := by decide +kernel
theorem s131_166 {ls : LV} {st : List AV} {m : MM} : go 131 166 ls st m = go 131 168 ls (.inl 9 :: st) m := e_1 d131_166 (Or.inl rfl) rfl
theorem d131_168 : decode (mt 131).2.1 168 = .ok (.iload 4, 2) := by decide +kernel
theorem s131_168 {a0 a1 a2 a3 a5 : Option AV} {st : List AV} {m : MM} {x : Int32} : go 131 168 [a0, a1, a2, a3, some (.inl x), a5] st m = go 131 170 [a0, a1, a2, a3, some (.inl x), a5] (.inl x :: st) m := e_1 d131_168 (Or.inl rfl) rfl
theorem d131_170 : decode (mt 131).2.1 170 = .ok (.bipush (-4), 2) := by decide +kernel
theorem s131_170 {ls : LV} {st : List AV} {m : MM} : go 131 170 ls st m = go 131 172 ls (.inl (-4) :: st) m := e_1 d131_170 (Or.inl rfl) rfl
theorem d131_172 : decode (mt 131).2.1 172 = .ok (.iload_n 2, 1) := by decide +kernel
theorem s131_172 {a0 a1 a3 a4 a5 : Option AV} {st : List AV} {m : MM} {x : Int32} : go 131 172 [a0, a1, some (.inl x), a3, a4, a5] st m = go 131 173 [a0, a1, some (.inl x), a3, a4, a5] (.inl x :: st) m := e_1 d131_172 (Or.inl rfl) rfl
theorem d131_173 : decode (mt 131).2.1 173 = .ok (.iconst 1, 1) := by decide +kernel
theorem s131_173 {ls : LV} {st : List AV} {m : MM} : go 131 173 ls st m = go 131 174 ls (.inl 1 :: st) m := e_1 d131_173 (Or.inl rfl) rfl
theorem d131_174 : decode (mt 131).2.1 174 = .ok (.iadd, 1) := by decide +kernel
theorem s131_174 {ls : LV} {st : List AV} {m : MM} {a b : Int32} : go 131 174 ls (.inl b :: .inl a :: st) m = go 131 175 ls (.inl (a + b) :: st) m := e_1 d131_174 (Or.inl rfl) rfl
theorem d131_175 : decode (mt 131).2.1 175 = .ok (.iconst 0, 1) := by decide +kernel
theorem s131_175 {ls : LV} {st : List AV} {m : MM} : go 131 175 ls st m = go 131 176 ls (.inl 0 :: st) m := e_1 d131_175 (Or.inl rfl) rfl
theorem d131_176 : decode (mt 131).2.1 176 = .ok (.bipush (-4), 2) := by decide +kernel
theorem s131_176 {ls : LV} {st : List AV} {m : MM} : go 131 176 ls st m = go 131 178 ls (.inl (-4) :: st) m := e_1 d131_176 (Or.inl rfl) rfl
theorem d131_178 : decode (mt 131).2.1 178 = .ok (.bipush (-4), 2) := by decide +kernel
theorem s131_178 {ls : LV} {st : List AV} {m : MM} : go 131 178 ls st m = go 131 180 ls (.inl (-4) :: st) m := e_1 d131_178 (Or.inl rfl) rfl
theorem d131_180 : decode (mt 131).2.1 180 = .ok (.invokevirtual 159, 3) := by decide +kernel
theorem s131_180 {ls : LV} {m : MM} {x0 : Int32} {x1 : Int32} {x2 : Int32} {x3 : Int32} {x4 : Int32} {x5 : Int32} {x6 : Int32} {n : Nat} : go 131 180 ls [.inl x6, .inl x5, .inl x4, .inl x3, .inl x2, .inl x1, .inl x0, .inr (.inr (8, some n))] m = bd (go 119 0 [some (.inr (.inr (8, some n))), some (.inl x0), some (.inl x1), some (.inl x2), some (.inl x3), some (.inl x4), some (.inl x5), some (.inl x6), none] [] m) (fun v m2 => go 131 183 ls (v.toList ++ []) m2) := e_virt (y1 := 119) (na := 7) (as := [.inl x0, .inl x1, .inl x2, .inl x3, .inl x4, .inl x5, .inl x6]) (rest := []) d131_180 (by decide +kernel) rfl (by decide +kernel) (show (ent [.inr (.inr (8, some n)), .inl x0, .inl x1, .inl x2, .inl x3, .inl x4, .inl x5, .inl x6]).length ≤ (mt 119).2.2.2.1 from Nat.le_of_ble_eq_true rfl) (cats_le (Nat.le_of_ble_eq_true rfl)) (by decide +kernel)
theorem d131_183 : decode (mt 131).2.1 183 = .ok (.return_, 1) := by decide +kernel
theorem s131_183 {ls : LV} {m : MM} : go 131 183 ls [] m = some (none, m) := e_void d131_183 (by decide +kernel)
/-! X7_looksOver: 132 -/
theorem d132_0 : decode (mt 132).2.1 0 = .ok (.aload_n 0, 1) := by decide +kernel
theorem s132_0 {st : List AV} {m : MM} {x : Nat × Option Nat} : go 132 0 [some (.inr (.inr x))] st m = go 132 1 [some (.inr (.inr x))] (.inr (.inr x) :: st) m := e_1 d132_0 (Or.inl rfl) rfl
theorem d132_1 : decode (mt 132).2.1 1 = .ok (.getfield 186, 3) := by decide +kernel
theorem s132_1 {ls : LV} {st : List AV} {m : MM} {n : Nat} : go 132 1 ls (.inr (.inr (8, some n)) :: st) m = go 132 4 ls (.inl (mI m 8 n 41) :: st) m := e_1 d132_1 (Or.inl rfl) (by rw [xi, pA, show lk fdL (mt 132).2.2.1 186 = some (8, 41) by decide +kernel]; rfl)
theorem d132_4 : decode (mt 132).2.1 4 = .ok (.iconst 3, 1) := by decide +kernel
theorem s132_4 {ls : LV} {st : List AV} {m : MM} : go 132 4 ls st m = go 132 5 ls (.inl 3 :: st) m := e_1 d132_4 (Or.inl rfl) rfl
theorem d132_5 : decode (mt 132).2.1 5 = .ok (.if_icmp .ne 44, 3) := by decide +kernel
theorem s132_5 {ls : LV} {st : List AV} {m : MM} {a b : Int32} : go 132 5 ls (.inl b :: .inl a :: st) m = if ¬ a = b then go 132 49 ls st m else go 132 8 ls st m := e_if (t := 49) (b := hc .ne a b) d132_5 (Or.inl rfl) (by simp only [xi, pI, jm_some (t := 49) (show ((5 : Nat) : Int) + 44 = ((49 : Nat) : Int) by decide), Option.bind_some]) (by simp [hc])
theorem d132_8 : decode (mt 132).2.1 8 = .ok (.aload_n 0, 1) := by decide +kernel
theorem s132_8 {st : List AV} {m : MM} {x : Nat × Option Nat} : go 132 8 [some (.inr (.inr x))] st m = go 132 9 [some (.inr (.inr x))] (.inr (.inr x) :: st) m := e_1 d132_8 (Or.inl rfl) rfl
theorem d132_9 : decode (mt 132).2.1 9 = .ok (.getfield 189, 3) := by decide +kernel
theorem s132_9 {ls : LV} {st : List AV} {m : MM} {n : Nat} : go 132 9 ls (.inr (.inr (8, some n)) :: st) m = go 132 12 ls (.inl (mI m 8 n 43) :: st) m := e_1 d132_9 (Or.inl rfl) (by rw [xi, pA, show lk fdL (mt 132).2.2.1 189 = some (8, 43) by decide +kernel]; rfl)
theorem d132_12 : decode (mt 132).2.1 12 = .ok (.ifCond .ne 37, 3) := by decide +kernel
theorem s132_12 {ls : LV} {st : List AV} {m : MM} {a : Int32} : go 132 12 ls (.inl a :: st) m = if ¬ a = 0 then go 132 49 ls st m else go 132 15 ls st m := e_if (t := 49) (b := hc .ne a 0) d132_12 (Or.inl rfl) (by simp only [xi, pI, jm_some (t := 49) (show ((12 : Nat) : Int) + 37 = ((49 : Nat) : Int) by decide), Option.bind_some]) (by simp [hc])
theorem d132_15 : decode (mt 132).2.1 15 = .ok (.aload_n 0, 1) := by decide +kernel
theorem s132_15 {st : List AV} {m : MM} {x : Nat × Option Nat} : go 132 15 [some (.inr (.inr x))] st m = go 132 16 [some (.inr (.inr x))] (.inr (.inr x) :: st) m := e_1 d132_15 (Or.inl rfl) rfl
theorem d132_16 : decode (mt 132).2.1 16 = .ok (.invokevirtual 193, 3) := by decide +kernel
theorem s132_16 {ls : LV} {m : MM} {n : Nat} : go 132 16 ls [.inr (.inr (8, some n))] m = bd (go 124 0 [some (.inr (.inr (8, some n))), none, none] [] m) (fun v m2 => go 132 19 ls (v.toList ++ []) m2) := e_virt (y1 := 124) (na := 0) (as := []) (rest := []) d132_16 (by decide +kernel) rfl (by decide +kernel) (show (ent [.inr (.inr (8, some n))]).length ≤ (mt 124).2.2.2.1 from Nat.le_of_ble_eq_true rfl) (cats_le (Nat.le_of_ble_eq_true rfl)) (by decide +kernel)
theorem d132_19 : decode (mt 132).2.1 19 = .ok (.ifCond .ne 30, 3) := by decide +kernel
theorem s132_19 {ls : LV} {st : List AV} {m : MM} {a : Int32} : go 132 19 ls (.inl a :: st) m = if ¬ a = 0 then go 132 49 ls st m else go 132 22 ls st m := e_if (t := 49) (b := hc .ne a 0) d132_19 (Or.inl rfl) (by simp only [xi, pI, jm_some (t := 49) (show ((19 : Nat) : Int) + 30 = ((49 : Nat) : Int) by decide), Option.bind_some]) (by simp [hc])
theorem d132_22 : decode (mt 132).2.1 22 = .ok (.aload_n 0, 1) := by decide +kernel
theorem s132_22 {st : List AV} {m : MM} {x : Nat × Option Nat} : go 132 22 [some (.inr (.inr x))] st m = go 132 23 [some (.inr (.inr x))] (.inr (.inr x) :: st) m := e_1 d132_22 (Or.inl rfl) rfl
theorem d132_23 : decode (mt 132).2.1 23 = .ok (.iconst 1, 1) := by decide +kernel
theorem s132_23 {ls : LV} {st : List AV} {m : MM} : go 132 23 ls st m = go 132 24 ls (.inl 1 :: st) m := e_1 d132_23 (Or.inl rfl) rfl
theorem d132_24 : decode (mt 132).2.1 24 = .ok (.putfield 189, 3) := by decide +kernel
theorem s132_24b0 {ls : LV} {st : List AV} {m : MM} {n : Nat} : go 132 24 ls (.inl 0 :: .inr (.inr (8, some n)) :: st) m = go 132 27 ls st (sI m 8 n 43 0) := e_put (r := 8) (f := 43) d132_24 (by decide +kernel) rfl (by decide +kernel)
theorem s132_24b1 {ls : LV} {st : List AV} {m : MM} {n : Nat} : go 132 24 ls (.inl 1 :: .inr (.inr (8, some n)) :: st) m = go 132 27 ls st (sI m 8 n 43 1) := e_put (r := 8) (f := 43) d132_24 (by decide +kernel) rfl (by decide +kernel)
theorem d132_27 : decode (mt 132).2.1 27 = .ok (.aload_n 0, 1) := by decide +kernel
theorem s132_27 {st : List AV} {m : MM} {x : Nat × Option Nat} : go 132 27 [some (.inr (.inr x))] st m = go 132 28 [some (.inr (.inr x))] (.inr (.inr x) :: st) m := e_1 d132_27 (Or.inl rfl) rfl
theorem d132_28 : decode (mt 132).2.1 28 = .ok (.getfield 17, 3) := by decide +kernel
theorem s132_28 {ls : LV} {st : List AV} {m : MM} {n : Nat} : go 132 28 ls (.inr (.inr (8, some n)) :: st) m = go 132 31 ls (.inr (.inr (20, mR m 8 n 3)) :: st) m := e_1 d132_28 (Or.inl rfl) (by rw [xi, pA, show lk fdL (mt 132).2.2.1 17 = some (8, 3) by decide +kernel]; rfl)
theorem d132_31 : decode (mt 132).2.1 31 = .ok (.aload_n 0, 1) := by decide +kernel
theorem s132_31 {st : List AV} {m : MM} {x : Nat × Option Nat} : go 132 31 [some (.inr (.inr x))] st m = go 132 32 [some (.inr (.inr x))] (.inr (.inr x) :: st) m := e_1 d132_31 (Or.inl rfl) rfl
theorem d132_32 : decode (mt 132).2.1 32 = .ok (.getfield 197, 3) := by decide +kernel
theorem s132_32 {ls : LV} {st : List AV} {m : MM} {n : Nat} : go 132 32 ls (.inr (.inr (8, some n)) :: st) m = go 132 35 ls (.inl (mI m 8 n 42) :: st) m := e_1 d132_32 (Or.inl rfl) (by rw [xi, pA, show lk fdL (mt 132).2.2.1 197 = some (8, 42) by decide +kernel]; rfl)
theorem d132_35 : decode (mt 132).2.1 35 = .ok (.aload_n 0, 1) := by decide +kernel
theorem s132_35 {st : List AV} {m : MM} {x : Nat × Option Nat} : go 132 35 [some (.inr (.inr x))] st m = go 132 36 [some (.inr (.inr x))] (.inr (.inr x) :: st) m := e_1 d132_35 (Or.inl rfl) rfl
theorem d132_36 : decode (mt 132).2.1 36 = .ok (.getfield 200, 3) := by decide +kernel
theorem s132_36 {ls : LV} {st : List AV} {m : MM} {n : Nat} : go 132 36 ls (.inr (.inr (8, some n)) :: st) m = go 132 39 ls (.inl (mI m 8 n 44) :: st) m := e_1 d132_36 (Or.inl rfl) (by rw [xi, pA, show lk fdL (mt 132).2.2.1 200 = some (8, 44) by decide +kernel]; rfl)
theorem d132_39 : decode (mt 132).2.1 39 = .ok (.iastore, 1) := by decide +kernel
theorem s132_39 {ls : LV} {st : List AV} {m : MM} {n : Nat} {i : Int32} {x : Int32} : go 132 39 ls (.inl x :: .inl i :: .inr (.inr (20, some n)) :: st) m = ixk (ix i (mN m 20 n)) (fun j => go 132 40 ls st (sI m 20 n j x)) := e_ald d132_39 (fun j hj => by simp only [xi, pI, pL, pR, pA, hj, Option.bind_some]; exact if_pos ⟨rfl, by decide⟩) (fun hj => by simp only [xi, pI, pL, pR, pA, hj, Option.bind_none])
theorem d132_40 : decode (mt 132).2.1 40 = .ok (.aload_n 0, 1) := by decide +kernel
theorem s132_40 {st : List AV} {m : MM} {x : Nat × Option Nat} : go 132 40 [some (.inr (.inr x))] st m = go 132 41 [some (.inr (.inr x))] (.inr (.inr x) :: st) m := e_1 d132_40 (Or.inl rfl) rfl
theorem d132_41 : decode (mt 132).2.1 41 = .ok (.aload_n 0, 1) := by decide +kernel
theorem s132_41 {st : List AV} {m : MM} {x : Nat × Option Nat} : go 132 41 [some (.inr (.inr x))] st m = go 132 42 [some (.inr (.inr x))] (.inr (.inr x) :: st) m := e_1 d132_41 (Or.inl rfl) rfl
theorem d132_42 : decode (mt 132).2.1 42 = .ok (.getfield 197, 3) := by decide +kernel
theorem s132_42 {ls : LV} {st : List AV} {m : MM} {n : Nat} : go 132 42 ls (.inr (.inr (8, some n)) :: st) m = go 132 45 ls (.inl (mI m 8 n 42) :: st) m := e_1 d132_42 (Or.inl rfl) (by rw [xi, pA, show lk fdL (mt 132).2.2.1 197 = some (8, 42) by decide +kernel]; rfl)
theorem d132_45 : decode (mt 132).2.1 45 = .ok (.iconst 0, 1) := by decide +kernel
theorem s132_45 {ls : LV} {st : List AV} {m : MM} : go 132 45 ls st m = go 132 46 ls (.inl 0 :: st) m := e_1 d132_45 (Or.inl rfl) rfl
theorem d132_46 : decode (mt 132).2.1 46 = .ok (.invokevirtual 173, 3) := by decide +kernel
theorem s132_46 {ls : LV} {m : MM} {x0 : Int32} {x1 : Int32} {n : Nat} : go 132 46 ls [.inl x1, .inl x0, .inr (.inr (8, some n))] m = bd (go 125 0 [some (.inr (.inr (8, some n))), some (.inl x0), some (.inl x1), none, none] [] m) (fun v m2 => go 132 49 ls (v.toList ++ []) m2) := e_virt (y1 := 125) (na := 2) (as := [.inl x0, .inl x1]) (rest := []) d132_46 (by decide +kernel) rfl (by decide +kernel) (show (ent [.inr (.inr (8, some n)), .inl x0, .inl x1]).length ≤ (mt 125).2.2.2.1 from Nat.le_of_ble_eq_true rfl) (cats_le (Nat.le_of_ble_eq_true rfl)) (by decide +kernel)
theorem d132_49 : decode (mt 132).2.1 49 = .ok (.aload_n 0, 1) := by decide +kernel
theorem s132_49 {st : List AV} {m : MM} {x : Nat × Option Nat} : go 132 49 [some (.inr (.inr x))] st m = go 132 50 [some (.inr (.inr x))] (.inr (.inr x) :: st) m := e_1 d132_49 (Or.inl rfl) rfl
theorem d132_50 : decode (mt 132).2.1 50 = .ok (.getfield 186, 3) := by decide +kernel
theorem s132_50 {ls : LV} {st : List AV} {m : MM} {n : Nat} : go 132 50 ls (.inr (.inr (8, some n)) :: st) m = go 132 53 ls (.inl (mI m 8 n 41) :: st) m := e_1 d132_50 (Or.inl rfl) (by rw [xi, pA, show lk fdL (mt 132).2.2.1 186 = some (8, 41) by decide +kernel]; rfl)
theorem d132_53 : decode (mt 132).2.1 53 = .ok (.ifCond .le 78, 3) := by decide +kernel
theorem s132_53 {ls : LV} {st : List AV} {m : MM} {a : Int32} : go 132 53 ls (.inl a :: st) m = if a ≤ 0 then go 132 131 ls st m else go 132 56 ls st m := e_if (t := 131) (b := hc .le a 0) d132_53 (Or.inl rfl) (by simp only [xi, pI, jm_some (t := 131) (show ((53 : Nat) : Int) + 78 = ((131 : Nat) : Int) by decide), Option.bind_some]) (by simp [hc])
theorem d132_56 : decode (mt 132).2.1 56 = .ok (.aload_n 0, 1) := by decide +kernel
theorem s132_56 {st : List AV} {m : MM} {x : Nat × Option Nat} : go 132 56 [some (.inr (.inr x))] st m = go 132 57 [some (.inr (.inr x))] (.inr (.inr x) :: st) m := e_1 d132_56 (Or.inl rfl) rfl
theorem d132_57 : decode (mt 132).2.1 57 = .ok (.invokevirtual 193, 3) := by decide +kernel
theorem s132_57 {ls : LV} {m : MM} {n : Nat} : go 132 57 ls [.inr (.inr (8, some n))] m = bd (go 124 0 [some (.inr (.inr (8, some n))), none, none] [] m) (fun v m2 => go 132 60 ls (v.toList ++ []) m2) := e_virt (y1 := 124) (na := 0) (as := []) (rest := []) d132_57 (by decide +kernel) rfl (by decide +kernel) (show (ent [.inr (.inr (8, some n))]).length ≤ (mt 124).2.2.2.1 from Nat.le_of_ble_eq_true rfl) (cats_le (Nat.le_of_ble_eq_true rfl)) (by decide +kernel)
theorem d132_60 : decode (mt 132).2.1 60 = .ok (.ifCond .ne 71, 3) := by decide +kernel
theorem s132_60 {ls : LV} {st : List AV} {m : MM} {a : Int32} : go 132 60 ls (.inl a :: st) m = if ¬ a = 0 then go 132 131 ls st m else go 132 63 ls st m := e_if (t := 131) (b := hc .ne a 0) d132_60 (Or.inl rfl) (by simp only [xi, pI, jm_some (t := 131) (show ((60 : Nat) : Int) + 71 = ((131 : Nat) : Int) by decide), Option.bind_some]) (by simp [hc])
theorem d132_63 : decode (mt 132).2.1 63 = .ok (.aload_n 0, 1) := by decide +kernel
theorem s132_63 {st : List AV} {m : MM} {x : Nat × Option Nat} : go 132 63 [some (.inr (.inr x))] st m = go 132 64 [some (.inr (.inr x))] (.inr (.inr x) :: st) m := e_1 d132_63 (Or.inl rfl) rfl
theorem d132_64 : decode (mt 132).2.1 64 = .ok (.getfield 186, 3) := by decide +kernel
theorem s132_64 {ls : LV} {st : List AV} {m : MM} {n : Nat} : go 132 64 ls (.inr (.inr (8, some n)) :: st) m = go 132 67 ls (.inl (mI m 8 n 41) :: st) m := e_1 d132_64 (Or.inl rfl) (by rw [xi, pA, show lk fdL (mt 132).2.2.1 186 = some (8, 41) by decide +kernel]; rfl)
theorem d132_67 : decode (mt 132).2.1 67 = .ok (.iconst 2, 1) := by decide +kernel
theorem s132_67 {ls : LV} {st : List AV} {m : MM} : go 132 67 ls st m = go 132 68 ls (.inl 2 :: st) m := e_1 d132_67 (Or.inl rfl) rfl
theorem d132_68 : decode (mt 132).2.1 68 = .ok (.if_icmp .ne 58, 3) := by decide +kernel
theorem s132_68 {ls : LV} {st : List AV} {m : MM} {a b : Int32} : go 132 68 ls (.inl b :: .inl a :: st) m = if ¬ a = b then go 132 126 ls st m else go 132 71 ls st m := e_if (t := 126) (b := hc .ne a b) d132_68 (Or.inl rfl) (by simp only [xi, pI, jm_some (t := 126) (show ((68 : Nat) : Int) + 58 = ((126 : Nat) : Int) by decide), Option.bind_some]) (by simp [hc])
theorem d132_71 : decode (mt 132).2.1 71 = .ok (.aload_n 0, 1) := by decide +kernel
theorem s132_71 {st : List AV} {m : MM} {x : Nat × Option Nat} : go 132 71 [some (.inr (.inr x))] st m = go 132 72 [some (.inr (.inr x))] (.inr (.inr x) :: st) m := e_1 d132_71 (Or.inl rfl) rfl
theorem d132_72 : decode (mt 132).2.1 72 = .ok (.getfield 36, 3) := by decide +kernel
theorem s132_72 {ls : LV} {st : List AV} {m : MM} {n : Nat} : go 132 72 ls (.inr (.inr (8, some n)) :: st) m = go 132 75 ls (.inr (.inr (26, mR m 8 n 9)) :: st) m := e_1 d132_72 (Or.inl rfl) (by rw [xi, pA, show lk fdL (mt 132).2.2.1 36 = some (8, 9) by decide +kernel]; rfl)
theorem d132_75 : decode (mt 132).2.1 75 = .ok (.aload_n 0, 1) := by decide +kernel
theorem s132_75 {st : List AV} {m : MM} {x : Nat × Option Nat} : go 132 75 [some (.inr (.inr x))] st m = go 132 76 [some (.inr (.inr x))] (.inr (.inr x) :: st) m := e_1 d132_75 (Or.inl rfl) rfl
theorem d132_76 : decode (mt 132).2.1 76 = .ok (.getfield 197, 3) := by decide +kernel
theorem s132_76 {ls : LV} {st : List AV} {m : MM} {n : Nat} : go 132 76 ls (.inr (.inr (8, some n)) :: st) m = go 132 79 ls (.inl (mI m 8 n 42) :: st) m := e_1 d132_76 (Or.inl rfl) (by rw [xi, pA, show lk fdL (mt 132).2.2.1 197 = some (8, 42) by decide +kernel]; rfl)
theorem d132_79 : decode (mt 132).2.1 79 = .ok (.aload_n 0, 1) := by decide +kernel
theorem s132_79 {st : List AV} {m : MM} {x : Nat × Option Nat} : go 132 79 [some (.inr (.inr x))] st m = go 132 80 [some (.inr (.inr x))] (.inr (.inr x) :: st) m := e_1 d132_79 (Or.inl rfl) rfl
theorem d132_80 : decode (mt 132).2.1 80 = .ok (.aload_n 0, 1) := by decide +kernel
theorem s132_80 {st : List AV} {m : MM} {x : Nat × Option Nat} : go 132 80 [some (.inr (.inr x))] st m = go 132 81 [some (.inr (.inr x))] (.inr (.inr x) :: st) m := e_1 d132_80 (Or.inl rfl) rfl
theorem d132_81 : decode (mt 132).2.1 81 = .ok (.getfield 197, 3) := by decide +kernel
theorem s132_81 {ls : LV} {st : List AV} {m : MM} {n : Nat} : go 132 81 ls (.inr (.inr (8, some n)) :: st) m = go 132 84 ls (.inl (mI m 8 n 42) :: st) m := e_1 d132_81 (Or.inl rfl) (by rw [xi, pA, show lk fdL (mt 132).2.2.1 197 = some (8, 42) by decide +kernel]; rfl)
theorem d132_84 : decode (mt 132).2.1 84 = .ok (.iconst 0, 1) := by decide +kernel
theorem s132_84 {ls : LV} {st : List AV} {m : MM} : go 132 84 ls st m = go 132 85 ls (.inl 0 :: st) m := e_1 d132_84 (Or.inl rfl) rfl
theorem d132_85 : decode (mt 132).2.1 85 = .ok (.invokevirtual 146, 3) := by decide +kernel
theorem s132_85 {ls : LV} {m : MM} {x0 : Int32} {x1 : Int32} {w0 w1 : AV} {n : Nat} : go 132 85 ls [.inl x1, .inl x0, .inr (.inr (8, some n)), w0, w1] m = bd (go 112 0 [some (.inr (.inr (8, some n))), some (.inl x0), some (.inl x1)] [] m) (fun v m2 => go 132 88 ls (v.toList ++ [w0, w1]) m2) := e_virt (y1 := 112) (na := 2) (as := [.inl x0, .inl x1]) (rest := [w0, w1]) d132_85 (by decide +kernel) rfl (by decide +kernel) (show (ent [.inr (.inr (8, some n)), .inl x0, .inl x1]).length ≤ (mt 112).2.2.2.1 from Nat.le_of_ble_eq_true rfl) (cats_le (Nat.le_of_ble_eq_true rfl)) (by decide +kernel)
theorem d132_88 : decode (mt 132).2.1 88 = .ok (.iastore, 1) := by decide +kernel
theorem s132_88 {ls : LV} {st : List AV} {m : MM} {n : Nat} {i : Int32} {x : Int32} : go 132 88 ls (.inl x :: .inl i :: .inr (.inr (26, some n)) :: st) m = ixk (ix i (mN m 26 n)) (fun j => go 132 89 ls st (sI m 26 n j x)) := e_ald d132_88 (fun j hj => by simp only [xi, pI, pL, pR, pA, hj, Option.bind_some]; exact if_pos ⟨rfl, by decide⟩) (fun hj => by simp only [xi, pI, pL, pR, pA, hj, Option.bind_none])
theorem d132_89 : decode (mt 132).2.1 89 = .ok (.aload_n 0, 1) := by decide +kernel
theorem s132_89 {st : List AV} {m : MM} {x : Nat × Option Nat} : go 132 89 [some (.inr (.inr x))] st m = go 132 90 [some (.inr (.inr x))] (.inr (.inr x) :: st) m := e_1 d132_89 (Or.inl rfl) rfl
theorem d132_90 : decode (mt 132).2.1 90 = .ok (.getfield 39, 3) := by decide +kernel
theorem s132_90 {ls : LV} {st : List AV} {m : MM} {n : Nat} : go 132 90 ls (.inr (.inr (8, some n)) :: st) m = go 132 93 ls (.inr (.inr (27, mR m 8 n 10)) :: st) m := e_1 d132_90 (Or.inl rfl) (by rw [xi, pA, show lk fdL (mt 132).2.2.1 39 = some (8, 10) by decide +kernel]; rfl)
theorem d132_93 : decode (mt 132).2.1 93 = .ok (.aload_n 0, 1) := by decide +kernel
theorem s132_93 {st : List AV} {m : MM} {x : Nat × Option Nat} : go 132 93 [some (.inr (.inr x))] st m = go 132 94 [some (.inr (.inr x))] (.inr (.inr x) :: st) m := e_1 d132_93 (Or.inl rfl) rfl
theorem d132_94 : decode (mt 132).2.1 94 = .ok (.getfield 197, 3) := by decide +kernel
theorem s132_94 {ls : LV} {st : List AV} {m : MM} {n : Nat} : go 132 94 ls (.inr (.inr (8, some n)) :: st) m = go 132 97 ls (.inl (mI m 8 n 42) :: st) m := e_1 d132_94 (Or.inl rfl) (by rw [xi, pA, show lk fdL (mt 132).2.2.1 197 = some (8, 42) by decide +kernel]; rfl)
theorem d132_97 : decode (mt 132).2.1 97 = .ok (.aload_n 0, 1) := by decide +kernel
theorem s132_97 {st : List AV} {m : MM} {x : Nat × Option Nat} : go 132 97 [some (.inr (.inr x))] st m = go 132 98 [some (.inr (.inr x))] (.inr (.inr x) :: st) m := e_1 d132_97 (Or.inl rfl) rfl
theorem d132_98 : decode (mt 132).2.1 98 = .ok (.aload_n 0, 1) := by decide +kernel
theorem s132_98 {st : List AV} {m : MM} {x : Nat × Option Nat} : go 132 98 [some (.inr (.inr x))] st m = go 132 99 [some (.inr (.inr x))] (.inr (.inr x) :: st) m := e_1 d132_98 (Or.inl rfl) rfl
theorem d132_99 : decode (mt 132).2.1 99 = .ok (.getfield 197, 3) := by decide +kernel
theorem s132_99 {ls : LV} {st : List AV} {m : MM} {n : Nat} : go 132 99 ls (.inr (.inr (8, some n)) :: st) m = go 132 102 ls (.inl (mI m 8 n 42) :: st) m := e_1 d132_99 (Or.inl rfl) (by rw [xi, pA, show lk fdL (mt 132).2.2.1 197 = some (8, 42) by decide +kernel]; rfl)
theorem d132_102 : decode (mt 132).2.1 102 = .ok (.iconst 0, 1) := by decide +kernel
theorem s132_102 {ls : LV} {st : List AV} {m : MM} : go 132 102 ls st m = go 132 103 ls (.inl 0 :: st) m := e_1 d132_102 (Or.inl rfl) rfl
theorem d132_103 : decode (mt 132).2.1 103 = .ok (.invokevirtual 143, 3) := by decide +kernel
theorem s132_103 {ls : LV} {m : MM} {x0 : Int32} {x1 : Int32} {w0 w1 : AV} {n : Nat} : go 132 103 ls [.inl x1, .inl x0, .inr (.inr (8, some n)), w0, w1] m = bd (go 113 0 [some (.inr (.inr (8, some n))), some (.inl x0), some (.inl x1)] [] m) (fun v m2 => go 132 106 ls (v.toList ++ [w0, w1]) m2) := e_virt (y1 := 113) (na := 2) (as := [.inl x0, .inl x1]) (rest := [w0, w1]) d132_103 (by decide +kernel) rfl (by decide +kernel) (show (ent [.inr (.inr (8, some n)), .inl x0, .inl x1]).length ≤ (mt 113).2.2.2.1 from Nat.le_of_ble_eq_true rfl) (cats_le (Nat.le_of_ble_eq_true rfl)) (by decide +kernel)
theorem d132_106 : decode (mt 132).2.1 106 = .ok (.iastore, 1) := by decide +kernel
theorem s132_106 {ls : LV} {st : List AV} {m : MM} {n : Nat} {i : Int32} {x : Int32} : go 132 106 ls (.inl x :: .inl i :: .inr (.inr (27, some n)) :: st) m = ixk (ix i (mN m 27 n)) (fun j => go 132 107 ls st (sI m 27 n j x)) := e_ald d132_106 (fun j hj => by simp only [xi, pI, pL, pR, pA, hj, Option.bind_some]; exact if_pos ⟨rfl, by decide⟩) (fun hj => by simp only [xi, pI, pL, pR, pA, hj, Option.bind_none])
theorem d132_107 : decode (mt 132).2.1 107 = .ok (.aload_n 0, 1) := by decide +kernel
theorem s132_107 {st : List AV} {m : MM} {x : Nat × Option Nat} : go 132 107 [some (.inr (.inr x))] st m = go 132 108 [some (.inr (.inr x))] (.inr (.inr x) :: st) m := e_1 d132_107 (Or.inl rfl) rfl
theorem d132_108 : decode (mt 132).2.1 108 = .ok (.getfield 20, 3) := by decide +kernel
theorem s132_108 {ls : LV} {st : List AV} {m : MM} {n : Nat} : go 132 108 ls (.inr (.inr (8, some n)) :: st) m = go 132 111 ls (.inr (.inr (21, mR m 8 n 4)) :: st) m := e_1 d132_108 (Or.inl rfl) (by rw [xi, pA, show lk fdL (mt 132).2.2.1 20 = some (8, 4) by decide +kernel]; rfl)
theorem d132_111 : decode (mt 132).2.1 111 = .ok (.aload_n 0, 1) := by decide +kernel
theorem s132_111 {st : List AV} {m : MM} {x : Nat × Option Nat} : go 132 111 [some (.inr (.inr x))] st m = go 132 112 [some (.inr (.inr x))] (.inr (.inr x) :: st) m := e_1 d132_111 (Or.inl rfl) rfl
theorem d132_112 : decode (mt 132).2.1 112 = .ok (.getfield 197, 3) := by decide +kernel
theorem s132_112 {ls : LV} {st : List AV} {m : MM} {n : Nat} : go 132 112 ls (.inr (.inr (8, some n)) :: st) m = go 132 115 ls (.inl (mI m 8 n 42) :: st) m := e_1 d132_112 (Or.inl rfl) (by rw [xi, pA, show lk fdL (mt 132).2.2.1 197 = some (8, 42) by decide +kernel]; rfl)
theorem d132_115 : decode (mt 132).2.1 115 = .ok (.iconst 0, 1) := by decide +kernel
theorem s132_115 {ls : LV} {st : List AV} {m : MM} : go 132 115 ls st m = go 132 116 ls (.inl 0 :: st) m := e_1 d132_115 (Or.inl rfl) rfl
theorem d132_116 : decode (mt 132).2.1 116 = .ok (.iastore, 1) := by decide +kernel
theorem s132_116 {ls : LV} {st : List AV} {m : MM} {n : Nat} {i : Int32} {x : Int32} : go 132 116 ls (.inl x :: .inl i :: .inr (.inr (21, some n)) :: st) m = ixk (ix i (mN m 21 n)) (fun j => go 132 117 ls st (sI m 21 n j x)) := e_ald d132_116 (fun j hj => by simp only [xi, pI, pL, pR, pA, hj, Option.bind_some]; exact if_pos ⟨rfl, by decide⟩) (fun hj => by simp only [xi, pI, pL, pR, pA, hj, Option.bind_none])
theorem d132_117 : decode (mt 132).2.1 117 = .ok (.aload_n 0, 1) := by decide +kernel
theorem s132_117 {st : List AV} {m : MM} {x : Nat × Option Nat} : go 132 117 [some (.inr (.inr x))] st m = go 132 118 [some (.inr (.inr x))] (.inr (.inr x) :: st) m := e_1 d132_117 (Or.inl rfl) rfl
theorem d132_118 : decode (mt 132).2.1 118 = .ok (.aload_n 0, 1) := by decide +kernel
theorem s132_118 {st : List AV} {m : MM} {x : Nat × Option Nat} : go 132 118 [some (.inr (.inr x))] st m = go 132 119 [some (.inr (.inr x))] (.inr (.inr x) :: st) m := e_1 d132_118 (Or.inl rfl) rfl
theorem d132_119 : decode (mt 132).2.1 119 = .ok (.getfield 197, 3) := by decide +kernel
theorem s132_119 {ls : LV} {st : List AV} {m : MM} {n : Nat} : go 132 119 ls (.inr (.inr (8, some n)) :: st) m = go 132 122 ls (.inl (mI m 8 n 42) :: st) m := e_1 d132_119 (Or.inl rfl) (by rw [xi, pA, show lk fdL (mt 132).2.2.1 197 = some (8, 42) by decide +kernel]; rfl)
theorem d132_122 : decode (mt 132).2.1 122 = .ok (.iconst 0, 1) := by decide +kernel
theorem s132_122 {ls : LV} {st : List AV} {m : MM} : go 132 122 ls st m = go 132 123 ls (.inl 0 :: st) m := e_1 d132_122 (Or.inl rfl) rfl
theorem d132_123 : decode (mt 132).2.1 123 = .ok (.invokevirtual 122, 3) := by decide +kernel
theorem s132_123 {ls : LV} {m : MM} {x0 : Int32} {x1 : Int32} {n : Nat} : go 132 123 ls [.inl x1, .inl x0, .inr (.inr (8, some n))] m = bd (go 107 0 [some (.inr (.inr (8, some n))), some (.inl x0), some (.inl x1), none] [] m) (fun v m2 => go 132 126 ls (v.toList ++ []) m2) := e_virt (y1 := 107) (na := 2) (as := [.inl x0, .inl x1]) (rest := []) d132_123 (by decide +kernel) rfl (by decide +kernel) (show (ent [.inr (.inr (8, some n)), .inl x0, .inl x1]).length ≤ (mt 107).2.2.2.1 from Nat.le_of_ble_eq_true rfl) (cats_le (Nat.le_of_ble_eq_true rfl)) (by decide +kernel)
theorem d132_126 : decode (mt 132).2.1 126 = .ok (.aload_n 0, 1) := by decide +kernel
theorem s132_126 {st : List AV} {m : MM} {x : Nat × Option Nat} : go 132 126 [some (.inr (.inr x))] st m = go 132 127 [some (.inr (.inr x))] (.inr (.inr x) :: st) m := e_1 d132_126 (Or.inl rfl) rfl
theorem d132_127 : decode (mt 132).2.1 127 = .ok (.iconst 0, 1) := by decide +kernel
theorem s132_127 {ls : LV} {st : List AV} {m : MM} : go 132 127 ls st m = go 132 128 ls (.inl 0 :: st) m := e_1 d132_127 (Or.inl rfl) rfl
theorem d132_128 : decode (mt 132).2.1 128 = .ok (.putfield 186, 3) := by decide +kernel
theorem s132_128 {ls : LV} {st : List AV} {m : MM} {n : Nat} {x : Int32} : go 132 128 ls (.inl x :: .inr (.inr (8, some n)) :: st) m = go 132 131 ls st (sI m 8 n 41 x) := e_put (r := 8) (f := 41) d132_128 (by decide +kernel) rfl (by decide +kernel)
theorem d132_131 : decode (mt 132).2.1 131 = .ok (.return_, 1) := by decide +kernel
theorem s132_131 {ls : LV} {m : MM} : go 132 131 ls [] m = some (none, m) := e_void d132_131 (by decide +kernel)
/-! X7_inMany: 133 -/
theorem d133_0 : decode (mt 133).2.1 0 = .ok (.iconst 0, 1) := by decide +kernel
theorem s133_0 {ls : LV} {st : List AV} {m : MM} : go 133 0 ls st m = go 133 1 ls (.inl 0 :: st) m := e_1 d133_0 (Or.inl rfl) rfl
theorem d133_1 : decode (mt 133).2.1 1 = .ok (.istore_n 1, 1) := by decide +kernel
theorem s133_1i {a1 a2 : Option AV} {z : Int32} {st : List AV} {m : MM} {x : Int32} : go 133 1 [some (.inl z), a1, a2] (.inl x :: st) m = go 133 2 [some (.inl z), some (.inl x), a2] st m := e_1 d133_1 (Or.inl rfl) rfl
theorem s133_1r {a1 a2 : Option AV} {z : Nat × Option Nat} {st : List AV} {m : MM} {x : Int32} : go 133 1 [some (.inr (.inr z)), a1, a2] (.inl x :: st) m = go 133 2 [some (.inr (.inr z)), some (.inl x), a2] st m := e_1 d133_1 (Or.inl rfl) rfl
theorem s133_1n {a1 a2 : Option AV} {st : List AV} {m : MM} {x : Int32} : go 133 1 [none, a1, a2] (.inl x :: st) m = go 133 2 [none, some (.inl x), a2] st m := e_1 d133_1 (Or.inl rfl) rfl
theorem d133_2 : decode (mt 133).2.1 2 = .ok (.iconst 0, 1) := by decide +kernel
theorem s133_2 {ls : LV} {st : List AV} {m : MM} : go 133 2 ls st m = go 133 3 ls (.inl 0 :: st) m := e_1 d133_2 (Or.inl rfl) rfl
theorem d133_3 : decode (mt 133).2.1 3 = .ok (.istore_n 2, 1) := by decide +kernel
theorem s133_3i {a0 a2 : Option AV} {z : Int32} {st : List AV} {m : MM} {x : Int32} : go 133 3 [a0, some (.inl z), a2] (.inl x :: st) m = go 133 4 [a0, some (.inl z), some (.inl x)] st m := e_1 d133_3 (Or.inl rfl) rfl
theorem s133_3r {a0 a2 : Option AV} {z : Nat × Option Nat} {st : List AV} {m : MM} {x : Int32} : go 133 3 [a0, some (.inr (.inr z)), a2] (.inl x :: st) m = go 133 4 [a0, some (.inr (.inr z)), some (.inl x)] st m := e_1 d133_3 (Or.inl rfl) rfl
theorem s133_3n {a0 a2 : Option AV} {st : List AV} {m : MM} {x : Int32} : go 133 3 [a0, none, a2] (.inl x :: st) m = go 133 4 [a0, none, some (.inl x)] st m := e_1 d133_3 (Or.inl rfl) rfl
theorem d133_4 : decode (mt 133).2.1 4 = .ok (.iload_n 2, 1) := by decide +kernel
theorem s133_4 {a0 a1 : Option AV} {st : List AV} {m : MM} {x : Int32} : go 133 4 [a0, a1, some (.inl x)] st m = go 133 5 [a0, a1, some (.inl x)] (.inl x :: st) m := e_1 d133_4 (Or.inl rfl) rfl
theorem d133_5 : decode (mt 133).2.1 5 = .ok (.aload_n 0, 1) := by decide +kernel
theorem s133_5 {a1 a2 : Option AV} {st : List AV} {m : MM} {x : Nat × Option Nat} : go 133 5 [some (.inr (.inr x)), a1, a2] st m = go 133 6 [some (.inr (.inr x)), a1, a2] (.inr (.inr x) :: st) m := e_1 d133_5 (Or.inl rfl) rfl
theorem d133_6 : decode (mt 133).2.1 6 = .ok (.getfield 115, 3) := by decide +kernel
theorem s133_6 {ls : LV} {st : List AV} {m : MM} {n : Nat} : go 133 6 ls (.inr (.inr (8, some n)) :: st) m = go 133 9 ls (.inl (mI m 8 n 0) :: st) m := e_1 d133_6 (Or.inl rfl) (by rw [xi, pA, show lk fdL (mt 133).2.2.1 115 = some (8, 0) by decide +kernel]; rfl)
theorem d133_9 : decode (mt 133).2.1 9 = .ok (.if_icmp .ge 27, 3) := by decide +kernel
theorem s133_9 {ls : LV} {st : List AV} {m : MM} {a b : Int32} : go 133 9 ls (.inl b :: .inl a :: st) m = if b ≤ a then go 133 36 ls st m else go 133 12 ls st m := e_if (t := 36) (b := hc .ge a b) d133_9 (Or.inl rfl) (by simp only [xi, pI, jm_some (t := 36) (show ((9 : Nat) : Int) + 27 = ((36 : Nat) : Int) by decide), Option.bind_some]) (by simp [hc])
theorem d133_12 : decode (mt 133).2.1 12 = .ok (.iload_n 1, 1) := by decide +kernel
theorem s133_12 {a0 a2 : Option AV} {st : List AV} {m : MM} {x : Int32} : go 133 12 [a0, some (.inl x), a2] st m = go 133 13 [a0, some (.inl x), a2] (.inl x :: st) m := e_1 d133_12 (Or.inl rfl) rfl
theorem d133_13 : decode (mt 133).2.1 13 = .ok (.aload_n 0, 1) := by decide +kernel
theorem s133_13 {a1 a2 : Option AV} {st : List AV} {m : MM} {x : Nat × Option Nat} : go 133 13 [some (.inr (.inr x)), a1, a2] st m = go 133 14 [some (.inr (.inr x)), a1, a2] (.inr (.inr x) :: st) m := e_1 d133_13 (Or.inl rfl) rfl
theorem d133_14 : decode (mt 133).2.1 14 = .ok (.getfield 20, 3) := by decide +kernel
theorem s133_14 {ls : LV} {st : List AV} {m : MM} {n : Nat} : go 133 14 ls (.inr (.inr (8, some n)) :: st) m = go 133 17 ls (.inr (.inr (21, mR m 8 n 4)) :: st) m := e_1 d133_14 (Or.inl rfl) (by rw [xi, pA, show lk fdL (mt 133).2.2.1 20 = some (8, 4) by decide +kernel]; rfl)
theorem d133_17 : decode (mt 133).2.1 17 = .ok (.iload_n 2, 1) := by decide +kernel
theorem s133_17 {a0 a1 : Option AV} {st : List AV} {m : MM} {x : Int32} : go 133 17 [a0, a1, some (.inl x)] st m = go 133 18 [a0, a1, some (.inl x)] (.inl x :: st) m := e_1 d133_17 (Or.inl rfl) rfl
theorem d133_18 : decode (mt 133).2.1 18 = .ok (.iaload, 1) := by decide +kernel
theorem s133_18 {ls : LV} {st : List AV} {m : MM} {n : Nat} {i : Int32} : go 133 18 ls (.inl i :: .inr (.inr (21, some n)) :: st) m = ixk (ix i (mN m 21 n)) (fun j => go 133 19 ls (.inl (mI m 21 n j) :: st) m) := e_ald d133_18 (fun j hj => by simp only [xi, pI, pA, hj, Option.bind_some]; rfl) (fun hj => by simp only [xi, pI, pA, hj, Option.bind_none])
theorem d133_19 : decode (mt 133).2.1 19 = .ok (.iconst 2, 1) := by decide +kernel
theorem s133_19 {ls : LV} {st : List AV} {m : MM} : go 133 19 ls st m = go 133 20 ls (.inl 2 :: st) m := e_1 d133_19 (Or.inl rfl) rfl
theorem d133_20 : decode (mt 133).2.1 20 = .ok (.if_icmp .ne 7, 3) := by decide +kernel
theorem s133_20 {ls : LV} {st : List AV} {m : MM} {a b : Int32} : go 133 20 ls (.inl b :: .inl a :: st) m = if ¬ a = b then go 133 27 ls st m else go 133 23 ls st m := e_if (t := 27) (b := hc .ne a b) d133_20 (Or.inl rfl) (by simp only [xi, pI, jm_some (t := 27) (show ((20 : Nat) : Int) + 7 = ((27 : Nat) : Int) by decide), Option.bind_some]) (by simp [hc])
theorem d133_23 : decode (mt 133).2.1 23 = .ok (.iconst 1, 1) := by decide +kernel
theorem s133_23 {ls : LV} {st : List AV} {m : MM} : go 133 23 ls st m = go 133 24 ls (.inl 1 :: st) m := e_1 d133_23 (Or.inl rfl) rfl
theorem d133_24 : decode (mt 133).2.1 24 = .ok (.goto 4, 3) := by decide +kernel
theorem s133_24 {ls : LV} {st : List AV} {m : MM} : go 133 24 ls st m = go 133 28 ls st m := e_1 d133_24 (Or.inl rfl) (by rw [xi, jm_some (t := 28) (by decide)]; rfl)
theorem d133_27 : decode (mt 133).2.1 27 = .ok (.iconst 0, 1) := by decide +kernel
theorem s133_27 {ls : LV} {st : List AV} {m : MM} : go 133 27 ls st m = go 133 28 ls (.inl 0 :: st) m := e_1 d133_27 (Or.inl rfl) rfl
theorem d133_28 : decode (mt 133).2.1 28 = .ok (.iadd, 1) := by decide +kernel
theorem s133_28 {ls : LV} {st : List AV} {m : MM} {a b : Int32} : go 133 28 ls (.inl b :: .inl a :: st) m = go 133 29 ls (.inl (a + b) :: st) m := e_1 d133_28 (Or.inl rfl) rfl
theorem d133_29 : decode (mt 133).2.1 29 = .ok (.istore_n 1, 1) := by decide +kernel
theorem s133_29i {a1 a2 : Option AV} {z : Int32} {st : List AV} {m : MM} {x : Int32} : go 133 29 [some (.inl z), a1, a2] (.inl x :: st) m = go 133 30 [some (.inl z), some (.inl x), a2] st m := e_1 d133_29 (Or.inl rfl) rfl
theorem s133_29r {a1 a2 : Option AV} {z : Nat × Option Nat} {st : List AV} {m : MM} {x : Int32} : go 133 29 [some (.inr (.inr z)), a1, a2] (.inl x :: st) m = go 133 30 [some (.inr (.inr z)), some (.inl x), a2] st m := e_1 d133_29 (Or.inl rfl) rfl
theorem s133_29n {a1 a2 : Option AV} {st : List AV} {m : MM} {x : Int32} : go 133 29 [none, a1, a2] (.inl x :: st) m = go 133 30 [none, some (.inl x), a2] st m := e_1 d133_29 (Or.inl rfl) rfl
theorem d133_30 : decode (mt 133).2.1 30 = .ok (.iinc 2 1, 3) := by decide +kernel
theorem s133_30i {a0 : Option AV} {z : Int32} {st : List AV} {m : MM} {x : Int32} : go 133 30 [a0, some (.inl z), some (.inl x)] st m = go 133 33 [a0, some (.inl z), some (.inl (x + 1))] st m := e_1 d133_30 (Or.inl rfl) rfl
theorem s133_30r {a0 : Option AV} {z : Nat × Option Nat} {st : List AV} {m : MM} {x : Int32} : go 133 30 [a0, some (.inr (.inr z)), some (.inl x)] st m = go 133 33 [a0, some (.inr (.inr z)), some (.inl (x + 1))] st m := e_1 d133_30 (Or.inl rfl) rfl
theorem s133_30n {a0 : Option AV} {st : List AV} {m : MM} {x : Int32} : go 133 30 [a0, none, some (.inl x)] st m = go 133 33 [a0, none, some (.inl (x + 1))] st m := e_1 d133_30 (Or.inl rfl) rfl
theorem d133_33 : decode (mt 133).2.1 33 = .ok (.goto (-29), 3) := by decide +kernel
theorem s133_33 {ls : LV} {st : List AV} {m : MM} : go 133 33 ls st m = go 133 4 ls st m := e_1 d133_33 (Or.inl rfl) (by rw [xi, jm_some (t := 4) (by decide)]; rfl)
theorem d133_36 : decode (mt 133).2.1 36 = .ok (.iload_n 1, 1) := by decide +kernel
theorem s133_36 {a0 a2 : Option AV} {st : List AV} {m : MM} {x : Int32} : go 133 36 [a0, some (.inl x), a2] st m = go 133 37 [a0, some (.inl x), a2] (.inl x :: st) m := e_1 d133_36 (Or.inl rfl) rfl
theorem d133_37 : decode (mt 133).2.1 37 = .ok (.ireturn, 1) := by decide +kernel
theorem s133_37 {ls : LV} {m : MM} {x : Int32} : go 133 37 ls [.inl x] m = some (some (.inl x), m) := e_int d133_37 (by decide +kernel)
/-! X7_join: 134 -/
theorem d134_0 : decode (mt 134).2.1 0 = .ok (.aload_n 0, 1) := by decide +kernel
theorem s134_0 {a1 a2 a3 : Option AV} {st : List AV} {m : MM} {x : Nat × Option Nat} : go 134 0 [some (.inr (.inr x)), a1, a2, a3] st m = go 134 1 [some (.inr (.inr x)), a1, a2, a3] (.inr (.inr x) :: st) m := e_1 d134_0 (Or.inl rfl) rfl
theorem d134_1 : decode (mt 134).2.1 1 = .ok (.iload_n 1, 1) := by decide +kernel
theorem s134_1 {a0 a2 a3 : Option AV} {st : List AV} {m : MM} {x : Int32} : go 134 1 [a0, some (.inl x), a2, a3] st m = go 134 2 [a0, some (.inl x), a2, a3] (.inl x :: st) m := e_1 d134_1 (Or.inl rfl) rfl
theorem d134_2 : decode (mt 134).2.1 2 = .ok (.invokevirtual 203, 3) := by decide +kernel
theorem s134_2 {ls : LV} {m : MM} {x0 : Int32} {n : Nat} : go 134 2 ls [.inl x0, .inr (.inr (8, some n))] m = bd (go 104 0 [some (.inr (.inr (8, some n))), some (.inl x0)] [] m) (fun v m2 => go 134 5 ls (v.toList ++ []) m2) := e_virt (y1 := 104) (na := 1) (as := [.inl x0]) (rest := []) d134_2 (by decide +kernel) rfl (by decide +kernel) (show (ent [.inr (.inr (8, some n)), .inl x0]).length ≤ (mt 104).2.2.2.1 from Nat.le_of_ble_eq_true rfl) (cats_le (Nat.le_of_ble_eq_true rfl)) (by decide +kernel)
theorem d134_5 : decode (mt 134).2.1 5 = .ok (.ifCond .eq 11, 3) := by decide +kernel
theorem s134_5 {ls : LV} {st : List AV} {m : MM} {a : Int32} : go 134 5 ls (.inl a :: st) m = if a = 0 then go 134 16 ls st m else go 134 8 ls st m := e_if (t := 16) (b := hc .eq a 0) d134_5 (Or.inl rfl) (by simp only [xi, pI, jm_some (t := 16) (show ((5 : Nat) : Int) + 11 = ((16 : Nat) : Int) by decide), Option.bind_some]) (by simp [hc])
theorem d134_8 : decode (mt 134).2.1 8 = .ok (.aload_n 0, 1) := by decide +kernel
theorem s134_8 {a1 a2 a3 : Option AV} {st : List AV} {m : MM} {x : Nat × Option Nat} : go 134 8 [some (.inr (.inr x)), a1, a2, a3] st m = go 134 9 [some (.inr (.inr x)), a1, a2, a3] (.inr (.inr x) :: st) m := e_1 d134_8 (Or.inl rfl) rfl
theorem d134_9 : decode (mt 134).2.1 9 = .ok (.iload_n 2, 1) := by decide +kernel
theorem s134_9 {a0 a1 a3 : Option AV} {st : List AV} {m : MM} {x : Int32} : go 134 9 [a0, a1, some (.inl x), a3] st m = go 134 10 [a0, a1, some (.inl x), a3] (.inl x :: st) m := e_1 d134_9 (Or.inl rfl) rfl
theorem d134_10 : decode (mt 134).2.1 10 = .ok (.invokevirtual 203, 3) := by decide +kernel
theorem s134_10 {ls : LV} {m : MM} {x0 : Int32} {n : Nat} : go 134 10 ls [.inl x0, .inr (.inr (8, some n))] m = bd (go 104 0 [some (.inr (.inr (8, some n))), some (.inl x0)] [] m) (fun v m2 => go 134 13 ls (v.toList ++ []) m2) := e_virt (y1 := 104) (na := 1) (as := [.inl x0]) (rest := []) d134_10 (by decide +kernel) rfl (by decide +kernel) (show (ent [.inr (.inr (8, some n)), .inl x0]).length ≤ (mt 104).2.2.2.1 from Nat.le_of_ble_eq_true rfl) (cats_le (Nat.le_of_ble_eq_true rfl)) (by decide +kernel)
theorem d134_13 : decode (mt 134).2.1 13 = .ok (.ifCond .ne 5, 3) := by decide +kernel
theorem s134_13 {ls : LV} {st : List AV} {m : MM} {a : Int32} : go 134 13 ls (.inl a :: st) m = if ¬ a = 0 then go 134 18 ls st m else go 134 16 ls st m := e_if (t := 18) (b := hc .ne a 0) d134_13 (Or.inl rfl) (by simp only [xi, pI, jm_some (t := 18) (show ((13 : Nat) : Int) + 5 = ((18 : Nat) : Int) by decide), Option.bind_some]) (by simp [hc])
theorem d134_16 : decode (mt 134).2.1 16 = .ok (.iconst (-1), 1) := by decide +kernel
theorem s134_16 {ls : LV} {st : List AV} {m : MM} : go 134 16 ls st m = go 134 17 ls (.inl (-1) :: st) m := e_1 d134_16 (Or.inl rfl) rfl
theorem d134_17 : decode (mt 134).2.1 17 = .ok (.ireturn, 1) := by decide +kernel
theorem s134_17 {ls : LV} {m : MM} {x : Int32} : go 134 17 ls [.inl x] m = some (some (.inl x), m) := e_int d134_17 (by decide +kernel)
theorem d134_18 : decode (mt 134).2.1 18 = .ok (.aload_n 0, 1) := by decide +kernel
theorem s134_18 {a1 a2 a3 : Option AV} {st : List AV} {m : MM} {x : Nat × Option Nat} : go 134 18 [some (.inr (.inr x)), a1, a2, a3] st m = go 134 19 [some (.inr (.inr x)), a1, a2, a3] (.inr (.inr x) :: st) m := e_1 d134_18 (Or.inl rfl) rfl
theorem d134_19 : decode (mt 134).2.1 19 = .ok (.invokevirtual 206, 3) := by decide +kernel
theorem s134_19 {ls : LV} {m : MM} {n : Nat} : go 134 19 ls [.inr (.inr (8, some n))] m = bd (go 133 0 [some (.inr (.inr (8, some n))), none, none] [] m) (fun v m2 => go 134 22 ls (v.toList ++ []) m2) := e_virt (y1 := 133) (na := 0) (as := []) (rest := []) d134_19 (by decide +kernel) rfl (by decide +kernel) (show (ent [.inr (.inr (8, some n))]).length ≤ (mt 133).2.2.2.1 from Nat.le_of_ble_eq_true rfl) (cats_le (Nat.le_of_ble_eq_true rfl)) (by decide +kernel)
theorem d134_22 : decode (mt 134).2.1 22 = .ok (.ifCond .ne 7, 3) := by decide +kernel
theorem s134_22 {ls : LV} {st : List AV} {m : MM} {a : Int32} : go 134 22 ls (.inl a :: st) m = if ¬ a = 0 then go 134 29 ls st m else go 134 25 ls st m := e_if (t := 29) (b := hc .ne a 0) d134_22 (Or.inl rfl) (by simp only [xi, pI, jm_some (t := 29) (show ((22 : Nat) : Int) + 7 = ((29 : Nat) : Int) by decide), Option.bind_some]) (by simp [hc])
theorem d134_25 : decode (mt 134).2.1 25 = .ok (.iconst 1, 1) := by decide +kernel
theorem s134_25 {ls : LV} {st : List AV} {m : MM} : go 134 25 ls st m = go 134 26 ls (.inl 1 :: st) m := e_1 d134_25 (Or.inl rfl) rfl
theorem d134_26 : decode (mt 134).2.1 26 = .ok (.goto 4, 3) := by decide +kernel
theorem s134_26 {ls : LV} {st : List AV} {m : MM} : go 134 26 ls st m = go 134 30 ls st m := e_1 d134_26 (Or.inl rfl) (by rw [xi, jm_some (t := 30) (by decide)]; rfl)
theorem d134_29 : decode (mt 134).2.1 29 = .ok (.iconst 0, 1) := by decide +kernel
theorem s134_29 {ls : LV} {st : List AV} {m : MM} : go 134 29 ls st m = go 134 30 ls (.inl 0 :: st) m := e_1 d134_29 (Or.inl rfl) rfl
theorem d134_30 : decode (mt 134).2.1 30 = .ok (.istore_n 3, 1) := by decide +kernel
theorem s134_30i {a0 a1 a3 : Option AV} {z : Int32} {st : List AV} {m : MM} {x : Int32} : go 134 30 [a0, a1, some (.inl z), a3] (.inl x :: st) m = go 134 31 [a0, a1, some (.inl z), some (.inl x)] st m := e_1 d134_30 (Or.inl rfl) rfl
theorem s134_30r {a0 a1 a3 : Option AV} {z : Nat × Option Nat} {st : List AV} {m : MM} {x : Int32} : go 134 30 [a0, a1, some (.inr (.inr z)), a3] (.inl x :: st) m = go 134 31 [a0, a1, some (.inr (.inr z)), some (.inl x)] st m := e_1 d134_30 (Or.inl rfl) rfl
theorem s134_30n {a0 a1 a3 : Option AV} {st : List AV} {m : MM} {x : Int32} : go 134 30 [a0, a1, none, a3] (.inl x :: st) m = go 134 31 [a0, a1, none, some (.inl x)] st m := e_1 d134_30 (Or.inl rfl) rfl
theorem d134_31 : decode (mt 134).2.1 31 = .ok (.aload_n 0, 1) := by decide +kernel
theorem s134_31 {a1 a2 a3 : Option AV} {st : List AV} {m : MM} {x : Nat × Option Nat} : go 134 31 [some (.inr (.inr x)), a1, a2, a3] st m = go 134 32 [some (.inr (.inr x)), a1, a2, a3] (.inr (.inr x) :: st) m := e_1 d134_31 (Or.inl rfl) rfl
theorem d134_32 : decode (mt 134).2.1 32 = .ok (.getfield 186, 3) := by decide +kernel
theorem s134_32 {ls : LV} {st : List AV} {m : MM} {n : Nat} : go 134 32 ls (.inr (.inr (8, some n)) :: st) m = go 134 35 ls (.inl (mI m 8 n 41) :: st) m := e_1 d134_32 (Or.inl rfl) (by rw [xi, pA, show lk fdL (mt 134).2.2.1 186 = some (8, 41) by decide +kernel]; rfl)
theorem d134_35 : decode (mt 134).2.1 35 = .ok (.ifCond .gt 34, 3) := by decide +kernel
theorem s134_35 {ls : LV} {st : List AV} {m : MM} {a : Int32} : go 134 35 ls (.inl a :: st) m = if 0 < a then go 134 69 ls st m else go 134 38 ls st m := e_if (t := 69) (b := hc .gt a 0) d134_35 (Or.inl rfl) (by simp only [xi, pI, jm_some (t := 69) (show ((35 : Nat) : Int) + 34 = ((69 : Nat) : Int) by decide), Option.bind_some]) (by simp [hc])
theorem d134_38 : decode (mt 134).2.1 38 = .ok (.aload_n 0, 1) := by decide +kernel
theorem s134_38 {a1 a2 a3 : Option AV} {st : List AV} {m : MM} {x : Nat × Option Nat} : go 134 38 [some (.inr (.inr x)), a1, a2, a3] st m = go 134 39 [some (.inr (.inr x)), a1, a2, a3] (.inr (.inr x) :: st) m := e_1 d134_38 (Or.inl rfl) rfl
theorem d134_39 : decode (mt 134).2.1 39 = .ok (.getfield 20, 3) := by decide +kernel
theorem s134_39 {ls : LV} {st : List AV} {m : MM} {n : Nat} : go 134 39 ls (.inr (.inr (8, some n)) :: st) m = go 134 42 ls (.inr (.inr (21, mR m 8 n 4)) :: st) m := e_1 d134_39 (Or.inl rfl) (by rw [xi, pA, show lk fdL (mt 134).2.2.1 20 = some (8, 4) by decide +kernel]; rfl)
theorem d134_42 : decode (mt 134).2.1 42 = .ok (.iload_n 1, 1) := by decide +kernel
theorem s134_42 {a0 a2 a3 : Option AV} {st : List AV} {m : MM} {x : Int32} : go 134 42 [a0, some (.inl x), a2, a3] st m = go 134 43 [a0, some (.inl x), a2, a3] (.inl x :: st) m := e_1 d134_42 (Or.inl rfl) rfl
theorem d134_43 : decode (mt 134).2.1 43 = .ok (.iaload, 1) := by decide +kernel
theorem s134_43 {ls : LV} {st : List AV} {m : MM} {n : Nat} {i : Int32} : go 134 43 ls (.inl i :: .inr (.inr (21, some n)) :: st) m = ixk (ix i (mN m 21 n)) (fun j => go 134 44 ls (.inl (mI m 21 n j) :: st) m) := e_ald d134_43 (fun j hj => by simp only [xi, pI, pA, hj, Option.bind_some]; rfl) (fun hj => by simp only [xi, pI, pA, hj, Option.bind_none])
theorem d134_44 : decode (mt 134).2.1 44 = .ok (.ifCond .ne 25, 3) := by decide +kernel
theorem s134_44 {ls : LV} {st : List AV} {m : MM} {a : Int32} : go 134 44 ls (.inl a :: st) m = if ¬ a = 0 then go 134 69 ls st m else go 134 47 ls st m := e_if (t := 69) (b := hc .ne a 0) d134_44 (Or.inl rfl) (by simp only [xi, pI, jm_some (t := 69) (show ((44 : Nat) : Int) + 25 = ((69 : Nat) : Int) by decide), Option.bind_some]) (by simp [hc])
theorem d134_47 : decode (mt 134).2.1 47 = .ok (.iload_n 3, 1) := by decide +kernel
theorem s134_47 {a0 a1 a2 : Option AV} {st : List AV} {m : MM} {x : Int32} : go 134 47 [a0, a1, a2, some (.inl x)] st m = go 134 48 [a0, a1, a2, some (.inl x)] (.inl x :: st) m := e_1 d134_47 (Or.inl rfl) rfl
theorem d134_48 : decode (mt 134).2.1 48 = .ok (.ifCond .eq 11, 3) := by decide +kernel
theorem s134_48 {ls : LV} {st : List AV} {m : MM} {a : Int32} : go 134 48 ls (.inl a :: st) m = if a = 0 then go 134 59 ls st m else go 134 51 ls st m := e_if (t := 59) (b := hc .eq a 0) d134_48 (Or.inl rfl) (by simp only [xi, pI, jm_some (t := 59) (show ((48 : Nat) : Int) + 11 = ((59 : Nat) : Int) by decide), Option.bind_some]) (by simp [hc])
theorem d134_51 : decode (mt 134).2.1 51 = .ok (.iload_n 2, 1) := by decide +kernel
theorem s134_51 {a0 a1 a3 : Option AV} {st : List AV} {m : MM} {x : Int32} : go 134 51 [a0, a1, some (.inl x), a3] st m = go 134 52 [a0, a1, some (.inl x), a3] (.inl x :: st) m := e_1 d134_51 (Or.inl rfl) rfl
theorem d134_52 : decode (mt 134).2.1 52 = .ok (.iload_n 1, 1) := by decide +kernel
theorem s134_52 {a0 a2 a3 : Option AV} {st : List AV} {m : MM} {x : Int32} : go 134 52 [a0, some (.inl x), a2, a3] st m = go 134 53 [a0, some (.inl x), a2, a3] (.inl x :: st) m := e_1 d134_52 (Or.inl rfl) rfl
theorem d134_53 : decode (mt 134).2.1 53 = .ok (.if_icmp .eq 19, 3) := by decide +kernel
theorem s134_53 {ls : LV} {st : List AV} {m : MM} {a b : Int32} : go 134 53 ls (.inl b :: .inl a :: st) m = if a = b then go 134 72 ls st m else go 134 56 ls st m := e_if (t := 72) (b := hc .eq a b) d134_53 (Or.inl rfl) (by simp only [xi, pI, jm_some (t := 72) (show ((53 : Nat) : Int) + 19 = ((72 : Nat) : Int) by decide), Option.bind_some]) (by simp [hc])
theorem d134_56 : decode (mt 134).2.1 56 = .ok (.goto 13, 3) := by decide +kernel
theorem s134_56 {ls : LV} {st : List AV} {m : MM} : go 134 56 ls st m = go 134 69 ls st m := e_1 d134_56 (Or.inl rfl) (by rw [xi, jm_some (t := 69) (by decide)]; rfl)
theorem d134_59 : decode (mt 134).2.1 59 = .ok (.aload_n 0, 1) := by decide +kernel
theorem s134_59 {a1 a2 a3 : Option AV} {st : List AV} {m : MM} {x : Nat × Option Nat} : go 134 59 [some (.inr (.inr x)), a1, a2, a3] st m = go 134 60 [some (.inr (.inr x)), a1, a2, a3] (.inr (.inr x) :: st) m := e_1 d134_59 (Or.inl rfl) rfl
theorem d134_60 : decode (mt 134).2.1 60 = .ok (.getfield 20, 3) := by decide +kernel
theorem s134_60 {ls : LV} {st : List AV} {m : MM} {n : Nat} : go 134 60 ls (.inr (.inr (8, some n)) :: st) m = go 134 63 ls (.inr (.inr (21, mR m 8 n 4)) :: st) m := e_1 d134_60 (Or.inl rfl) (by rw [xi, pA, show lk fdL (mt 134).2.2.1 20 = some (8, 4) by decide +kernel]; rfl)
theorem d134_63 : decode (mt 134).2.1 63 = .ok (.iload_n 2, 1) := by decide +kernel
theorem s134_63 {a0 a1 a3 : Option AV} {st : List AV} {m : MM} {x : Int32} : go 134 63 [a0, a1, some (.inl x), a3] st m = go 134 64 [a0, a1, some (.inl x), a3] (.inl x :: st) m := e_1 d134_63 (Or.inl rfl) rfl
theorem d134_64 : decode (mt 134).2.1 64 = .ok (.iaload, 1) := by decide +kernel
theorem s134_64 {ls : LV} {st : List AV} {m : MM} {n : Nat} {i : Int32} : go 134 64 ls (.inl i :: .inr (.inr (21, some n)) :: st) m = ixk (ix i (mN m 21 n)) (fun j => go 134 65 ls (.inl (mI m 21 n j) :: st) m) := e_ald d134_64 (fun j hj => by simp only [xi, pI, pA, hj, Option.bind_some]; rfl) (fun hj => by simp only [xi, pI, pA, hj, Option.bind_none])
theorem d134_65 : decode (mt 134).2.1 65 = .ok (.iconst 2, 1) := by decide +kernel
theorem s134_65 {ls : LV} {st : List AV} {m : MM} : go 134 65 ls st m = go 134 66 ls (.inl 2 :: st) m := e_1 d134_65 (Or.inl rfl) rfl
theorem d134_66 : decode (mt 134).2.1 66 = .ok (.if_icmp .eq 6, 3) := by decide +kernel
theorem s134_66 {ls : LV} {st : List AV} {m : MM} {a b : Int32} : go 134 66 ls (.inl b :: .inl a :: st) m = if a = b then go 134 72 ls st m else go 134 69 ls st m := e_if (t := 72) (b := hc .eq a b) d134_66 (Or.inl rfl) (by simp only [xi, pI, jm_some (t := 72) (show ((66 : Nat) : Int) + 6 = ((72 : Nat) : Int) by decide), Option.bind_some]) (by simp [hc])
theorem d134_69 : decode (mt 134).2.1 69 = .ok (.bipush (-2), 2) := by decide +kernel
theorem s134_69 {ls : LV} {st : List AV} {m : MM} : go 134 69 ls st m = go 134 71 ls (.inl (-2) :: st) m := e_1 d134_69 (Or.inl rfl) rfl
theorem d134_71 : decode (mt 134).2.1 71 = .ok (.ireturn, 1) := by decide +kernel
theorem s134_71 {ls : LV} {m : MM} {x : Int32} : go 134 71 ls [.inl x] m = some (some (.inl x), m) := e_int d134_71 (by decide +kernel)
theorem d134_72 : decode (mt 134).2.1 72 = .ok (.iload_n 3, 1) := by decide +kernel
theorem s134_72 {a0 a1 a2 : Option AV} {st : List AV} {m : MM} {x : Int32} : go 134 72 [a0, a1, a2, some (.inl x)] st m = go 134 73 [a0, a1, a2, some (.inl x)] (.inl x :: st) m := e_1 d134_72 (Or.inl rfl) rfl
theorem d134_73 : decode (mt 134).2.1 73 = .ok (.ifCond .eq 35, 3) := by decide +kernel
theorem s134_73 {ls : LV} {st : List AV} {m : MM} {a : Int32} : go 134 73 ls (.inl a :: st) m = if a = 0 then go 134 108 ls st m else go 134 76 ls st m := e_if (t := 108) (b := hc .eq a 0) d134_73 (Or.inl rfl) (by simp only [xi, pI, jm_some (t := 108) (show ((73 : Nat) : Int) + 35 = ((108 : Nat) : Int) by decide), Option.bind_some]) (by simp [hc])
theorem d134_76 : decode (mt 134).2.1 76 = .ok (.aload_n 0, 1) := by decide +kernel
theorem s134_76 {a1 a2 a3 : Option AV} {st : List AV} {m : MM} {x : Nat × Option Nat} : go 134 76 [some (.inr (.inr x)), a1, a2, a3] st m = go 134 77 [some (.inr (.inr x)), a1, a2, a3] (.inr (.inr x) :: st) m := e_1 d134_76 (Or.inl rfl) rfl
theorem d134_77 : decode (mt 134).2.1 77 = .ok (.getfield 20, 3) := by decide +kernel
theorem s134_77 {ls : LV} {st : List AV} {m : MM} {n : Nat} : go 134 77 ls (.inr (.inr (8, some n)) :: st) m = go 134 80 ls (.inr (.inr (21, mR m 8 n 4)) :: st) m := e_1 d134_77 (Or.inl rfl) (by rw [xi, pA, show lk fdL (mt 134).2.2.1 20 = some (8, 4) by decide +kernel]; rfl)
theorem d134_80 : decode (mt 134).2.1 80 = .ok (.iload_n 1, 1) := by decide +kernel
theorem s134_80 {a0 a2 a3 : Option AV} {st : List AV} {m : MM} {x : Int32} : go 134 80 [a0, some (.inl x), a2, a3] st m = go 134 81 [a0, some (.inl x), a2, a3] (.inl x :: st) m := e_1 d134_80 (Or.inl rfl) rfl
theorem d134_81 : decode (mt 134).2.1 81 = .ok (.iconst 2, 1) := by decide +kernel
theorem s134_81 {ls : LV} {st : List AV} {m : MM} : go 134 81 ls st m = go 134 82 ls (.inl 2 :: st) m := e_1 d134_81 (Or.inl rfl) rfl
theorem d134_82 : decode (mt 134).2.1 82 = .ok (.iastore, 1) := by decide +kernel
theorem s134_82 {ls : LV} {st : List AV} {m : MM} {n : Nat} {i : Int32} {x : Int32} : go 134 82 ls (.inl x :: .inl i :: .inr (.inr (21, some n)) :: st) m = ixk (ix i (mN m 21 n)) (fun j => go 134 83 ls st (sI m 21 n j x)) := e_ald d134_82 (fun j hj => by simp only [xi, pI, pL, pR, pA, hj, Option.bind_some]; exact if_pos ⟨rfl, by decide⟩) (fun hj => by simp only [xi, pI, pL, pR, pA, hj, Option.bind_none])
theorem d134_83 : decode (mt 134).2.1 83 = .ok (.aload_n 0, 1) := by decide +kernel
theorem s134_83 {a1 a2 a3 : Option AV} {st : List AV} {m : MM} {x : Nat × Option Nat} : go 134 83 [some (.inr (.inr x)), a1, a2, a3] st m = go 134 84 [some (.inr (.inr x)), a1, a2, a3] (.inr (.inr x) :: st) m := e_1 d134_83 (Or.inl rfl) rfl
theorem d134_84 : decode (mt 134).2.1 84 = .ok (.iload_n 1, 1) := by decide +kernel
theorem s134_84 {a0 a2 a3 : Option AV} {st : List AV} {m : MM} {x : Int32} : go 134 84 [a0, some (.inl x), a2, a3] st m = go 134 85 [a0, some (.inl x), a2, a3] (.inl x :: st) m := e_1 d134_84 (Or.inl rfl) rfl
theorem d134_85 : decode (mt 134).2.1 85 = .ok (.iconst 0, 1) := by decide +kernel
theorem s134_85 {ls : LV} {st : List AV} {m : MM} : go 134 85 ls st m = go 134 86 ls (.inl 0 :: st) m := e_1 d134_85 (Or.inl rfl) rfl
theorem d134_86 : decode (mt 134).2.1 86 = .ok (.invokevirtual 122, 3) := by decide +kernel
theorem s134_86 {ls : LV} {m : MM} {x0 : Int32} {x1 : Int32} {n : Nat} : go 134 86 ls [.inl x1, .inl x0, .inr (.inr (8, some n))] m = bd (go 107 0 [some (.inr (.inr (8, some n))), some (.inl x0), some (.inl x1), none] [] m) (fun v m2 => go 134 89 ls (v.toList ++ []) m2) := e_virt (y1 := 107) (na := 2) (as := [.inl x0, .inl x1]) (rest := []) d134_86 (by decide +kernel) rfl (by decide +kernel) (show (ent [.inr (.inr (8, some n)), .inl x0, .inl x1]).length ≤ (mt 107).2.2.2.1 from Nat.le_of_ble_eq_true rfl) (cats_le (Nat.le_of_ble_eq_true rfl)) (by decide +kernel)
theorem d134_89 : decode (mt 134).2.1 89 = .ok (.aload_n 0, 1) := by decide +kernel
theorem s134_89 {a1 a2 a3 : Option AV} {st : List AV} {m : MM} {x : Nat × Option Nat} : go 134 89 [some (.inr (.inr x)), a1, a2, a3] st m = go 134 90 [some (.inr (.inr x)), a1, a2, a3] (.inr (.inr x) :: st) m := e_1 d134_89 (Or.inl rfl) rfl
theorem d134_90 : decode (mt 134).2.1 90 = .ok (.iload_n 1, 1) := by decide +kernel
theorem s134_90 {a0 a2 a3 : Option AV} {st : List AV} {m : MM} {x : Int32} : go 134 90 [a0, some (.inl x), a2, a3] st m = go 134 91 [a0, some (.inl x), a2, a3] (.inl x :: st) m := e_1 d134_90 (Or.inl rfl) rfl
theorem d134_91 : decode (mt 134).2.1 91 = .ok (.iconst 0, 1) := by decide +kernel
theorem s134_91 {ls : LV} {st : List AV} {m : MM} : go 134 91 ls st m = go 134 92 ls (.inl 0 :: st) m := e_1 d134_91 (Or.inl rfl) rfl
theorem d134_92 : decode (mt 134).2.1 92 = .ok (.bipush (-4), 2) := by decide +kernel
theorem s134_92 {ls : LV} {st : List AV} {m : MM} : go 134 92 ls st m = go 134 94 ls (.inl (-4) :: st) m := e_1 d134_92 (Or.inl rfl) rfl
theorem d134_94 : decode (mt 134).2.1 94 = .ok (.bipush (-4), 2) := by decide +kernel
theorem s134_94 {ls : LV} {st : List AV} {m : MM} : go 134 94 ls st m = go 134 96 ls (.inl (-4) :: st) m := e_1 d134_94 (Or.inl rfl) rfl
theorem d134_96 : decode (mt 134).2.1 96 = .ok (.invokevirtual 209, 3) := by decide +kernel
theorem s134_96 {ls : LV} {m : MM} {x0 : Int32} {x1 : Int32} {x2 : Int32} {x3 : Int32} {n : Nat} : go 134 96 ls [.inl x3, .inl x2, .inl x1, .inl x0, .inr (.inr (8, some n))] m = bd (go 108 0 [some (.inr (.inr (8, some n))), some (.inl x0), some (.inl x1), some (.inl x2), some (.inl x3)] [] m) (fun v m2 => go 134 99 ls (v.toList ++ []) m2) := e_virt (y1 := 108) (na := 4) (as := [.inl x0, .inl x1, .inl x2, .inl x3]) (rest := []) d134_96 (by decide +kernel) rfl (by decide +kernel) (show (ent [.inr (.inr (8, some n)), .inl x0, .inl x1, .inl x2, .inl x3]).length ≤ (mt 108).2.2.2.1 from Nat.le_of_ble_eq_true rfl) (cats_le (Nat.le_of_ble_eq_true rfl)) (by decide +kernel)
theorem d134_99 : decode (mt 134).2.1 99 = .ok (.aload_n 0, 1) := by decide +kernel
theorem s134_99 {a1 a2 a3 : Option AV} {st : List AV} {m : MM} {x : Nat × Option Nat} : go 134 99 [some (.inr (.inr x)), a1, a2, a3] st m = go 134 100 [some (.inr (.inr x)), a1, a2, a3] (.inr (.inr x) :: st) m := e_1 d134_99 (Or.inl rfl) rfl
theorem d134_100 : decode (mt 134).2.1 100 = .ok (.getfield 42, 3) := by decide +kernel
theorem s134_100 {ls : LV} {st : List AV} {m : MM} {n : Nat} : go 134 100 ls (.inr (.inr (8, some n)) :: st) m = go 134 103 ls (.inr (.inr (28, mR m 8 n 11)) :: st) m := e_1 d134_100 (Or.inl rfl) (by rw [xi, pA, show lk fdL (mt 134).2.2.1 42 = some (8, 11) by decide +kernel]; rfl)
theorem d134_103 : decode (mt 134).2.1 103 = .ok (.iload_n 1, 1) := by decide +kernel
theorem s134_103 {a0 a2 a3 : Option AV} {st : List AV} {m : MM} {x : Int32} : go 134 103 [a0, some (.inl x), a2, a3] st m = go 134 104 [a0, some (.inl x), a2, a3] (.inl x :: st) m := e_1 d134_103 (Or.inl rfl) rfl
theorem d134_104 : decode (mt 134).2.1 104 = .ok (.iconst 0, 1) := by decide +kernel
theorem s134_104 {ls : LV} {st : List AV} {m : MM} : go 134 104 ls st m = go 134 105 ls (.inl 0 :: st) m := e_1 d134_104 (Or.inl rfl) rfl
theorem d134_105 : decode (mt 134).2.1 105 = .ok (.iastore, 1) := by decide +kernel
theorem s134_105 {ls : LV} {st : List AV} {m : MM} {n : Nat} {i : Int32} {x : Int32} : go 134 105 ls (.inl x :: .inl i :: .inr (.inr (28, some n)) :: st) m = ixk (ix i (mN m 28 n)) (fun j => go 134 106 ls st (sI m 28 n j x)) := e_ald d134_105 (fun j hj => by simp only [xi, pI, pL, pR, pA, hj, Option.bind_some]; exact if_pos ⟨rfl, by decide⟩) (fun hj => by simp only [xi, pI, pL, pR, pA, hj, Option.bind_none])
theorem d134_106 : decode (mt 134).2.1 106 = .ok (.iconst 1, 1) := by decide +kernel
theorem s134_106 {ls : LV} {st : List AV} {m : MM} : go 134 106 ls st m = go 134 107 ls (.inl 1 :: st) m := e_1 d134_106 (Or.inl rfl) rfl
theorem d134_107 : decode (mt 134).2.1 107 = .ok (.ireturn, 1) := by decide +kernel
theorem s134_107 {ls : LV} {m : MM} {x : Int32} : go 134 107 ls [.inl x] m = some (some (.inl x), m) := e_int d134_107 (by decide +kernel)
theorem d134_108 : decode (mt 134).2.1 108 = .ok (.aload_n 0, 1) := by decide +kernel
theorem s134_108 {a1 a2 a3 : Option AV} {st : List AV} {m : MM} {x : Nat × Option Nat} : go 134 108 [some (.inr (.inr x)), a1, a2, a3] st m = go 134 109 [some (.inr (.inr x)), a1, a2, a3] (.inr (.inr x) :: st) m := e_1 d134_108 (Or.inl rfl) rfl
theorem d134_109 : decode (mt 134).2.1 109 = .ok (.iconst 1, 1) := by decide +kernel
theorem s134_109 {ls : LV} {st : List AV} {m : MM} : go 134 109 ls st m = go 134 110 ls (.inl 1 :: st) m := e_1 d134_109 (Or.inl rfl) rfl
theorem d134_110 : decode (mt 134).2.1 110 = .ok (.putfield 186, 3) := by decide +kernel
theorem s134_110 {ls : LV} {st : List AV} {m : MM} {n : Nat} {x : Int32} : go 134 110 ls (.inl x :: .inr (.inr (8, some n)) :: st) m = go 134 113 ls st (sI m 8 n 41 x) := e_put (r := 8) (f := 41) d134_110 (by decide +kernel) rfl (by decide +kernel)
theorem d134_113 : decode (mt 134).2.1 113 = .ok (.aload_n 0, 1) := by decide +kernel
theorem s134_113 {a1 a2 a3 : Option AV} {st : List AV} {m : MM} {x : Nat × Option Nat} : go 134 113 [some (.inr (.inr x)), a1, a2, a3] st m = go 134 114 [some (.inr (.inr x)), a1, a2, a3] (.inr (.inr x) :: st) m := e_1 d134_113 (Or.inl rfl) rfl
theorem d134_114 : decode (mt 134).2.1 114 = .ok (.iload_n 1, 1) := by decide +kernel
theorem s134_114 {a0 a2 a3 : Option AV} {st : List AV} {m : MM} {x : Int32} : go 134 114 [a0, some (.inl x), a2, a3] st m = go 134 115 [a0, some (.inl x), a2, a3] (.inl x :: st) m := e_1 d134_114 (Or.inl rfl) rfl
theorem d134_115 : decode (mt 134).2.1 115 = .ok (.putfield 197, 3) := by decide +kernel
theorem s134_115 {ls : LV} {st : List AV} {m : MM} {n : Nat} {x : Int32} : go 134 115 ls (.inl x :: .inr (.inr (8, some n)) :: st) m = go 134 118 ls st (sI m 8 n 42 x) := e_put (r := 8) (f := 42) d134_115 (by decide +kernel) rfl (by decide +kernel)
theorem d134_118 : decode (mt 134).2.1 118 = .ok (.aload_n 0, 1) := by decide +kernel
theorem s134_118 {a1 a2 a3 : Option AV} {st : List AV} {m : MM} {x : Nat × Option Nat} : go 134 118 [some (.inr (.inr x)), a1, a2, a3] st m = go 134 119 [some (.inr (.inr x)), a1, a2, a3] (.inr (.inr x) :: st) m := e_1 d134_118 (Or.inl rfl) rfl
theorem d134_119 : decode (mt 134).2.1 119 = .ok (.getfield 20, 3) := by decide +kernel
theorem s134_119 {ls : LV} {st : List AV} {m : MM} {n : Nat} : go 134 119 ls (.inr (.inr (8, some n)) :: st) m = go 134 122 ls (.inr (.inr (21, mR m 8 n 4)) :: st) m := e_1 d134_119 (Or.inl rfl) (by rw [xi, pA, show lk fdL (mt 134).2.2.1 20 = some (8, 4) by decide +kernel]; rfl)
theorem d134_122 : decode (mt 134).2.1 122 = .ok (.iload_n 1, 1) := by decide +kernel
theorem s134_122 {a0 a2 a3 : Option AV} {st : List AV} {m : MM} {x : Int32} : go 134 122 [a0, some (.inl x), a2, a3] st m = go 134 123 [a0, some (.inl x), a2, a3] (.inl x :: st) m := e_1 d134_122 (Or.inl rfl) rfl
theorem d134_123 : decode (mt 134).2.1 123 = .ok (.iconst 1, 1) := by decide +kernel
theorem s134_123 {ls : LV} {st : List AV} {m : MM} : go 134 123 ls st m = go 134 124 ls (.inl 1 :: st) m := e_1 d134_123 (Or.inl rfl) rfl
theorem d134_124 : decode (mt 134).2.1 124 = .ok (.iastore, 1) := by decide +kernel
theorem s134_124 {ls : LV} {st : List AV} {m : MM} {n : Nat} {i : Int32} {x : Int32} : go 134 124 ls (.inl x :: .inl i :: .inr (.inr (21, some n)) :: st) m = ixk (ix i (mN m 21 n)) (fun j => go 134 125 ls st (sI m 21 n j x)) := e_ald d134_124 (fun j hj => by simp only [xi, pI, pL, pR, pA, hj, Option.bind_some]; exact if_pos ⟨rfl, by decide⟩) (fun hj => by simp only [xi, pI, pL, pR, pA, hj, Option.bind_none])
theorem d134_125 : decode (mt 134).2.1 125 = .ok (.aload_n 0, 1) := by decide +kernel
theorem s134_125 {a1 a2 a3 : Option AV} {st : List AV} {m : MM} {x : Nat × Option Nat} : go 134 125 [some (.inr (.inr x)), a1, a2, a3] st m = go 134 126 [some (.inr (.inr x)), a1, a2, a3] (.inr (.inr x) :: st) m := e_1 d134_125 (Or.inl rfl) rfl
theorem d134_126 : decode (mt 134).2.1 126 = .ok (.iconst 5, 1) := by decide +kernel
theorem s134_126 {ls : LV} {st : List AV} {m : MM} : go 134 126 ls st m = go 134 127 ls (.inl 5 :: st) m := e_1 d134_126 (Or.inl rfl) rfl
theorem d134_127 : decode (mt 134).2.1 127 = .ok (.iload_n 2, 1) := by decide +kernel
theorem s134_127 {a0 a1 a3 : Option AV} {st : List AV} {m : MM} {x : Int32} : go 134 127 [a0, a1, some (.inl x), a3] st m = go 134 128 [a0, a1, some (.inl x), a3] (.inl x :: st) m := e_1 d134_127 (Or.inl rfl) rfl
theorem d134_128 : decode (mt 134).2.1 128 = .ok (.bipush (-4), 2) := by decide +kernel
theorem s134_128 {ls : LV} {st : List AV} {m : MM} : go 134 128 ls st m = go 134 130 ls (.inl (-4) :: st) m := e_1 d134_128 (Or.inl rfl) rfl
theorem d134_130 : decode (mt 134).2.1 130 = .ok (.bipush (-4), 2) := by decide +kernel
theorem s134_130 {ls : LV} {st : List AV} {m : MM} : go 134 130 ls st m = go 134 132 ls (.inl (-4) :: st) m := e_1 d134_130 (Or.inl rfl) rfl
theorem d134_132 : decode (mt 134).2.1 132 = .ok (.iconst 0, 1) := by decide +kernel
theorem s134_132 {ls : LV} {st : List AV} {m : MM} : go 134 132 ls st m = go 134 133 ls (.inl 0 :: st) m := e_1 d134_132 (Or.inl rfl) rfl
theorem d134_133 : decode (mt 134).2.1 133 = .ok (.iload_n 1, 1) := by decide +kernel
theorem s134_133 {a0 a2 a3 : Option AV} {st : List AV} {m : MM} {x : Int32} : go 134 133 [a0, some (.inl x), a2, a3] st m = go 134 134 [a0, some (.inl x), a2, a3] (.inl x :: st) m := e_1 d134_133 (Or.inl rfl) rfl
theorem d134_134 : decode (mt 134).2.1 134 = .ok (.bipush (-4), 2) := by decide +kernel
theorem s134_134 {ls : LV} {st : List AV} {m : MM} : go 134 134 ls st m = go 134 136 ls (.inl (-4) :: st) m := e_1 d134_134 (Or.inl rfl) rfl
theorem d134_136 : decode (mt 134).2.1 136 = .ok (.invokevirtual 159, 3) := by decide +kernel
theorem s134_136 {ls : LV} {m : MM} {x0 : Int32} {x1 : Int32} {x2 : Int32} {x3 : Int32} {x4 : Int32} {x5 : Int32} {x6 : Int32} {n : Nat} : go 134 136 ls [.inl x6, .inl x5, .inl x4, .inl x3, .inl x2, .inl x1, .inl x0, .inr (.inr (8, some n))] m = bd (go 119 0 [some (.inr (.inr (8, some n))), some (.inl x0), some (.inl x1), some (.inl x2), some (.inl x3), some (.inl x4), some (.inl x5), some (.inl x6), none] [] m) (fun v m2 => go 134 139 ls (v.toList ++ []) m2) := e_virt (y1 := 119) (na := 7) (as := [.inl x0, .inl x1, .inl x2, .inl x3, .inl x4, .inl x5, .inl x6]) (rest := []) d134_136 (by decide +kernel) rfl (by decide +kernel) (show (ent [.inr (.inr (8, some n)), .inl x0, .inl x1, .inl x2, .inl x3, .inl x4, .inl x5, .inl x6]).length ≤ (mt 119).2.2.2.1 from Nat.le_of_ble_eq_true rfl) (cats_le (Nat.le_of_ble_eq_true rfl)) (by decide +kernel)
theorem d134_139 : decode (mt 134).2.1 139 = .ok (.iconst 1, 1) := by decide +kernel
theorem s134_139 {ls : LV} {st : List AV} {m : MM} : go 134 139 ls st m = go 134 140 ls (.inl 1 :: st) m := e_1 d134_139 (Or.inl rfl) rfl
theorem d134_140 : decode (mt 134).2.1 140 = .ok (.ireturn, 1) := by decide +kernel
theorem s134_140 {ls : LV} {m : MM} {x : Int32} : go 134 140 ls [.inl x] m = some (some (.inl x), m) := e_int d134_140 (by decide +kernel)
/-! X7_leave: 135 -/
theorem d135_0 : decode (mt 135).2.1 0 = .ok (.aload_n 0, 1) := by decide +kernel
theorem s135_0 {a1 a2 a3 : Option AV} {st : List AV} {m : MM} {x : Nat × Option Nat} : go 135 0 [some (.inr (.inr x)), a1, a2, a3] st m = go 135 1 [some (.inr (.inr x)), a1, a2, a3] (.inr (.inr x) :: st) m := e_1 d135_0 (Or.inl rfl) rfl
theorem d135_1 : decode (mt 135).2.1 1 = .ok (.iload_n 1, 1) := by decide +kernel
theorem s135_1 {a0 a2 a3 : Option AV} {st : List AV} {m : MM} {x : Int32} : go 135 1 [a0, some (.inl x), a2, a3] st m = go 135 2 [a0, some (.inl x), a2, a3] (.inl x :: st) m := e_1 d135_1 (Or.inl rfl) rfl
theorem d135_2 : decode (mt 135).2.1 2 = .ok (.invokevirtual 203, 3) := by decide +kernel
theorem s135_2 {ls : LV} {m : MM} {x0 : Int32} {n : Nat} : go 135 2 ls [.inl x0, .inr (.inr (8, some n))] m = bd (go 104 0 [some (.inr (.inr (8, some n))), some (.inl x0)] [] m) (fun v m2 => go 135 5 ls (v.toList ++ []) m2) := e_virt (y1 := 104) (na := 1) (as := [.inl x0]) (rest := []) d135_2 (by decide +kernel) rfl (by decide +kernel) (show (ent [.inr (.inr (8, some n)), .inl x0]).length ≤ (mt 104).2.2.2.1 from Nat.le_of_ble_eq_true rfl) (cats_le (Nat.le_of_ble_eq_true rfl)) (by decide +kernel)
theorem d135_5 : decode (mt 135).2.1 5 = .ok (.ifCond .ne 5, 3) := by decide +kernel
theorem s135_5 {ls : LV} {st : List AV} {m : MM} {a : Int32} : go 135 5 ls (.inl a :: st) m = if ¬ a = 0 then go 135 10 ls st m else go 135 8 ls st m := e_if (t := 10) (b := hc .ne a 0) d135_5 (Or.inl rfl) (by simp only [xi, pI, jm_some (t := 10) (show ((5 : Nat) : Int) + 5 = ((10 : Nat) : Int) by decide), Option.bind_some]) (by simp [hc])
theorem d135_8 : decode (mt 135).2.1 8 = .ok (.iconst (-1), 1) := by decide +kernel
theorem s135_8 {ls : LV} {st : List AV} {m : MM} : go 135 8 ls st m = go 135 9 ls (.inl (-1) :: st) m := e_1 d135_8 (Or.inl rfl) rfl
theorem d135_9 : decode (mt 135).2.1 9 = .ok (.ireturn, 1) := by decide +kernel
theorem s135_9 {ls : LV} {m : MM} {x : Int32} : go 135 9 ls [.inl x] m = some (some (.inl x), m) := e_int d135_9 (by decide +kernel)
theorem d135_10 : decode (mt 135).2.1 10 = .ok (.aload_n 0, 1) := by decide +kernel
theorem s135_10 {a1 a2 a3 : Option AV} {st : List AV} {m : MM} {x : Nat × Option Nat} : go 135 10 [some (.inr (.inr x)), a1, a2, a3] st m = go 135 11 [some (.inr (.inr x)), a1, a2, a3] (.inr (.inr x) :: st) m := e_1 d135_10 (Or.inl rfl) rfl
theorem d135_11 : decode (mt 135).2.1 11 = .ok (.getfield 186, 3) := by decide +kernel
theorem s135_11 {ls : LV} {st : List AV} {m : MM} {n : Nat} : go 135 11 ls (.inr (.inr (8, some n)) :: st) m = go 135 14 ls (.inl (mI m 8 n 41) :: st) m := e_1 d135_11 (Or.inl rfl) (by rw [xi, pA, show lk fdL (mt 135).2.2.1 186 = some (8, 41) by decide +kernel]; rfl)
theorem d135_14 : decode (mt 135).2.1 14 = .ok (.ifCond .gt 13, 3) := by decide +kernel
theorem s135_14 {ls : LV} {st : List AV} {m : MM} {a : Int32} : go 135 14 ls (.inl a :: st) m = if 0 < a then go 135 27 ls st m else go 135 17 ls st m := e_if (t := 27) (b := hc .gt a 0) d135_14 (Or.inl rfl) (by simp only [xi, pI, jm_some (t := 27) (show ((14 : Nat) : Int) + 13 = ((27 : Nat) : Int) by decide), Option.bind_some]) (by simp [hc])
theorem d135_17 : decode (mt 135).2.1 17 = .ok (.aload_n 0, 1) := by decide +kernel
theorem s135_17 {a1 a2 a3 : Option AV} {st : List AV} {m : MM} {x : Nat × Option Nat} : go 135 17 [some (.inr (.inr x)), a1, a2, a3] st m = go 135 18 [some (.inr (.inr x)), a1, a2, a3] (.inr (.inr x) :: st) m := e_1 d135_17 (Or.inl rfl) rfl
theorem d135_18 : decode (mt 135).2.1 18 = .ok (.getfield 20, 3) := by decide +kernel
theorem s135_18 {ls : LV} {st : List AV} {m : MM} {n : Nat} : go 135 18 ls (.inr (.inr (8, some n)) :: st) m = go 135 21 ls (.inr (.inr (21, mR m 8 n 4)) :: st) m := e_1 d135_18 (Or.inl rfl) (by rw [xi, pA, show lk fdL (mt 135).2.2.1 20 = some (8, 4) by decide +kernel]; rfl)
theorem d135_21 : decode (mt 135).2.1 21 = .ok (.iload_n 1, 1) := by decide +kernel
theorem s135_21 {a0 a2 a3 : Option AV} {st : List AV} {m : MM} {x : Int32} : go 135 21 [a0, some (.inl x), a2, a3] st m = go 135 22 [a0, some (.inl x), a2, a3] (.inl x :: st) m := e_1 d135_21 (Or.inl rfl) rfl
theorem d135_22 : decode (mt 135).2.1 22 = .ok (.iaload, 1) := by decide +kernel
theorem s135_22 {ls : LV} {st : List AV} {m : MM} {n : Nat} {i : Int32} : go 135 22 ls (.inl i :: .inr (.inr (21, some n)) :: st) m = ixk (ix i (mN m 21 n)) (fun j => go 135 23 ls (.inl (mI m 21 n j) :: st) m) := e_ald d135_22 (fun j hj => by simp only [xi, pI, pA, hj, Option.bind_some]; rfl) (fun hj => by simp only [xi, pI, pA, hj, Option.bind_none])
theorem d135_23 : decode (mt 135).2.1 23 = .ok (.iconst 2, 1) := by decide +kernel
theorem s135_23 {ls : LV} {st : List AV} {m : MM} : go 135 23 ls st m = go 135 24 ls (.inl 2 :: st) m := e_1 d135_23 (Or.inl rfl) rfl
theorem d135_24 : decode (mt 135).2.1 24 = .ok (.if_icmp .eq 6, 3) := by decide +kernel
theorem s135_24 {ls : LV} {st : List AV} {m : MM} {a b : Int32} : go 135 24 ls (.inl b :: .inl a :: st) m = if a = b then go 135 30 ls st m else go 135 27 ls st m := e_if (t := 30) (b := hc .eq a b) d135_24 (Or.inl rfl) (by simp only [xi, pI, jm_some (t := 30) (show ((24 : Nat) : Int) + 6 = ((30 : Nat) : Int) by decide), Option.bind_some]) (by simp [hc])
theorem d135_27 : decode (mt 135).2.1 27 = .ok (.bipush (-2), 2) := by decide +kernel
theorem s135_27 {ls : LV} {st : List AV} {m : MM} : go 135 27 ls st m = go 135 29 ls (.inl (-2) :: st) m := e_1 d135_27 (Or.inl rfl) rfl
theorem d135_29 : decode (mt 135).2.1 29 = .ok (.ireturn, 1) := by decide +kernel
theorem s135_29 {ls : LV} {m : MM} {x : Int32} : go 135 29 ls [.inl x] m = some (some (.inl x), m) := e_int d135_29 (by decide +kernel)
theorem d135_30 : decode (mt 135).2.1 30 = .ok (.aload_n 0, 1) := by decide +kernel
theorem s135_30 {a1 a2 a3 : Option AV} {st : List AV} {m : MM} {x : Nat × Option Nat} : go 135 30 [some (.inr (.inr x)), a1, a2, a3] st m = go 135 31 [some (.inr (.inr x)), a1, a2, a3] (.inr (.inr x) :: st) m := e_1 d135_30 (Or.inl rfl) rfl
theorem d135_31 : decode (mt 135).2.1 31 = .ok (.iconst 2, 1) := by decide +kernel
theorem s135_31 {ls : LV} {st : List AV} {m : MM} : go 135 31 ls st m = go 135 32 ls (.inl 2 :: st) m := e_1 d135_31 (Or.inl rfl) rfl
theorem d135_32 : decode (mt 135).2.1 32 = .ok (.putfield 186, 3) := by decide +kernel
theorem s135_32 {ls : LV} {st : List AV} {m : MM} {n : Nat} {x : Int32} : go 135 32 ls (.inl x :: .inr (.inr (8, some n)) :: st) m = go 135 35 ls st (sI m 8 n 41 x) := e_put (r := 8) (f := 41) d135_32 (by decide +kernel) rfl (by decide +kernel)
theorem d135_35 : decode (mt 135).2.1 35 = .ok (.aload_n 0, 1) := by decide +kernel
theorem s135_35 {a1 a2 a3 : Option AV} {st : List AV} {m : MM} {x : Nat × Option Nat} : go 135 35 [some (.inr (.inr x)), a1, a2, a3] st m = go 135 36 [some (.inr (.inr x)), a1, a2, a3] (.inr (.inr x) :: st) m := e_1 d135_35 (Or.inl rfl) rfl
theorem d135_36 : decode (mt 135).2.1 36 = .ok (.iload_n 1, 1) := by decide +kernel
theorem s135_36 {a0 a2 a3 : Option AV} {st : List AV} {m : MM} {x : Int32} : go 135 36 [a0, some (.inl x), a2, a3] st m = go 135 37 [a0, some (.inl x), a2, a3] (.inl x :: st) m := e_1 d135_36 (Or.inl rfl) rfl
theorem d135_37 : decode (mt 135).2.1 37 = .ok (.putfield 197, 3) := by decide +kernel
theorem s135_37 {ls : LV} {st : List AV} {m : MM} {n : Nat} {x : Int32} : go 135 37 ls (.inl x :: .inr (.inr (8, some n)) :: st) m = go 135 40 ls st (sI m 8 n 42 x) := e_put (r := 8) (f := 42) d135_37 (by decide +kernel) rfl (by decide +kernel)
theorem d135_40 : decode (mt 135).2.1 40 = .ok (.aload_n 0, 1) := by decide +kernel
theorem s135_40 {a1 a2 a3 : Option AV} {st : List AV} {m : MM} {x : Nat × Option Nat} : go 135 40 [some (.inr (.inr x)), a1, a2, a3] st m = go 135 41 [some (.inr (.inr x)), a1, a2, a3] (.inr (.inr x) :: st) m := e_1 d135_40 (Or.inl rfl) rfl
theorem d135_41 : decode (mt 135).2.1 41 = .ok (.getfield 20, 3) := by decide +kernel
theorem s135_41 {ls : LV} {st : List AV} {m : MM} {n : Nat} : go 135 41 ls (.inr (.inr (8, some n)) :: st) m = go 135 44 ls (.inr (.inr (21, mR m 8 n 4)) :: st) m := e_1 d135_41 (Or.inl rfl) (by rw [xi, pA, show lk fdL (mt 135).2.2.1 20 = some (8, 4) by decide +kernel]; rfl)
theorem d135_44 : decode (mt 135).2.1 44 = .ok (.iload_n 1, 1) := by decide +kernel
theorem s135_44 {a0 a2 a3 : Option AV} {st : List AV} {m : MM} {x : Int32} : go 135 44 [a0, some (.inl x), a2, a3] st m = go 135 45 [a0, some (.inl x), a2, a3] (.inl x :: st) m := e_1 d135_44 (Or.inl rfl) rfl
theorem d135_45 : decode (mt 135).2.1 45 = .ok (.iconst 3, 1) := by decide +kernel
theorem s135_45 {ls : LV} {st : List AV} {m : MM} : go 135 45 ls st m = go 135 46 ls (.inl 3 :: st) m := e_1 d135_45 (Or.inl rfl) rfl
theorem d135_46 : decode (mt 135).2.1 46 = .ok (.iastore, 1) := by decide +kernel
theorem s135_46 {ls : LV} {st : List AV} {m : MM} {n : Nat} {i : Int32} {x : Int32} : go 135 46 ls (.inl x :: .inl i :: .inr (.inr (21, some n)) :: st) m = ixk (ix i (mN m 21 n)) (fun j => go 135 47 ls st (sI m 21 n j x)) := e_ald d135_46 (fun j hj => by simp only [xi, pI, pL, pR, pA, hj, Option.bind_some]; exact if_pos ⟨rfl, by decide⟩) (fun hj => by simp only [xi, pI, pL, pR, pA, hj, Option.bind_none])
theorem d135_47 : decode (mt 135).2.1 47 = .ok (.aload_n 0, 1) := by decide +kernel
theorem s135_47 {a1 a2 a3 : Option AV} {st : List AV} {m : MM} {x : Nat × Option Nat} : go 135 47 [some (.inr (.inr x)), a1, a2, a3] st m = go 135 48 [some (.inr (.inr x)), a1, a2, a3] (.inr (.inr x) :: st) m := e_1 d135_47 (Or.inl rfl) rfl
theorem d135_48 : decode (mt 135).2.1 48 = .ok (.iload_n 1, 1) := by decide +kernel
theorem s135_48 {a0 a2 a3 : Option AV} {st : List AV} {m : MM} {x : Int32} : go 135 48 [a0, some (.inl x), a2, a3] st m = go 135 49 [a0, some (.inl x), a2, a3] (.inl x :: st) m := e_1 d135_48 (Or.inl rfl) rfl
theorem d135_49 : decode (mt 135).2.1 49 = .ok (.iconst 0, 1) := by decide +kernel
theorem s135_49 {ls : LV} {st : List AV} {m : MM} : go 135 49 ls st m = go 135 50 ls (.inl 0 :: st) m := e_1 d135_49 (Or.inl rfl) rfl
theorem d135_50 : decode (mt 135).2.1 50 = .ok (.invokevirtual 213, 3) := by decide +kernel
theorem s135_50 {ls : LV} {m : MM} {x0 : Int32} {x1 : Int32} {n : Nat} : go 135 50 ls [.inl x1, .inl x0, .inr (.inr (8, some n))] m = bd (go 127 0 [some (.inr (.inr (8, some n))), some (.inl x0), some (.inl x1), none, none, none] [] m) (fun v m2 => go 135 53 ls (v.toList ++ []) m2) := e_virt (y1 := 127) (na := 2) (as := [.inl x0, .inl x1]) (rest := []) d135_50 (by decide +kernel) rfl (by decide +kernel) (show (ent [.inr (.inr (8, some n)), .inl x0, .inl x1]).length ≤ (mt 127).2.2.2.1 from Nat.le_of_ble_eq_true rfl) (cats_le (Nat.le_of_ble_eq_true rfl)) (by decide +kernel)
theorem d135_53 : decode (mt 135).2.1 53 = .ok (.aload_n 0, 1) := by decide +kernel
theorem s135_53 {a1 a2 a3 : Option AV} {st : List AV} {m : MM} {x : Nat × Option Nat} : go 135 53 [some (.inr (.inr x)), a1, a2, a3] st m = go 135 54 [some (.inr (.inr x)), a1, a2, a3] (.inr (.inr x) :: st) m := e_1 d135_53 (Or.inl rfl) rfl
theorem d135_54 : decode (mt 135).2.1 54 = .ok (.iload_n 1, 1) := by decide +kernel
theorem s135_54 {a0 a2 a3 : Option AV} {st : List AV} {m : MM} {x : Int32} : go 135 54 [a0, some (.inl x), a2, a3] st m = go 135 55 [a0, some (.inl x), a2, a3] (.inl x :: st) m := e_1 d135_54 (Or.inl rfl) rfl
theorem d135_55 : decode (mt 135).2.1 55 = .ok (.iconst 0, 1) := by decide +kernel
theorem s135_55 {ls : LV} {st : List AV} {m : MM} : go 135 55 ls st m = go 135 56 ls (.inl 0 :: st) m := e_1 d135_55 (Or.inl rfl) rfl
theorem d135_56 : decode (mt 135).2.1 56 = .ok (.invokevirtual 146, 3) := by decide +kernel
theorem s135_56 {ls : LV} {m : MM} {x0 : Int32} {x1 : Int32} {n : Nat} : go 135 56 ls [.inl x1, .inl x0, .inr (.inr (8, some n))] m = bd (go 112 0 [some (.inr (.inr (8, some n))), some (.inl x0), some (.inl x1)] [] m) (fun v m2 => go 135 59 ls (v.toList ++ []) m2) := e_virt (y1 := 112) (na := 2) (as := [.inl x0, .inl x1]) (rest := []) d135_56 (by decide +kernel) rfl (by decide +kernel) (show (ent [.inr (.inr (8, some n)), .inl x0, .inl x1]).length ≤ (mt 112).2.2.2.1 from Nat.le_of_ble_eq_true rfl) (cats_le (Nat.le_of_ble_eq_true rfl)) (by decide +kernel)
theorem d135_59 : decode (mt 135).2.1 59 = .ok (.bipush (-4), 2) := by decide +kernel
theorem s135_59 {ls : LV} {st : List AV} {m : MM} : go 135 59 ls st m = go 135 61 ls (.inl (-4) :: st) m := e_1 d135_59 (Or.inl rfl) rfl
theorem d135_61 : decode (mt 135).2.1 61 = .ok (.if_icmp .eq 12, 3) := by decide +kernel
theorem s135_61 {ls : LV} {st : List AV} {m : MM} {a b : Int32} : go 135 61 ls (.inl b :: .inl a :: st) m = if a = b then go 135 73 ls st m else go 135 64 ls st m := e_if (t := 73) (b := hc .eq a b) d135_61 (Or.inl rfl) (by simp only [xi, pI, jm_some (t := 73) (show ((61 : Nat) : Int) + 12 = ((73 : Nat) : Int) by decide), Option.bind_some]) (by simp [hc])
theorem d135_64 : decode (mt 135).2.1 64 = .ok (.aload_n 0, 1) := by decide +kernel
theorem s135_64 {a1 a2 a3 : Option AV} {st : List AV} {m : MM} {x : Nat × Option Nat} : go 135 64 [some (.inr (.inr x)), a1, a2, a3] st m = go 135 65 [some (.inr (.inr x)), a1, a2, a3] (.inr (.inr x) :: st) m := e_1 d135_64 (Or.inl rfl) rfl
theorem d135_65 : decode (mt 135).2.1 65 = .ok (.iload_n 1, 1) := by decide +kernel
theorem s135_65 {a0 a2 a3 : Option AV} {st : List AV} {m : MM} {x : Int32} : go 135 65 [a0, some (.inl x), a2, a3] st m = go 135 66 [a0, some (.inl x), a2, a3] (.inl x :: st) m := e_1 d135_65 (Or.inl rfl) rfl
theorem d135_66 : decode (mt 135).2.1 66 = .ok (.iconst 0, 1) := by decide +kernel
theorem s135_66 {ls : LV} {st : List AV} {m : MM} : go 135 66 ls st m = go 135 67 ls (.inl 0 :: st) m := e_1 d135_66 (Or.inl rfl) rfl
theorem d135_67 : decode (mt 135).2.1 67 = .ok (.invokevirtual 146, 3) := by decide +kernel
theorem s135_67 {ls : LV} {m : MM} {x0 : Int32} {x1 : Int32} {n : Nat} : go 135 67 ls [.inl x1, .inl x0, .inr (.inr (8, some n))] m = bd (go 112 0 [some (.inr (.inr (8, some n))), some (.inl x0), some (.inl x1)] [] m) (fun v m2 => go 135 70 ls (v.toList ++ []) m2) := e_virt (y1 := 112) (na := 2) (as := [.inl x0, .inl x1]) (rest := []) d135_67 (by decide +kernel) rfl (by decide +kernel) (show (ent [.inr (.inr (8, some n)), .inl x0, .inl x1]).length ≤ (mt 112).2.2.2.1 from Nat.le_of_ble_eq_true rfl) (cats_le (Nat.le_of_ble_eq_true rfl)) (by decide +kernel)
theorem d135_70 : decode (mt 135).2.1 70 = .ok (.goto 9, 3) := by decide +kernel
theorem s135_70 {ls : LV} {st : List AV} {m : MM} : go 135 70 ls st m = go 135 79 ls st m := e_1 d135_70 (Or.inl rfl) (by rw [xi, jm_some (t := 79) (by decide)]; rfl)
theorem d135_73 : decode (mt 135).2.1 73 = .ok (.aload_n 0, 1) := by decide +kernel
theorem s135_73 {a1 a2 a3 : Option AV} {st : List AV} {m : MM} {x : Nat × Option Nat} : go 135 73 [some (.inr (.inr x)), a1, a2, a3] st m = go 135 74 [some (.inr (.inr x)), a1, a2, a3] (.inr (.inr x) :: st) m := e_1 d135_73 (Or.inl rfl) rfl
theorem d135_74 : decode (mt 135).2.1 74 = .ok (.iload_n 1, 1) := by decide +kernel
theorem s135_74 {a0 a2 a3 : Option AV} {st : List AV} {m : MM} {x : Int32} : go 135 74 [a0, some (.inl x), a2, a3] st m = go 135 75 [a0, some (.inl x), a2, a3] (.inl x :: st) m := e_1 d135_74 (Or.inl rfl) rfl
theorem d135_75 : decode (mt 135).2.1 75 = .ok (.iconst 0, 1) := by decide +kernel
theorem s135_75 {ls : LV} {st : List AV} {m : MM} : go 135 75 ls st m = go 135 76 ls (.inl 0 :: st) m := e_1 d135_75 (Or.inl rfl) rfl
theorem d135_76 : decode (mt 135).2.1 76 = .ok (.invokevirtual 143, 3) := by decide +kernel
theorem s135_76 {ls : LV} {m : MM} {x0 : Int32} {x1 : Int32} {n : Nat} : go 135 76 ls [.inl x1, .inl x0, .inr (.inr (8, some n))] m = bd (go 113 0 [some (.inr (.inr (8, some n))), some (.inl x0), some (.inl x1)] [] m) (fun v m2 => go 135 79 ls (v.toList ++ []) m2) := e_virt (y1 := 113) (na := 2) (as := [.inl x0, .inl x1]) (rest := []) d135_76 (by decide +kernel) rfl (by decide +kernel) (show (ent [.inr (.inr (8, some n)), .inl x0, .inl x1]).length ≤ (mt 113).2.2.2.1 from Nat.le_of_ble_eq_true rfl) (cats_le (Nat.le_of_ble_eq_true rfl)) (by decide +kernel)
theorem d135_79 : decode (mt 135).2.1 79 = .ok (.istore_n 2, 1) := by decide +kernel
theorem s135_79i {a0 a2 a3 : Option AV} {z : Int32} {st : List AV} {m : MM} {x : Int32} : go 135 79 [a0, some (.inl z), a2, a3] (.inl x :: st) m = go 135 80 [a0, some (.inl z), some (.inl x), a3] st m := e_1 d135_79 (Or.inl rfl) rfl
theorem s135_79r {a0 a2 a3 : Option AV} {z : Nat × Option Nat} {st : List AV} {m : MM} {x : Int32} : go 135 79 [a0, some (.inr (.inr z)), a2, a3] (.inl x :: st) m = go 135 80 [a0, some (.inr (.inr z)), some (.inl x), a3] st m := e_1 d135_79 (Or.inl rfl) rfl
theorem s135_79n {a0 a2 a3 : Option AV} {st : List AV} {m : MM} {x : Int32} : go 135 79 [a0, none, a2, a3] (.inl x :: st) m = go 135 80 [a0, none, some (.inl x), a3] st m := e_1 d135_79 (Or.inl rfl) rfl
theorem d135_80 : decode (mt 135).2.1 80 = .ok (.aload_n 0, 1) := by decide +kernel
theorem s135_80 {a1 a2 a3 : Option AV} {st : List AV} {m : MM} {x : Nat × Option Nat} : go 135 80 [some (.inr (.inr x)), a1, a2, a3] st m = go 135 81 [some (.inr (.inr x)), a1, a2, a3] (.inr (.inr x) :: st) m := e_1 d135_80 (Or.inl rfl) rfl
theorem d135_81 : decode (mt 135).2.1 81 = .ok (.getfield 42, 3) := by decide +kernel
theorem s135_81 {ls : LV} {st : List AV} {m : MM} {n : Nat} : go 135 81 ls (.inr (.inr (8, some n)) :: st) m = go 135 84 ls (.inr (.inr (28, mR m 8 n 11)) :: st) m := e_1 d135_81 (Or.inl rfl) (by rw [xi, pA, show lk fdL (mt 135).2.2.1 42 = some (8, 11) by decide +kernel]; rfl)
theorem d135_84 : decode (mt 135).2.1 84 = .ok (.iload_n 1, 1) := by decide +kernel
theorem s135_84 {a0 a2 a3 : Option AV} {st : List AV} {m : MM} {x : Int32} : go 135 84 [a0, some (.inl x), a2, a3] st m = go 135 85 [a0, some (.inl x), a2, a3] (.inl x :: st) m := e_1 d135_84 (Or.inl rfl) rfl
theorem d135_85 : decode (mt 135).2.1 85 = .ok (.iaload, 1) := by decide +kernel
theorem s135_85 {ls : LV} {st : List AV} {m : MM} {n : Nat} {i : Int32} : go 135 85 ls (.inl i :: .inr (.inr (28, some n)) :: st) m = ixk (ix i (mN m 28 n)) (fun j => go 135 86 ls (.inl (mI m 28 n j) :: st) m) := e_ald d135_85 (fun j hj => by simp only [xi, pI, pA, hj, Option.bind_some]; rfl) (fun hj => by simp only [xi, pI, pA, hj, Option.bind_none])
theorem d135_86 : decode (mt 135).2.1 86 = .ok (.ifCond .le 85, 3) := by decide +kernel
theorem s135_86 {ls : LV} {st : List AV} {m : MM} {a : Int32} : go 135 86 ls (.inl a :: st) m = if a ≤ 0 then go 135 171 ls st m else go 135 89 ls st m := e_if (t := 171) (b := hc .le a 0) d135_86 (Or.inl rfl) (by simp only [xi, pI, jm_some (t := 171) (show ((86 : Nat) : Int) + 85 = ((171 : Nat) : Int) by decide), Option.bind_some]) (by simp [hc])
theorem d135_89 : decode (mt 135).2.1 89 = .ok (.iload_n 2, 1) := by decide +kernel
theorem s135_89 {a0 a1 a3 : Option AV} {st : List AV} {m : MM} {x : Int32} : go 135 89 [a0, a1, some (.inl x), a3] st m = go 135 90 [a0, a1, some (.inl x), a3] (.inl x :: st) m := e_1 d135_89 (Or.inl rfl) rfl
theorem d135_90 : decode (mt 135).2.1 90 = .ok (.bipush (-4), 2) := by decide +kernel
theorem s135_90 {ls : LV} {st : List AV} {m : MM} : go 135 90 ls st m = go 135 92 ls (.inl (-4) :: st) m := e_1 d135_90 (Or.inl rfl) rfl
theorem d135_92 : decode (mt 135).2.1 92 = .ok (.if_icmp .eq 79, 3) := by decide +kernel
theorem s135_92 {ls : LV} {st : List AV} {m : MM} {a b : Int32} : go 135 92 ls (.inl b :: .inl a :: st) m = if a = b then go 135 171 ls st m else go 135 95 ls st m := e_if (t := 171) (b := hc .eq a b) d135_92 (Or.inl rfl) (by simp only [xi, pI, jm_some (t := 171) (show ((92 : Nat) : Int) + 79 = ((171 : Nat) : Int) by decide), Option.bind_some]) (by simp [hc])
theorem d135_95 : decode (mt 135).2.1 95 = .ok (.aload_n 0, 1) := by decide +kernel
theorem s135_95 {a1 a2 a3 : Option AV} {st : List AV} {m : MM} {x : Nat × Option Nat} : go 135 95 [some (.inr (.inr x)), a1, a2, a3] st m = go 135 96 [some (.inr (.inr x)), a1, a2, a3] (.inr (.inr x) :: st) m := e_1 d135_95 (Or.inl rfl) rfl
theorem d135_96 : decode (mt 135).2.1 96 = .ok (.aload_n 0, 1) := by decide +kernel
theorem s135_96 {a1 a2 a3 : Option AV} {st : List AV} {m : MM} {x : Nat × Option Nat} : go 135 96 [some (.inr (.inr x)), a1, a2, a3] st m = go 135 97 [some (.inr (.inr x)), a1, a2, a3] (.inr (.inr x) :: st) m := e_1 d135_96 (Or.inl rfl) rfl
theorem d135_97 : decode (mt 135).2.1 97 = .ok (.getfield 42, 3) := by decide +kernel
theorem s135_97 {ls : LV} {st : List AV} {m : MM} {n : Nat} : go 135 97 ls (.inr (.inr (8, some n)) :: st) m = go 135 100 ls (.inr (.inr (28, mR m 8 n 11)) :: st) m := e_1 d135_97 (Or.inl rfl) (by rw [xi, pA, show lk fdL (mt 135).2.2.1 42 = some (8, 11) by decide +kernel]; rfl)
theorem d135_100 : decode (mt 135).2.1 100 = .ok (.iload_n 1, 1) := by decide +kernel
theorem s135_100 {a0 a2 a3 : Option AV} {st : List AV} {m : MM} {x : Int32} : go 135 100 [a0, some (.inl x), a2, a3] st m = go 135 101 [a0, some (.inl x), a2, a3] (.inl x :: st) m := e_1 d135_100 (Or.inl rfl) rfl
theorem d135_101 : decode (mt 135).2.1 101 = .ok (.iaload, 1) := by decide +kernel
theorem s135_101 {ls : LV} {st : List AV} {m : MM} {n : Nat} {i : Int32} : go 135 101 ls (.inl i :: .inr (.inr (28, some n)) :: st) m = ixk (ix i (mN m 28 n)) (fun j => go 135 102 ls (.inl (mI m 28 n j) :: st) m) := e_ald d135_101 (fun j hj => by simp only [xi, pI, pA, hj, Option.bind_some]; rfl) (fun hj => by simp only [xi, pI, pA, hj, Option.bind_none])
theorem d135_102 : decode (mt 135).2.1 102 = .ok (.putfield 176, 3) := by decide +kernel
theorem s135_102 {ls : LV} {st : List AV} {m : MM} {n : Nat} {x : Int32} : go 135 102 ls (.inl x :: .inr (.inr (8, some n)) :: st) m = go 135 105 ls st (sI m 8 n 38 x) := e_put (r := 8) (f := 38) d135_102 (by decide +kernel) rfl (by decide +kernel)
theorem d135_105 : decode (mt 135).2.1 105 = .ok (.iconst 0, 1) := by decide +kernel
theorem s135_105 {ls : LV} {st : List AV} {m : MM} : go 135 105 ls st m = go 135 106 ls (.inl 0 :: st) m := e_1 d135_105 (Or.inl rfl) rfl
theorem d135_106 : decode (mt 135).2.1 106 = .ok (.istore_n 3, 1) := by decide +kernel
theorem s135_106i {a0 a1 a3 : Option AV} {z : Int32} {st : List AV} {m : MM} {x : Int32} : go 135 106 [a0, a1, some (.inl z), a3] (.inl x :: st) m = go 135 107 [a0, a1, some (.inl z), some (.inl x)] st m := e_1 d135_106 (Or.inl rfl) rfl
theorem s135_106r {a0 a1 a3 : Option AV} {z : Nat × Option Nat} {st : List AV} {m : MM} {x : Int32} : go 135 106 [a0, a1, some (.inr (.inr z)), a3] (.inl x :: st) m = go 135 107 [a0, a1, some (.inr (.inr z)), some (.inl x)] st m := e_1 d135_106 (Or.inl rfl) rfl
theorem s135_106n {a0 a1 a3 : Option AV} {st : List AV} {m : MM} {x : Int32} : go 135 106 [a0, a1, none, a3] (.inl x :: st) m = go 135 107 [a0, a1, none, some (.inl x)] st m := e_1 d135_106 (Or.inl rfl) rfl
theorem d135_107 : decode (mt 135).2.1 107 = .ok (.iload_n 3, 1) := by decide +kernel
theorem s135_107 {a0 a1 a2 : Option AV} {st : List AV} {m : MM} {x : Int32} : go 135 107 [a0, a1, a2, some (.inl x)] st m = go 135 108 [a0, a1, a2, some (.inl x)] (.inl x :: st) m := e_1 d135_107 (Or.inl rfl) rfl
theorem d135_108 : decode (mt 135).2.1 108 = .ok (.aload_n 0, 1) := by decide +kernel
theorem s135_108 {a1 a2 a3 : Option AV} {st : List AV} {m : MM} {x : Nat × Option Nat} : go 135 108 [some (.inr (.inr x)), a1, a2, a3] st m = go 135 109 [some (.inr (.inr x)), a1, a2, a3] (.inr (.inr x) :: st) m := e_1 d135_108 (Or.inl rfl) rfl
theorem d135_109 : decode (mt 135).2.1 109 = .ok (.getfield 176, 3) := by decide +kernel
theorem s135_109 {ls : LV} {st : List AV} {m : MM} {n : Nat} : go 135 109 ls (.inr (.inr (8, some n)) :: st) m = go 135 112 ls (.inl (mI m 8 n 38) :: st) m := e_1 d135_109 (Or.inl rfl) (by rw [xi, pA, show lk fdL (mt 135).2.2.1 176 = some (8, 38) by decide +kernel]; rfl)
theorem d135_112 : decode (mt 135).2.1 112 = .ok (.if_icmp .ge 43, 3) := by decide +kernel
theorem s135_112 {ls : LV} {st : List AV} {m : MM} {a b : Int32} : go 135 112 ls (.inl b :: .inl a :: st) m = if b ≤ a then go 135 155 ls st m else go 135 115 ls st m := e_if (t := 155) (b := hc .ge a b) d135_112 (Or.inl rfl) (by simp only [xi, pI, jm_some (t := 155) (show ((112 : Nat) : Int) + 43 = ((155 : Nat) : Int) by decide), Option.bind_some]) (by simp [hc])
theorem d135_115 : decode (mt 135).2.1 115 = .ok (.aload_n 0, 1) := by decide +kernel
theorem s135_115 {a1 a2 a3 : Option AV} {st : List AV} {m : MM} {x : Nat × Option Nat} : go 135 115 [some (.inr (.inr x)), a1, a2, a3] st m = go 135 116 [some (.inr (.inr x)), a1, a2, a3] (.inr (.inr x) :: st) m := e_1 d135_115 (Or.inl rfl) rfl
theorem d135_116 : decode (mt 135).2.1 116 = .ok (.getfield 109, 3) := by decide +kernel
theorem s135_116 {ls : LV} {st : List AV} {m : MM} {n : Nat} : go 135 116 ls (.inr (.inr (8, some n)) :: st) m = go 135 119 ls (.inr (.inr (50, mR m 8 n 39)) :: st) m := e_1 d135_116 (Or.inl rfl) (by rw [xi, pA, show lk fdL (mt 135).2.2.1 109 = some (8, 39) by decide +kernel]; rfl)
theorem d135_119 : decode (mt 135).2.1 119 = .ok (.iload_n 3, 1) := by decide +kernel
theorem s135_119 {a0 a1 a2 : Option AV} {st : List AV} {m : MM} {x : Int32} : go 135 119 [a0, a1, a2, some (.inl x)] st m = go 135 120 [a0, a1, a2, some (.inl x)] (.inl x :: st) m := e_1 d135_119 (Or.inl rfl) rfl
theorem d135_120 : decode (mt 135).2.1 120 = .ok (.aload_n 0, 1) := by decide +kernel
theorem s135_120 {a1 a2 a3 : Option AV} {st : List AV} {m : MM} {x : Nat × Option Nat} : go 135 120 [some (.inr (.inr x)), a1, a2, a3] st m = go 135 121 [some (.inr (.inr x)), a1, a2, a3] (.inr (.inr x) :: st) m := e_1 d135_120 (Or.inl rfl) rfl
theorem d135_121 : decode (mt 135).2.1 121 = .ok (.getfield 45, 3) := by decide +kernel
theorem s135_121 {ls : LV} {st : List AV} {m : MM} {n : Nat} : go 135 121 ls (.inr (.inr (8, some n)) :: st) m = go 135 124 ls (.inr (.inr (29, mR m 8 n 12)) :: st) m := e_1 d135_121 (Or.inl rfl) (by rw [xi, pA, show lk fdL (mt 135).2.2.1 45 = some (8, 12) by decide +kernel]; rfl)
theorem d135_124 : decode (mt 135).2.1 124 = .ok (.bipush 16, 2) := by decide +kernel
theorem s135_124 {ls : LV} {st : List AV} {m : MM} : go 135 124 ls st m = go 135 126 ls (.inl 16 :: st) m := e_1 d135_124 (Or.inl rfl) rfl
theorem d135_126 : decode (mt 135).2.1 126 = .ok (.iload_n 1, 1) := by decide +kernel
theorem s135_126 {a0 a2 a3 : Option AV} {st : List AV} {m : MM} {x : Int32} : go 135 126 [a0, some (.inl x), a2, a3] st m = go 135 127 [a0, some (.inl x), a2, a3] (.inl x :: st) m := e_1 d135_126 (Or.inl rfl) rfl
theorem d135_127 : decode (mt 135).2.1 127 = .ok (.imul, 1) := by decide +kernel
theorem s135_127 {ls : LV} {st : List AV} {m : MM} {a b : Int32} : go 135 127 ls (.inl b :: .inl a :: st) m = go 135 128 ls (.inl (a * b) :: st) m := e_1 d135_127 (Or.inl rfl) rfl
theorem d135_128 : decode (mt 135).2.1 128 = .ok (.iload_n 3, 1) := by decide +kernel
theorem s135_128 {a0 a1 a2 : Option AV} {st : List AV} {m : MM} {x : Int32} : go 135 128 [a0, a1, a2, some (.inl x)] st m = go 135 129 [a0, a1, a2, some (.inl x)] (.inl x :: st) m := e_1 d135_128 (Or.inl rfl) rfl
theorem d135_129 : decode (mt 135).2.1 129 = .ok (.iadd, 1) := by decide +kernel
theorem s135_129 {ls : LV} {st : List AV} {m : MM} {a b : Int32} : go 135 129 ls (.inl b :: .inl a :: st) m = go 135 130 ls (.inl (a + b) :: st) m := e_1 d135_129 (Or.inl rfl) rfl
theorem d135_130 : decode (mt 135).2.1 130 = .ok (.iaload, 1) := by decide +kernel
theorem s135_130 {ls : LV} {st : List AV} {m : MM} {n : Nat} {i : Int32} : go 135 130 ls (.inl i :: .inr (.inr (29, some n)) :: st) m = ixk (ix i (mN m 29 n)) (fun j => go 135 131 ls (.inl (mI m 29 n j) :: st) m) := e_ald d135_130 (fun j hj => by simp only [xi, pI, pA, hj, Option.bind_some]; rfl) (fun hj => by simp only [xi, pI, pA, hj, Option.bind_none])
theorem d135_131 : decode (mt 135).2.1 131 = .ok (.iastore, 1) := by decide +kernel
theorem s135_131 {ls : LV} {st : List AV} {m : MM} {n : Nat} {i : Int32} {x : Int32} : go 135 131 ls (.inl x :: .inl i :: .inr (.inr (50, some n)) :: st) m = ixk (ix i (mN m 50 n)) (fun j => go 135 132 ls st (sI m 50 n j x)) := e_ald d135_131 (fun j hj => by simp only [xi, pI, pL, pR, pA, hj, Option.bind_some]; exact if_pos ⟨rfl, by decide⟩) (fun hj => by simp only [xi, pI, pL, pR, pA, hj, Option.bind_none])
theorem d135_132 : decode (mt 135).2.1 132 = .ok (.aload_n 0, 1) := by decide +kernel
theorem s135_132 {a1 a2 a3 : Option AV} {st : List AV} {m : MM} {x : Nat × Option Nat} : go 135 132 [some (.inr (.inr x)), a1, a2, a3] st m = go 135 133 [some (.inr (.inr x)), a1, a2, a3] (.inr (.inr x) :: st) m := e_1 d135_132 (Or.inl rfl) rfl
theorem d135_133 : decode (mt 135).2.1 133 = .ok (.getfield 112, 3) := by decide +kernel
theorem s135_133 {ls : LV} {st : List AV} {m : MM} {n : Nat} : go 135 133 ls (.inr (.inr (8, some n)) :: st) m = go 135 136 ls (.inr (.inr (51, mR m 8 n 40)) :: st) m := e_1 d135_133 (Or.inl rfl) (by rw [xi, pA, show lk fdL (mt 135).2.2.1 112 = some (8, 40) by decide +kernel]; rfl)
theorem d135_136 : decode (mt 135).2.1 136 = .ok (.iload_n 3, 1) := by decide +kernel
theorem s135_136 {a0 a1 a2 : Option AV} {st : List AV} {m : MM} {x : Int32} : go 135 136 [a0, a1, a2, some (.inl x)] st m = go 135 137 [a0, a1, a2, some (.inl x)] (.inl x :: st) m := e_1 d135_136 (Or.inl rfl) rfl
theorem d135_137 : decode (mt 135).2.1 137 = .ok (.aload_n 0, 1) := by decide +kernel
theorem s135_137 {a1 a2 a3 : Option AV} {st : List AV} {m : MM} {x : Nat × Option Nat} : go 135 137 [some (.inr (.inr x)), a1, a2, a3] st m = go 135 138 [some (.inr (.inr x)), a1, a2, a3] (.inr (.inr x) :: st) m := e_1 d135_137 (Or.inl rfl) rfl
theorem d135_138 : decode (mt 135).2.1 138 = .ok (.getfield 48, 3) := by decide +kernel
theorem s135_138 {ls : LV} {st : List AV} {m : MM} {n : Nat} : go 135 138 ls (.inr (.inr (8, some n)) :: st) m = go 135 141 ls (.inr (.inr (30, mR m 8 n 13)) :: st) m := e_1 d135_138 (Or.inl rfl) (by rw [xi, pA, show lk fdL (mt 135).2.2.1 48 = some (8, 13) by decide +kernel]; rfl)
theorem d135_141 : decode (mt 135).2.1 141 = .ok (.bipush 16, 2) := by decide +kernel
theorem s135_141 {ls : LV} {st : List AV} {m : MM} : go 135 141 ls st m = go 135 143 ls (.inl 16 :: st) m := e_1 d135_141 (Or.inl rfl) rfl
theorem d135_143 : decode (mt 135).2.1 143 = .ok (.iload_n 1, 1) := by decide +kernel
theorem s135_143 {a0 a2 a3 : Option AV} {st : List AV} {m : MM} {x : Int32} : go 135 143 [a0, some (.inl x), a2, a3] st m = go 135 144 [a0, some (.inl x), a2, a3] (.inl x :: st) m := e_1 d135_143 (Or.inl rfl) rfl
theorem d135_144 : decode (mt 135).2.1 144 = .ok (.imul, 1) := by decide +kernel
theorem s135_144 {ls : LV} {st : List AV} {m : MM} {a b : Int32} : go 135 144 ls (.inl b :: .inl a :: st) m = go 135 145 ls (.inl (a * b) :: st) m := e_1 d135_144 (Or.inl rfl) rfl
theorem d135_145 : decode (mt 135).2.1 145 = .ok (.iload_n 3, 1) := by decide +kernel
theorem s135_145 {a0 a1 a2 : Option AV} {st : List AV} {m : MM} {x : Int32} : go 135 145 [a0, a1, a2, some (.inl x)] st m = go 135 146 [a0, a1, a2, some (.inl x)] (.inl x :: st) m := e_1 d135_145 (Or.inl rfl) rfl
theorem d135_146 : decode (mt 135).2.1 146 = .ok (.iadd, 1) := by decide +kernel
theorem s135_146 {ls : LV} {st : List AV} {m : MM} {a b : Int32} : go 135 146 ls (.inl b :: .inl a :: st) m = go 135 147 ls (.inl (a + b) :: st) m := e_1 d135_146 (Or.inl rfl) rfl
theorem d135_147 : decode (mt 135).2.1 147 = .ok (.laload, 1) := by decide +kernel
theorem s135_147 {ls : LV} {st : List AV} {m : MM} {n : Nat} {i : Int32} : go 135 147 ls (.inl i :: .inr (.inr (30, some n)) :: st) m = ixk (ix i (mN m 30 n)) (fun j => go 135 148 ls (.inr (.inl (mL m 30 n j)) :: st) m) := e_ald d135_147 (fun j hj => by simp only [xi, pI, pA, hj, Option.bind_some]; rfl) (fun hj => by simp only [xi, pI, pA, hj, Option.bind_none])
theorem d135_148 : decode (mt 135).2.1 148 = .ok (.lastore, 1) := by decide +kernel
theorem s135_148 {ls : LV} {st : List AV} {m : MM} {n : Nat} {i : Int32} {x : Int64} : go 135 148 ls (.inr (.inl x) :: .inl i :: .inr (.inr (51, some n)) :: st) m = ixk (ix i (mN m 51 n)) (fun j => go 135 149 ls st (sL m 51 n j x)) := e_ald d135_148 (fun j hj => by simp only [xi, pI, pL, pR, pA, hj, Option.bind_some]; exact if_pos rfl) (fun hj => by simp only [xi, pI, pL, pR, pA, hj, Option.bind_none])
theorem d135_149 : decode (mt 135).2.1 149 = .ok (.iinc 3 1, 3) := by decide +kernel
theorem s135_149i {a0 a1 : Option AV} {z : Int32} {st : List AV} {m : MM} {x : Int32} : go 135 149 [a0, a1, some (.inl z), some (.inl x)] st m = go 135 152 [a0, a1, some (.inl z), some (.inl (x + 1))] st m := e_1 d135_149 (Or.inl rfl) rfl
theorem s135_149r {a0 a1 : Option AV} {z : Nat × Option Nat} {st : List AV} {m : MM} {x : Int32} : go 135 149 [a0, a1, some (.inr (.inr z)), some (.inl x)] st m = go 135 152 [a0, a1, some (.inr (.inr z)), some (.inl (x + 1))] st m := e_1 d135_149 (Or.inl rfl) rfl
theorem s135_149n {a0 a1 : Option AV} {st : List AV} {m : MM} {x : Int32} : go 135 149 [a0, a1, none, some (.inl x)] st m = go 135 152 [a0, a1, none, some (.inl (x + 1))] st m := e_1 d135_149 (Or.inl rfl) rfl
theorem d135_152 : decode (mt 135).2.1 152 = .ok (.goto (-45), 3) := by decide +kernel
theorem s135_152 {ls : LV} {st : List AV} {m : MM} : go 135 152 ls st m = go 135 107 ls st m := e_1 d135_152 (Or.inl rfl) (by rw [xi, jm_some (t := 107) (by decide)]; rfl)
theorem d135_155 : decode (mt 135).2.1 155 = .ok (.aload_n 0, 1) := by decide +kernel
theorem s135_155 {a1 a2 a3 : Option AV} {st : List AV} {m : MM} {x : Nat × Option Nat} : go 135 155 [some (.inr (.inr x)), a1, a2, a3] st m = go 135 156 [some (.inr (.inr x)), a1, a2, a3] (.inr (.inr x) :: st) m := e_1 d135_155 (Or.inl rfl) rfl
theorem d135_156 : decode (mt 135).2.1 156 = .ok (.bipush 10, 2) := by decide +kernel
theorem s135_156 {ls : LV} {st : List AV} {m : MM} : go 135 156 ls st m = go 135 158 ls (.inl 10 :: st) m := e_1 d135_156 (Or.inl rfl) rfl
theorem d135_158 : decode (mt 135).2.1 158 = .ok (.iload_n 2, 1) := by decide +kernel
theorem s135_158 {a0 a1 a3 : Option AV} {st : List AV} {m : MM} {x : Int32} : go 135 158 [a0, a1, some (.inl x), a3] st m = go 135 159 [a0, a1, some (.inl x), a3] (.inl x :: st) m := e_1 d135_158 (Or.inl rfl) rfl
theorem d135_159 : decode (mt 135).2.1 159 = .ok (.bipush (-4), 2) := by decide +kernel
theorem s135_159 {ls : LV} {st : List AV} {m : MM} : go 135 159 ls st m = go 135 161 ls (.inl (-4) :: st) m := e_1 d135_159 (Or.inl rfl) rfl
theorem d135_161 : decode (mt 135).2.1 161 = .ok (.bipush (-4), 2) := by decide +kernel
theorem s135_161 {ls : LV} {st : List AV} {m : MM} : go 135 161 ls st m = go 135 163 ls (.inl (-4) :: st) m := e_1 d135_161 (Or.inl rfl) rfl
theorem d135_163 : decode (mt 135).2.1 163 = .ok (.iconst 0, 1) := by decide +kernel
theorem s135_163 {ls : LV} {st : List AV} {m : MM} : go 135 163 ls st m = go 135 164 ls (.inl 0 :: st) m := e_1 d135_163 (Or.inl rfl) rfl
theorem d135_164 : decode (mt 135).2.1 164 = .ok (.bipush (-4), 2) := by decide +kernel
theorem s135_164 {ls : LV} {st : List AV} {m : MM} : go 135 164 ls st m = go 135 166 ls (.inl (-4) :: st) m := e_1 d135_164 (Or.inl rfl) rfl
theorem d135_166 : decode (mt 135).2.1 166 = .ok (.bipush (-4), 2) := by decide +kernel
theorem s135_166 {ls : LV} {st : List AV} {m : MM} : go 135 166 ls st m = go 135 168 ls (.inl (-4) :: st) m := e_1 d135_166 (Or.inl rfl) rfl
theorem d135_168 : decode (mt 135).2.1 168 = .ok (.invokevirtual 159, 3) := by decide +kernel
theorem s135_168 {ls : LV} {m : MM} {x0 : Int32} {x1 : Int32} {x2 : Int32} {x3 : Int32} {x4 : Int32} {x5 : Int32} {x6 : Int32} {n : Nat} : go 135 168 ls [.inl x6, .inl x5, .inl x4, .inl x3, .inl x2, .inl x1, .inl x0, .inr (.inr (8, some n))] m = bd (go 119 0 [some (.inr (.inr (8, some n))), some (.inl x0), some (.inl x1), some (.inl x2), some (.inl x3), some (.inl x4), some (.inl x5), some (.inl x6), none] [] m) (fun v m2 => go 135 171 ls (v.toList ++ []) m2) := e_virt (y1 := 119) (na := 7) (as := [.inl x0, .inl x1, .inl x2, .inl x3, .inl x4, .inl x5, .inl x6]) (rest := []) d135_168 (by decide +kernel) rfl (by decide +kernel) (show (ent [.inr (.inr (8, some n)), .inl x0, .inl x1, .inl x2, .inl x3, .inl x4, .inl x5, .inl x6]).length ≤ (mt 119).2.2.2.1 from Nat.le_of_ble_eq_true rfl) (cats_le (Nat.le_of_ble_eq_true rfl)) (by decide +kernel)
theorem d135_171 : decode (mt 135).2.1 171 = .ok (.aload_n 0, 1) := by decide +kernel
theorem s135_171 {a1 a2 a3 : Option AV} {st : List AV} {m : MM} {x : Nat × Option Nat} : go 135 171 [some (.inr (.inr x)), a1, a2, a3] st m = go 135 172 [some (.inr (.inr x)), a1, a2, a3] (.inr (.inr x) :: st) m := e_1 d135_171 (Or.inl rfl) rfl
theorem d135_172 : decode (mt 135).2.1 172 = .ok (.getfield 42, 3) := by decide +kernel
theorem s135_172 {ls : LV} {st : List AV} {m : MM} {n : Nat} : go 135 172 ls (.inr (.inr (8, some n)) :: st) m = go 135 175 ls (.inr (.inr (28, mR m 8 n 11)) :: st) m := e_1 d135_172 (Or.inl rfl) (by rw [xi, pA, show lk fdL (mt 135).2.2.1 42 = some (8, 11) by decide +kernel]; rfl)
theorem d135_175 : decode (mt 135).2.1 175 = .ok (.iload_n 1, 1) := by decide +kernel
theorem s135_175 {a0 a2 a3 : Option AV} {st : List AV} {m : MM} {x : Int32} : go 135 175 [a0, some (.inl x), a2, a3] st m = go 135 176 [a0, some (.inl x), a2, a3] (.inl x :: st) m := e_1 d135_175 (Or.inl rfl) rfl
theorem d135_176 : decode (mt 135).2.1 176 = .ok (.iconst 0, 1) := by decide +kernel
theorem s135_176 {ls : LV} {st : List AV} {m : MM} : go 135 176 ls st m = go 135 177 ls (.inl 0 :: st) m := e_1 d135_176 (Or.inl rfl) rfl
theorem d135_177 : decode (mt 135).2.1 177 = .ok (.iastore, 1) := by decide +kernel
theorem s135_177 {ls : LV} {st : List AV} {m : MM} {n : Nat} {i : Int32} {x : Int32} : go 135 177 ls (.inl x :: .inl i :: .inr (.inr (28, some n)) :: st) m = ixk (ix i (mN m 28 n)) (fun j => go 135 178 ls st (sI m 28 n j x)) := e_ald d135_177 (fun j hj => by simp only [xi, pI, pL, pR, pA, hj, Option.bind_some]; exact if_pos ⟨rfl, by decide⟩) (fun hj => by simp only [xi, pI, pL, pR, pA, hj, Option.bind_none])
theorem d135_178 : decode (mt 135).2.1 178 = .ok (.aload_n 0, 1) := by decide +kernel
theorem s135_178 {a1 a2 a3 : Option AV} {st : List AV} {m : MM} {x : Nat × Option Nat} : go 135 178 [some (.inr (.inr x)), a1, a2, a3] st m = go 135 179 [some (.inr (.inr x)), a1, a2, a3] (.inr (.inr x) :: st) m := e_1 d135_178 (Or.inl rfl) rfl
theorem d135_179 : decode (mt 135).2.1 179 = .ok (.invokevirtual 216, 3) := by decide +kernel
theorem s135_179 {ls : LV} {m : MM} {n : Nat} : go 135 179 ls [.inr (.inr (8, some n))] m = bd (go 132 0 [some (.inr (.inr (8, some n)))] [] m) (fun v m2 => go 135 182 ls (v.toList ++ []) m2) := e_virt (y1 := 132) (na := 0) (as := []) (rest := []) d135_179 (by decide +kernel) rfl (by decide +kernel) (show (ent [.inr (.inr (8, some n))]).length ≤ (mt 132).2.2.2.1 from Nat.le_of_ble_eq_true rfl) (cats_le (Nat.le_of_ble_eq_true rfl)) (by decide +kernel)
theorem d135_182 : decode (mt 135).2.1 182 = .ok (.iconst 1, 1) := by decide +kernel
theorem s135_182 {ls : LV} {st : List AV} {m : MM} : go 135 182 ls st m = go 135 183 ls (.inl 1 :: st) m := e_1 d135_182 (Or.inl rfl) rfl
theorem d135_183 : decode (mt 135).2.1 183 = .ok (.ireturn, 1) := by decide +kernel
theorem s135_183 {ls : LV} {m : MM} {x : Int32} : go 135 183 ls [.inl x] m = some (some (.inl x), m) := e_int d135_183 (by decide +kernel)
/-! X7_again: 136 -/
theorem d136_0 : decode (mt 136).2.1 0 = .ok (.aload_n 0, 1) := by decide +kernel
theorem s136_0 {a1 a2 : Option AV} {st : List AV} {m : MM} {x : Nat × Option Nat} : go 136 0 [some (.inr (.inr x)), a1, a2] st m = go 136 1 [some (.inr (.inr x)), a1, a2] (.inr (.inr x) :: st) m := e_1 d136_0 (Or.inl rfl) rfl
theorem d136_1 : decode (mt 136).2.1 1 = .ok (.iload_n 1, 1) := by decide +kernel
theorem s136_1 {a0 a2 : Option AV} {st : List AV} {m : MM} {x : Int32} : go 136 1 [a0, some (.inl x), a2] st m = go 136 2 [a0, some (.inl x), a2] (.inl x :: st) m := e_1 d136_1 (Or.inl rfl) rfl
theorem d136_2 : decode (mt 136).2.1 2 = .ok (.invokevirtual 203, 3) := by decide +kernel
theorem s136_2 {ls : LV} {m : MM} {x0 : Int32} {n : Nat} : go 136 2 ls [.inl x0, .inr (.inr (8, some n))] m = bd (go 104 0 [some (.inr (.inr (8, some n))), some (.inl x0)] [] m) (fun v m2 => go 136 5 ls (v.toList ++ []) m2) := e_virt (y1 := 104) (na := 1) (as := [.inl x0]) (rest := []) d136_2 (by decide +kernel) rfl (by decide +kernel) (show (ent [.inr (.inr (8, some n)), .inl x0]).length ≤ (mt 104).2.2.2.1 from Nat.le_of_ble_eq_true rfl) (cats_le (Nat.le_of_ble_eq_true rfl)) (by decide +kernel)
theorem d136_5 : decode (mt 136).2.1 5 = .ok (.ifCond .eq 15, 3) := by decide +kernel
theorem s136_5 {ls : LV} {st : List AV} {m : MM} {a : Int32} : go 136 5 ls (.inl a :: st) m = if a = 0 then go 136 20 ls st m else go 136 8 ls st m := e_if (t := 20) (b := hc .eq a 0) d136_5 (Or.inl rfl) (by simp only [xi, pI, jm_some (t := 20) (show ((5 : Nat) : Int) + 15 = ((20 : Nat) : Int) by decide), Option.bind_some]) (by simp [hc])
theorem d136_8 : decode (mt 136).2.1 8 = .ok (.iload_n 2, 1) := by decide +kernel
theorem s136_8 {a0 a1 : Option AV} {st : List AV} {m : MM} {x : Int32} : go 136 8 [a0, a1, some (.inl x)] st m = go 136 9 [a0, a1, some (.inl x)] (.inl x :: st) m := e_1 d136_8 (Or.inl rfl) rfl
theorem d136_9 : decode (mt 136).2.1 9 = .ok (.i2l, 1) := by decide +kernel
theorem s136_9 {ls : LV} {st : List AV} {m : MM} {a : Int32} : go 136 9 ls (.inl a :: st) m = go 136 10 ls (.inr (.inl a.toInt64) :: st) m := e_1 d136_9 (Or.inl rfl) rfl
theorem d136_10 : decode (mt 136).2.1 10 = .ok (.lconst 0, 1) := by decide +kernel
theorem s136_10 {ls : LV} {st : List AV} {m : MM} : go 136 10 ls st m = go 136 11 ls (.inr (.inl 0) :: st) m := e_1 d136_10 (Or.inl rfl) rfl
theorem d136_11 : decode (mt 136).2.1 11 = .ok (.ldc2_w 130, 3) := by decide +kernel
theorem s136_11 {ls : LV} {st : List AV} {m : MM} : go 136 11 ls st m = go 136 14 ls (.inr (.inl 255) :: st) m := e_1 d136_11 (Or.inl rfl) (by rw [xi, show lk c2L (mt 136).2.2.1 130 = some 255 by decide +kernel]; rfl)
theorem d136_14 : decode (mt 136).2.1 14 = .ok (.invokestatic 118, 3) := by decide +kernel
theorem s136_14 {ls : LV} {m : MM} {x0 : Int64} {x1 : Int64} {x2 : Int64} : go 136 14 ls [.inr (.inl x2), .inr (.inl x1), .inr (.inl x0)] m = bd (go 103 0 [some (.inr (.inl x0)), none, some (.inr (.inl x1)), none, some (.inr (.inl x2)), none] [] m) (fun v m2 => go 136 17 ls (v.toList ++ []) m2) := e_stat (y1 := 103) (na := 3) (as := [.inr (.inl x0), .inr (.inl x1), .inr (.inl x2)]) (rest := []) d136_14 (by decide +kernel) rfl (by decide +kernel) (show (ent [.inr (.inl x0), .inr (.inl x1), .inr (.inl x2)]).length ≤ (mt 103).2.2.2.1 from Nat.le_of_ble_eq_true rfl) (cats_le (Nat.le_of_ble_eq_true rfl)) (by decide +kernel)
theorem d136_17 : decode (mt 136).2.1 17 = .ok (.ifCond .ne 5, 3) := by decide +kernel
theorem s136_17 {ls : LV} {st : List AV} {m : MM} {a : Int32} : go 136 17 ls (.inl a :: st) m = if ¬ a = 0 then go 136 22 ls st m else go 136 20 ls st m := e_if (t := 22) (b := hc .ne a 0) d136_17 (Or.inl rfl) (by simp only [xi, pI, jm_some (t := 22) (show ((17 : Nat) : Int) + 5 = ((22 : Nat) : Int) by decide), Option.bind_some]) (by simp [hc])
theorem d136_20 : decode (mt 136).2.1 20 = .ok (.iconst (-1), 1) := by decide +kernel
theorem s136_20 {ls : LV} {st : List AV} {m : MM} : go 136 20 ls st m = go 136 21 ls (.inl (-1) :: st) m := e_1 d136_20 (Or.inl rfl) rfl
theorem d136_21 : decode (mt 136).2.1 21 = .ok (.ireturn, 1) := by decide +kernel
theorem s136_21 {ls : LV} {m : MM} {x : Int32} : go 136 21 ls [.inl x] m = some (some (.inl x), m) := e_int d136_21 (by decide +kernel)
theorem d136_22 : decode (mt 136).2.1 22 = .ok (.aload_n 0, 1) := by decide +kernel
theorem s136_22 {a1 a2 : Option AV} {st : List AV} {m : MM} {x : Nat × Option Nat} : go 136 22 [some (.inr (.inr x)), a1, a2] st m = go 136 23 [some (.inr (.inr x)), a1, a2] (.inr (.inr x) :: st) m := e_1 d136_22 (Or.inl rfl) rfl
theorem d136_23 : decode (mt 136).2.1 23 = .ok (.getfield 186, 3) := by decide +kernel
theorem s136_23 {ls : LV} {st : List AV} {m : MM} {n : Nat} : go 136 23 ls (.inr (.inr (8, some n)) :: st) m = go 136 26 ls (.inl (mI m 8 n 41) :: st) m := e_1 d136_23 (Or.inl rfl) (by rw [xi, pA, show lk fdL (mt 136).2.2.1 186 = some (8, 41) by decide +kernel]; rfl)
theorem d136_26 : decode (mt 136).2.1 26 = .ok (.ifCond .gt 13, 3) := by decide +kernel
theorem s136_26 {ls : LV} {st : List AV} {m : MM} {a : Int32} : go 136 26 ls (.inl a :: st) m = if 0 < a then go 136 39 ls st m else go 136 29 ls st m := e_if (t := 39) (b := hc .gt a 0) d136_26 (Or.inl rfl) (by simp only [xi, pI, jm_some (t := 39) (show ((26 : Nat) : Int) + 13 = ((39 : Nat) : Int) by decide), Option.bind_some]) (by simp [hc])
theorem d136_29 : decode (mt 136).2.1 29 = .ok (.aload_n 0, 1) := by decide +kernel
theorem s136_29 {a1 a2 : Option AV} {st : List AV} {m : MM} {x : Nat × Option Nat} : go 136 29 [some (.inr (.inr x)), a1, a2] st m = go 136 30 [some (.inr (.inr x)), a1, a2] (.inr (.inr x) :: st) m := e_1 d136_29 (Or.inl rfl) rfl
theorem d136_30 : decode (mt 136).2.1 30 = .ok (.getfield 20, 3) := by decide +kernel
theorem s136_30 {ls : LV} {st : List AV} {m : MM} {n : Nat} : go 136 30 ls (.inr (.inr (8, some n)) :: st) m = go 136 33 ls (.inr (.inr (21, mR m 8 n 4)) :: st) m := e_1 d136_30 (Or.inl rfl) (by rw [xi, pA, show lk fdL (mt 136).2.2.1 20 = some (8, 4) by decide +kernel]; rfl)
theorem d136_33 : decode (mt 136).2.1 33 = .ok (.iload_n 1, 1) := by decide +kernel
theorem s136_33 {a0 a2 : Option AV} {st : List AV} {m : MM} {x : Int32} : go 136 33 [a0, some (.inl x), a2] st m = go 136 34 [a0, some (.inl x), a2] (.inl x :: st) m := e_1 d136_33 (Or.inl rfl) rfl
theorem d136_34 : decode (mt 136).2.1 34 = .ok (.iaload, 1) := by decide +kernel
theorem s136_34 {ls : LV} {st : List AV} {m : MM} {n : Nat} {i : Int32} : go 136 34 ls (.inl i :: .inr (.inr (21, some n)) :: st) m = ixk (ix i (mN m 21 n)) (fun j => go 136 35 ls (.inl (mI m 21 n j) :: st) m) := e_ald d136_34 (fun j hj => by simp only [xi, pI, pA, hj, Option.bind_some]; rfl) (fun hj => by simp only [xi, pI, pA, hj, Option.bind_none])
theorem d136_35 : decode (mt 136).2.1 35 = .ok (.iconst 2, 1) := by decide +kernel
theorem s136_35 {ls : LV} {st : List AV} {m : MM} : go 136 35 ls st m = go 136 36 ls (.inl 2 :: st) m := e_1 d136_35 (Or.inl rfl) rfl
theorem d136_36 : decode (mt 136).2.1 36 = .ok (.if_icmp .eq 6, 3) := by decide +kernel
theorem s136_36 {ls : LV} {st : List AV} {m : MM} {a b : Int32} : go 136 36 ls (.inl b :: .inl a :: st) m = if a = b then go 136 42 ls st m else go 136 39 ls st m := e_if (t := 42) (b := hc .eq a b) d136_36 (Or.inl rfl) (by simp only [xi, pI, jm_some (t := 42) (show ((36 : Nat) : Int) + 6 = ((42 : Nat) : Int) by decide), Option.bind_some]) (by simp [hc])
theorem d136_39 : decode (mt 136).2.1 39 = .ok (.bipush (-2), 2) := by decide +kernel
theorem s136_39 {ls : LV} {st : List AV} {m : MM} : go 136 39 ls st m = go 136 41 ls (.inl (-2) :: st) m := e_1 d136_39 (Or.inl rfl) rfl
theorem d136_41 : decode (mt 136).2.1 41 = .ok (.ireturn, 1) := by decide +kernel
theorem s136_41 {ls : LV} {m : MM} {x : Int32} : go 136 41 ls [.inl x] m = some (some (.inl x), m) := e_int d136_41 (by decide +kernel)
theorem d136_42 : decode (mt 136).2.1 42 = .ok (.aload_n 0, 1) := by decide +kernel
theorem s136_42 {a1 a2 : Option AV} {st : List AV} {m : MM} {x : Nat × Option Nat} : go 136 42 [some (.inr (.inr x)), a1, a2] st m = go 136 43 [some (.inr (.inr x)), a1, a2] (.inr (.inr x) :: st) m := e_1 d136_42 (Or.inl rfl) rfl
theorem d136_43 : decode (mt 136).2.1 43 = .ok (.iconst 3, 1) := by decide +kernel
theorem s136_43 {ls : LV} {st : List AV} {m : MM} : go 136 43 ls st m = go 136 44 ls (.inl 3 :: st) m := e_1 d136_43 (Or.inl rfl) rfl
theorem d136_44 : decode (mt 136).2.1 44 = .ok (.putfield 186, 3) := by decide +kernel
theorem s136_44 {ls : LV} {st : List AV} {m : MM} {n : Nat} {x : Int32} : go 136 44 ls (.inl x :: .inr (.inr (8, some n)) :: st) m = go 136 47 ls st (sI m 8 n 41 x) := e_put (r := 8) (f := 41) d136_44 (by decide +kernel) rfl (by decide +kernel)
theorem d136_47 : decode (mt 136).2.1 47 = .ok (.aload_n 0, 1) := by decide +kernel
theorem s136_47 {a1 a2 : Option AV} {st : List AV} {m : MM} {x : Nat × Option Nat} : go 136 47 [some (.inr (.inr x)), a1, a2] st m = go 136 48 [some (.inr (.inr x)), a1, a2] (.inr (.inr x) :: st) m := e_1 d136_47 (Or.inl rfl) rfl
theorem d136_48 : decode (mt 136).2.1 48 = .ok (.iload_n 1, 1) := by decide +kernel
theorem s136_48 {a0 a2 : Option AV} {st : List AV} {m : MM} {x : Int32} : go 136 48 [a0, some (.inl x), a2] st m = go 136 49 [a0, some (.inl x), a2] (.inl x :: st) m := e_1 d136_48 (Or.inl rfl) rfl
theorem d136_49 : decode (mt 136).2.1 49 = .ok (.putfield 197, 3) := by decide +kernel
theorem s136_49 {ls : LV} {st : List AV} {m : MM} {n : Nat} {x : Int32} : go 136 49 ls (.inl x :: .inr (.inr (8, some n)) :: st) m = go 136 52 ls st (sI m 8 n 42 x) := e_put (r := 8) (f := 42) d136_49 (by decide +kernel) rfl (by decide +kernel)
theorem d136_52 : decode (mt 136).2.1 52 = .ok (.aload_n 0, 1) := by decide +kernel
theorem s136_52 {a1 a2 : Option AV} {st : List AV} {m : MM} {x : Nat × Option Nat} : go 136 52 [some (.inr (.inr x)), a1, a2] st m = go 136 53 [some (.inr (.inr x)), a1, a2] (.inr (.inr x) :: st) m := e_1 d136_52 (Or.inl rfl) rfl
theorem d136_53 : decode (mt 136).2.1 53 = .ok (.iload_n 2, 1) := by decide +kernel
theorem s136_53 {a0 a1 : Option AV} {st : List AV} {m : MM} {x : Int32} : go 136 53 [a0, a1, some (.inl x)] st m = go 136 54 [a0, a1, some (.inl x)] (.inl x :: st) m := e_1 d136_53 (Or.inl rfl) rfl
theorem d136_54 : decode (mt 136).2.1 54 = .ok (.putfield 200, 3) := by decide +kernel
theorem s136_54 {ls : LV} {st : List AV} {m : MM} {n : Nat} {x : Int32} : go 136 54 ls (.inl x :: .inr (.inr (8, some n)) :: st) m = go 136 57 ls st (sI m 8 n 44 x) := e_put (r := 8) (f := 44) d136_54 (by decide +kernel) rfl (by decide +kernel)
theorem d136_57 : decode (mt 136).2.1 57 = .ok (.aload_n 0, 1) := by decide +kernel
theorem s136_57 {a1 a2 : Option AV} {st : List AV} {m : MM} {x : Nat × Option Nat} : go 136 57 [some (.inr (.inr x)), a1, a2] st m = go 136 58 [some (.inr (.inr x)), a1, a2] (.inr (.inr x) :: st) m := e_1 d136_57 (Or.inl rfl) rfl
theorem d136_58 : decode (mt 136).2.1 58 = .ok (.iconst 0, 1) := by decide +kernel
theorem s136_58 {ls : LV} {st : List AV} {m : MM} : go 136 58 ls st m = go 136 59 ls (.inl 0 :: st) m := e_1 d136_58 (Or.inl rfl) rfl
theorem d136_59 : decode (mt 136).2.1 59 = .ok (.putfield 189, 3) := by decide +kernel
theorem s136_59b0 {ls : LV} {st : List AV} {m : MM} {n : Nat} : go 136 59 ls (.inl 0 :: .inr (.inr (8, some n)) :: st) m = go 136 62 ls st (sI m 8 n 43 0) := e_put (r := 8) (f := 43) d136_59 (by decide +kernel) rfl (by decide +kernel)
theorem s136_59b1 {ls : LV} {st : List AV} {m : MM} {n : Nat} : go 136 59 ls (.inl 1 :: .inr (.inr (8, some n)) :: st) m = go 136 62 ls st (sI m 8 n 43 1) := e_put (r := 8) (f := 43) d136_59 (by decide +kernel) rfl (by decide +kernel)
theorem d136_62 : decode (mt 136).2.1 62 = .ok (.aload_n 0, 1) := by decide +kernel
theorem s136_62 {a1 a2 : Option AV} {st : List AV} {m : MM} {x : Nat × Option Nat} : go 136 62 [some (.inr (.inr x)), a1, a2] st m = go 136 63 [some (.inr (.inr x)), a1, a2] (.inr (.inr x) :: st) m := e_1 d136_62 (Or.inl rfl) rfl
theorem d136_63 : decode (mt 136).2.1 63 = .ok (.iload_n 1, 1) := by decide +kernel
theorem s136_63 {a0 a2 : Option AV} {st : List AV} {m : MM} {x : Int32} : go 136 63 [a0, some (.inl x), a2] st m = go 136 64 [a0, some (.inl x), a2] (.inl x :: st) m := e_1 d136_63 (Or.inl rfl) rfl
theorem d136_64 : decode (mt 136).2.1 64 = .ok (.iconst 1, 1) := by decide +kernel
theorem s136_64 {ls : LV} {st : List AV} {m : MM} : go 136 64 ls st m = go 136 65 ls (.inl 1 :: st) m := e_1 d136_64 (Or.inl rfl) rfl
theorem d136_65 : decode (mt 136).2.1 65 = .ok (.invokevirtual 213, 3) := by decide +kernel
theorem s136_65 {ls : LV} {m : MM} {x0 : Int32} {x1 : Int32} {n : Nat} : go 136 65 ls [.inl x1, .inl x0, .inr (.inr (8, some n))] m = bd (go 127 0 [some (.inr (.inr (8, some n))), some (.inl x0), some (.inl x1), none, none, none] [] m) (fun v m2 => go 136 68 ls (v.toList ++ []) m2) := e_virt (y1 := 127) (na := 2) (as := [.inl x0, .inl x1]) (rest := []) d136_65 (by decide +kernel) rfl (by decide +kernel) (show (ent [.inr (.inr (8, some n)), .inl x0, .inl x1]).length ≤ (mt 127).2.2.2.1 from Nat.le_of_ble_eq_true rfl) (cats_le (Nat.le_of_ble_eq_true rfl)) (by decide +kernel)
theorem d136_68 : decode (mt 136).2.1 68 = .ok (.aload_n 0, 1) := by decide +kernel
theorem s136_68 {a1 a2 : Option AV} {st : List AV} {m : MM} {x : Nat × Option Nat} : go 136 68 [some (.inr (.inr x)), a1, a2] st m = go 136 69 [some (.inr (.inr x)), a1, a2] (.inr (.inr x) :: st) m := e_1 d136_68 (Or.inl rfl) rfl
theorem d136_69 : decode (mt 136).2.1 69 = .ok (.iload_n 1, 1) := by decide +kernel
theorem s136_69 {a0 a2 : Option AV} {st : List AV} {m : MM} {x : Int32} : go 136 69 [a0, some (.inl x), a2] st m = go 136 70 [a0, some (.inl x), a2] (.inl x :: st) m := e_1 d136_69 (Or.inl rfl) rfl
theorem d136_70 : decode (mt 136).2.1 70 = .ok (.iconst 1, 1) := by decide +kernel
theorem s136_70 {ls : LV} {st : List AV} {m : MM} : go 136 70 ls st m = go 136 71 ls (.inl 1 :: st) m := e_1 d136_70 (Or.inl rfl) rfl
theorem d136_71 : decode (mt 136).2.1 71 = .ok (.invokevirtual 122, 3) := by decide +kernel
theorem s136_71 {ls : LV} {m : MM} {x0 : Int32} {x1 : Int32} {n : Nat} : go 136 71 ls [.inl x1, .inl x0, .inr (.inr (8, some n))] m = bd (go 107 0 [some (.inr (.inr (8, some n))), some (.inl x0), some (.inl x1), none] [] m) (fun v m2 => go 136 74 ls (v.toList ++ []) m2) := e_virt (y1 := 107) (na := 2) (as := [.inl x0, .inl x1]) (rest := []) d136_71 (by decide +kernel) rfl (by decide +kernel) (show (ent [.inr (.inr (8, some n)), .inl x0, .inl x1]).length ≤ (mt 107).2.2.2.1 from Nat.le_of_ble_eq_true rfl) (cats_le (Nat.le_of_ble_eq_true rfl)) (by decide +kernel)
theorem d136_74 : decode (mt 136).2.1 74 = .ok (.aload_n 0, 1) := by decide +kernel
theorem s136_74 {a1 a2 : Option AV} {st : List AV} {m : MM} {x : Nat × Option Nat} : go 136 74 [some (.inr (.inr x)), a1, a2] st m = go 136 75 [some (.inr (.inr x)), a1, a2] (.inr (.inr x) :: st) m := e_1 d136_74 (Or.inl rfl) rfl
theorem d136_75 : decode (mt 136).2.1 75 = .ok (.invokevirtual 216, 3) := by decide +kernel
theorem s136_75 {ls : LV} {m : MM} {n : Nat} : go 136 75 ls [.inr (.inr (8, some n))] m = bd (go 132 0 [some (.inr (.inr (8, some n)))] [] m) (fun v m2 => go 136 78 ls (v.toList ++ []) m2) := e_virt (y1 := 132) (na := 0) (as := []) (rest := []) d136_75 (by decide +kernel) rfl (by decide +kernel) (show (ent [.inr (.inr (8, some n))]).length ≤ (mt 132).2.2.2.1 from Nat.le_of_ble_eq_true rfl) (cats_le (Nat.le_of_ble_eq_true rfl)) (by decide +kernel)
theorem d136_78 : decode (mt 136).2.1 78 = .ok (.iconst 1, 1) := by decide +kernel
theorem s136_78 {ls : LV} {st : List AV} {m : MM} : go 136 78 ls st m = go 136 79 ls (.inl 1 :: st) m := e_1 d136_78 (Or.inl rfl) rfl
theorem d136_79 : decode (mt 136).2.1 79 = .ok (.ireturn, 1) := by decide +kernel
theorem s136_79 {ls : LV} {m : MM} {x : Int32} : go 136 79 ls [.inl x] m = some (some (.inl x), m) := e_int d136_79 (by decide +kernel)
/-! X7_askOf: 137 -/
theorem d137_0 : decode (mt 137).2.1 0 = .ok (.aload_n 0, 1) := by decide +kernel
theorem s137_0 {a1 a2 a3 a4 a5 a6 a7 a8 : Option AV} {st : List AV} {m : MM} {x : Nat × Option Nat} : go 137 0 [some (.inr (.inr x)), a1, a2, a3, a4, a5, a6, a7, a8] st m = go 137 1 [some (.inr (.inr x)), a1, a2, a3, a4, a5, a6, a7, a8] (.inr (.inr x) :: st) m := e_1 d137_0 (Or.inl rfl) rfl
theorem d137_1 : decode (mt 137).2.1 1 = .ok (.getfield 20, 3) := by decide +kernel
theorem s137_1 {ls : LV} {st : List AV} {m : MM} {n : Nat} : go 137 1 ls (.inr (.inr (8, some n)) :: st) m = go 137 4 ls (.inr (.inr (21, mR m 8 n 4)) :: st) m := e_1 d137_1 (Or.inl rfl) (by rw [xi, pA, show lk fdL (mt 137).2.2.1 20 = some (8, 4) by decide +kernel]; rfl)
theorem d137_4 : decode (mt 137).2.1 4 = .ok (.iload_n 2, 1) := by decide +kernel
theorem s137_4 {a0 a1 a3 a4 a5 a6 a7 a8 : Option AV} {st : List AV} {m : MM} {x : Int32} : go 137 4 [a0, a1, some (.inl x), a3, a4, a5, a6, a7, a8] st m = go 137 5 [a0, a1, some (.inl x), a3, a4, a5, a6, a7, a8] (.inl x :: st) m := e_1 d137_4 (Or.inl rfl) rfl
theorem d137_5 : decode (mt 137).2.1 5 = .ok (.iaload, 1) := by decide +kernel
theorem s137_5 {ls : LV} {st : List AV} {m : MM} {n : Nat} {i : Int32} : go 137 5 ls (.inl i :: .inr (.inr (21, some n)) :: st) m = ixk (ix i (mN m 21 n)) (fun j => go 137 6 ls (.inl (mI m 21 n j) :: st) m) := e_ald d137_5 (fun j hj => by simp only [xi, pI, pA, hj, Option.bind_some]; rfl) (fun hj => by simp only [xi, pI, pA, hj, Option.bind_none])
theorem d137_6 : decode (mt 137).2.1 6 = .ok (.iconst 2, 1) := by decide +kernel
theorem s137_6 {ls : LV} {st : List AV} {m : MM} : go 137 6 ls st m = go 137 7 ls (.inl 2 :: st) m := e_1 d137_6 (Or.inl rfl) rfl
theorem d137_7 : decode (mt 137).2.1 7 = .ok (.if_icmp .eq 6, 3) := by decide +kernel
theorem s137_7 {ls : LV} {st : List AV} {m : MM} {a b : Int32} : go 137 7 ls (.inl b :: .inl a :: st) m = if a = b then go 137 13 ls st m else go 137 10 ls st m := e_if (t := 13) (b := hc .eq a b) d137_7 (Or.inl rfl) (by simp only [xi, pI, jm_some (t := 13) (show ((7 : Nat) : Int) + 6 = ((13 : Nat) : Int) by decide), Option.bind_some]) (by simp [hc])
theorem d137_10 : decode (mt 137).2.1 10 = .ok (.bipush (-2), 2) := by decide +kernel
theorem s137_10 {ls : LV} {st : List AV} {m : MM} : go 137 10 ls st m = go 137 12 ls (.inl (-2) :: st) m := e_1 d137_10 (Or.inl rfl) rfl
theorem d137_12 : decode (mt 137).2.1 12 = .ok (.ireturn, 1) := by decide +kernel
theorem s137_12 {ls : LV} {m : MM} {x : Int32} : go 137 12 ls [.inl x] m = some (some (.inl x), m) := e_int d137_12 (by decide +kernel)
theorem d137_13 : decode (mt 137).2.1 13 = .ok (.iload_n 1, 1) := by decide +kernel
theorem s137_13 {a0 a2 a3 a4 a5 a6 a7 a8 : Option AV} {st : List AV} {m : MM} {x : Int32} : go 137 13 [a0, some (.inl x), a2, a3, a4, a5, a6, a7, a8] st m = go 137 14 [a0, some (.inl x), a2, a3, a4, a5, a6, a7, a8] (.inl x :: st) m := e_1 d137_13 (Or.inl rfl) rfl
theorem d137_14 : decode (mt 137).2.1 14 = .ok (.iconst 3, 1) := by decide +kernel
theorem s137_14 {ls : LV} {st : List AV} {m : MM} : go 137 14 ls st m = go 137 15 ls (.inl 3 :: st) m := e_1 d137_14 (Or.inl rfl) rfl
theorem d137_15 : decode (mt 137).2.1 15 = .ok (.if_icmp .ne 7, 3) := by decide +kernel
theorem s137_15 {ls : LV} {st : List AV} {m : MM} {a b : Int32} : go 137 15 ls (.inl b :: .inl a :: st) m = if ¬ a = b then go 137 22 ls st m else go 137 18 ls st m := e_if (t := 22) (b := hc .ne a b) d137_15 (Or.inl rfl) (by simp only [xi, pI, jm_some (t := 22) (show ((15 : Nat) : Int) + 7 = ((22 : Nat) : Int) by decide), Option.bind_some]) (by simp [hc])
theorem d137_18 : decode (mt 137).2.1 18 = .ok (.iconst 1, 1) := by decide +kernel
theorem s137_18 {ls : LV} {st : List AV} {m : MM} : go 137 18 ls st m = go 137 19 ls (.inl 1 :: st) m := e_1 d137_18 (Or.inl rfl) rfl
theorem d137_19 : decode (mt 137).2.1 19 = .ok (.goto 4, 3) := by decide +kernel
theorem s137_19 {ls : LV} {st : List AV} {m : MM} : go 137 19 ls st m = go 137 23 ls st m := e_1 d137_19 (Or.inl rfl) (by rw [xi, jm_some (t := 23) (by decide)]; rfl)
theorem d137_22 : decode (mt 137).2.1 22 = .ok (.iconst 0, 1) := by decide +kernel
theorem s137_22 {ls : LV} {st : List AV} {m : MM} : go 137 22 ls st m = go 137 23 ls (.inl 0 :: st) m := e_1 d137_22 (Or.inl rfl) rfl
theorem d137_23 : decode (mt 137).2.1 23 = .ok (.istore 7, 2) := by decide +kernel
theorem s137_23i {a0 a1 a2 a3 a4 a5 a7 a8 : Option AV} {z : Int32} {st : List AV} {m : MM} {x : Int32} : go 137 23 [a0, a1, a2, a3, a4, a5, some (.inl z), a7, a8] (.inl x :: st) m = go 137 25 [a0, a1, a2, a3, a4, a5, some (.inl z), some (.inl x), a8] st m := e_1 d137_23 (Or.inl rfl) rfl
theorem s137_23r {a0 a1 a2 a3 a4 a5 a7 a8 : Option AV} {z : Nat × Option Nat} {st : List AV} {m : MM} {x : Int32} : go 137 23 [a0, a1, a2, a3, a4, a5, some (.inr (.inr z)), a7, a8] (.inl x :: st) m = go 137 25 [a0, a1, a2, a3, a4, a5, some (.inr (.inr z)), some (.inl x), a8] st m := e_1 d137_23 (Or.inl rfl) rfl
theorem s137_23n {a0 a1 a2 a3 a4 a5 a7 a8 : Option AV} {st : List AV} {m : MM} {x : Int32} : go 137 23 [a0, a1, a2, a3, a4, a5, none, a7, a8] (.inl x :: st) m = go 137 25 [a0, a1, a2, a3, a4, a5, none, some (.inl x), a8] st m := e_1 d137_23 (Or.inl rfl) rfl
theorem d137_25 : decode (mt 137).2.1 25 = .ok (.iconst 0, 1) := by decide +kernel
theorem s137_25 {ls : LV} {st : List AV} {m : MM} : go 137 25 ls st m = go 137 26 ls (.inl 0 :: st) m := e_1 d137_25 (Or.inl rfl) rfl
theorem d137_26 : decode (mt 137).2.1 26 = .ok (.istore 8, 2) := by decide +kernel
theorem s137_26i {a0 a1 a2 a3 a4 a5 a6 a8 : Option AV} {z : Int32} {st : List AV} {m : MM} {x : Int32} : go 137 26 [a0, a1, a2, a3, a4, a5, a6, some (.inl z), a8] (.inl x :: st) m = go 137 28 [a0, a1, a2, a3, a4, a5, a6, some (.inl z), some (.inl x)] st m := e_1 d137_26 (Or.inl rfl) rfl
theorem s137_26r {a0 a1 a2 a3 a4 a5 a6 a8 : Option AV} {z : Nat × Option Nat} {st : List AV} {m : MM} {x : Int32} : go 137 26 [a0, a1, a2, a3, a4, a5, a6, some (.inr (.inr z)), a8] (.inl x :: st) m = go 137 28 [a0, a1, a2, a3, a4, a5, a6, some (.inr (.inr z)), some (.inl x)] st m := e_1 d137_26 (Or.inl rfl) rfl
theorem s137_26n {a0 a1 a2 a3 a4 a5 a6 a8 : Option AV} {st : List AV} {m : MM} {x : Int32} : go 137 26 [a0, a1, a2, a3, a4, a5, a6, none, a8] (.inl x :: st) m = go 137 28 [a0, a1, a2, a3, a4, a5, a6, none, some (.inl x)] st m := e_1 d137_26 (Or.inl rfl) rfl
theorem d137_28 : decode (mt 137).2.1 28 = .ok (.iload 8, 2) := by decide +kernel
theorem s137_28 {a0 a1 a2 a3 a4 a5 a6 a7 : Option AV} {st : List AV} {m : MM} {x : Int32} : go 137 28 [a0, a1, a2, a3, a4, a5, a6, a7, some (.inl x)] st m = go 137 30 [a0, a1, a2, a3, a4, a5, a6, a7, some (.inl x)] (.inl x :: st) m := e_1 d137_28 (Or.inl rfl) rfl
theorem d137_30 : decode (mt 137).2.1 30 = .ok (.aload_n 0, 1) := by decide +kernel
theorem s137_30 {a1 a2 a3 a4 a5 a6 a7 a8 : Option AV} {st : List AV} {m : MM} {x : Nat × Option Nat} : go 137 30 [some (.inr (.inr x)), a1, a2, a3, a4, a5, a6, a7, a8] st m = go 137 31 [some (.inr (.inr x)), a1, a2, a3, a4, a5, a6, a7, a8] (.inr (.inr x) :: st) m := e_1 d137_30 (Or.inl rfl) rfl
theorem d137_31 : decode (mt 137).2.1 31 = .ok (.getfield 219, 3) := by decide +kernel
theorem s137_31 {ls : LV} {st : List AV} {m : MM} {n : Nat} : go 137 31 ls (.inr (.inr (8, some n)) :: st) m = go 137 34 ls (.inl (mI m 8 n 14) :: st) m := e_1 d137_31 (Or.inl rfl) (by rw [xi, pA, show lk fdL (mt 137).2.2.1 219 = some (8, 14) by decide +kernel]; rfl)
theorem d137_34 : decode (mt 137).2.1 34 = .ok (.if_icmp .ge 32, 3) := by decide +kernel
theorem s137_34 {ls : LV} {st : List AV} {m : MM} {a b : Int32} : go 137 34 ls (.inl b :: .inl a :: st) m = if b ≤ a then go 137 66 ls st m else go 137 37 ls st m := e_if (t := 66) (b := hc .ge a b) d137_34 (Or.inl rfl) (by simp only [xi, pI, jm_some (t := 66) (show ((34 : Nat) : Int) + 32 = ((66 : Nat) : Int) by decide), Option.bind_some]) (by simp [hc])
theorem d137_37 : decode (mt 137).2.1 37 = .ok (.iload 7, 2) := by decide +kernel
theorem s137_37 {a0 a1 a2 a3 a4 a5 a6 a8 : Option AV} {st : List AV} {m : MM} {x : Int32} : go 137 37 [a0, a1, a2, a3, a4, a5, a6, some (.inl x), a8] st m = go 137 39 [a0, a1, a2, a3, a4, a5, a6, some (.inl x), a8] (.inl x :: st) m := e_1 d137_37 (Or.inl rfl) rfl
theorem d137_39 : decode (mt 137).2.1 39 = .ok (.ifCond .eq 18, 3) := by decide +kernel
theorem s137_39 {ls : LV} {st : List AV} {m : MM} {a : Int32} : go 137 39 ls (.inl a :: st) m = if a = 0 then go 137 57 ls st m else go 137 42 ls st m := e_if (t := 57) (b := hc .eq a 0) d137_39 (Or.inl rfl) (by simp only [xi, pI, jm_some (t := 57) (show ((39 : Nat) : Int) + 18 = ((57 : Nat) : Int) by decide), Option.bind_some]) (by simp [hc])
theorem d137_42 : decode (mt 137).2.1 42 = .ok (.aload_n 0, 1) := by decide +kernel
theorem s137_42 {a1 a2 a3 a4 a5 a6 a7 a8 : Option AV} {st : List AV} {m : MM} {x : Nat × Option Nat} : go 137 42 [some (.inr (.inr x)), a1, a2, a3, a4, a5, a6, a7, a8] st m = go 137 43 [some (.inr (.inr x)), a1, a2, a3, a4, a5, a6, a7, a8] (.inr (.inr x) :: st) m := e_1 d137_42 (Or.inl rfl) rfl
theorem d137_43 : decode (mt 137).2.1 43 = .ok (.getfield 52, 3) := by decide +kernel
theorem s137_43 {ls : LV} {st : List AV} {m : MM} {n : Nat} : go 137 43 ls (.inr (.inr (8, some n)) :: st) m = go 137 46 ls (.inr (.inr (31, mR m 8 n 15)) :: st) m := e_1 d137_43 (Or.inl rfl) (by rw [xi, pA, show lk fdL (mt 137).2.2.1 52 = some (8, 15) by decide +kernel]; rfl)
theorem d137_46 : decode (mt 137).2.1 46 = .ok (.iload 8, 2) := by decide +kernel
theorem s137_46 {a0 a1 a2 a3 a4 a5 a6 a7 : Option AV} {st : List AV} {m : MM} {x : Int32} : go 137 46 [a0, a1, a2, a3, a4, a5, a6, a7, some (.inl x)] st m = go 137 48 [a0, a1, a2, a3, a4, a5, a6, a7, some (.inl x)] (.inl x :: st) m := e_1 d137_46 (Or.inl rfl) rfl
theorem d137_48 : decode (mt 137).2.1 48 = .ok (.iaload, 1) := by decide +kernel
theorem s137_48 {ls : LV} {st : List AV} {m : MM} {n : Nat} {i : Int32} : go 137 48 ls (.inl i :: .inr (.inr (31, some n)) :: st) m = ixk (ix i (mN m 31 n)) (fun j => go 137 49 ls (.inl (mI m 31 n j) :: st) m) := e_ald d137_48 (fun j hj => by simp only [xi, pI, pA, hj, Option.bind_some]; rfl) (fun hj => by simp only [xi, pI, pA, hj, Option.bind_none])
theorem d137_49 : decode (mt 137).2.1 49 = .ok (.iload_n 3, 1) := by decide +kernel
theorem s137_49 {a0 a1 a2 a4 a5 a6 a7 a8 : Option AV} {st : List AV} {m : MM} {x : Int32} : go 137 49 [a0, a1, a2, some (.inl x), a4, a5, a6, a7, a8] st m = go 137 50 [a0, a1, a2, some (.inl x), a4, a5, a6, a7, a8] (.inl x :: st) m := e_1 d137_49 (Or.inl rfl) rfl
theorem d137_50 : decode (mt 137).2.1 50 = .ok (.if_icmp .eq 7, 3) := by decide +kernel
theorem s137_50 {ls : LV} {st : List AV} {m : MM} {a b : Int32} : go 137 50 ls (.inl b :: .inl a :: st) m = if a = b then go 137 57 ls st m else go 137 53 ls st m := e_if (t := 57) (b := hc .eq a b) d137_50 (Or.inl rfl) (by simp only [xi, pI, jm_some (t := 57) (show ((50 : Nat) : Int) + 7 = ((57 : Nat) : Int) by decide), Option.bind_some]) (by simp [hc])
theorem d137_53 : decode (mt 137).2.1 53 = .ok (.iconst 1, 1) := by decide +kernel
theorem s137_53 {ls : LV} {st : List AV} {m : MM} : go 137 53 ls st m = go 137 54 ls (.inl 1 :: st) m := e_1 d137_53 (Or.inl rfl) rfl
theorem d137_54 : decode (mt 137).2.1 54 = .ok (.goto 4, 3) := by decide +kernel
theorem s137_54 {ls : LV} {st : List AV} {m : MM} : go 137 54 ls st m = go 137 58 ls st m := e_1 d137_54 (Or.inl rfl) (by rw [xi, jm_some (t := 58) (by decide)]; rfl)
theorem d137_57 : decode (mt 137).2.1 57 = .ok (.iconst 0, 1) := by decide +kernel
theorem s137_57 {ls : LV} {st : List AV} {m : MM} : go 137 57 ls st m = go 137 58 ls (.inl 0 :: st) m := e_1 d137_57 (Or.inl rfl) rfl
theorem d137_58 : decode (mt 137).2.1 58 = .ok (.istore 7, 2) := by decide +kernel
theorem s137_58i {a0 a1 a2 a3 a4 a5 a7 a8 : Option AV} {z : Int32} {st : List AV} {m : MM} {x : Int32} : go 137 58 [a0, a1, a2, a3, a4, a5, some (.inl z), a7, a8] (.inl x :: st) m = go 137 60 [a0, a1, a2, a3, a4, a5, some (.inl z), some (.inl x), a8] st m := e_1 d137_58 (Or.inl rfl) rfl
theorem s137_58r {a0 a1 a2 a3 a4 a5 a7 a8 : Option AV} {z : Nat × Option Nat} {st : List AV} {m : MM} {x : Int32} : go 137 58 [a0, a1, a2, a3, a4, a5, some (.inr (.inr z)), a7, a8] (.inl x :: st) m = go 137 60 [a0, a1, a2, a3, a4, a5, some (.inr (.inr z)), some (.inl x), a8] st m := e_1 d137_58 (Or.inl rfl) rfl
theorem s137_58n {a0 a1 a2 a3 a4 a5 a7 a8 : Option AV} {st : List AV} {m : MM} {x : Int32} : go 137 58 [a0, a1, a2, a3, a4, a5, none, a7, a8] (.inl x :: st) m = go 137 60 [a0, a1, a2, a3, a4, a5, none, some (.inl x), a8] st m := e_1 d137_58 (Or.inl rfl) rfl
theorem d137_60 : decode (mt 137).2.1 60 = .ok (.iinc 8 1, 3) := by decide +kernel
theorem s137_60i {a0 a1 a2 a3 a4 a5 a6 : Option AV} {z : Int32} {st : List AV} {m : MM} {x : Int32} : go 137 60 [a0, a1, a2, a3, a4, a5, a6, some (.inl z), some (.inl x)] st m = go 137 63 [a0, a1, a2, a3, a4, a5, a6, some (.inl z), some (.inl (x + 1))] st m := e_1 d137_60 (Or.inl rfl) rfl
theorem s137_60r {a0 a1 a2 a3 a4 a5 a6 : Option AV} {z : Nat × Option Nat} {st : List AV} {m : MM} {x : Int32} : go 137 60 [a0, a1, a2, a3, a4, a5, a6, some (.inr (.inr z)), some (.inl x)] st m = go 137 63 [a0, a1, a2, a3, a4, a5, a6, some (.inr (.inr z)), some (.inl (x + 1))] st m := e_1 d137_60 (Or.inl rfl) rfl
theorem s137_60n {a0 a1 a2 a3 a4 a5 a6 : Option AV} {st : List AV} {m : MM} {x : Int32} : go 137 60 [a0, a1, a2, a3, a4, a5, a6, none, some (.inl x)] st m = go 137 63 [a0, a1, a2, a3, a4, a5, a6, none, some (.inl (x + 1))] st m := e_1 d137_60 (Or.inl rfl) rfl
theorem d137_63 : decode (mt 137).2.1 63 = .ok (.goto (-35), 3) := by decide +kernel
theorem s137_63 {ls : LV} {st : List AV} {m : MM} : go 137 63 ls st m = go 137 28 ls st m := e_1 d137_63 (Or.inl rfl) (by rw [xi, jm_some (t := 28) (by decide)]; rfl)
theorem d137_66 : decode (mt 137).2.1 66 = .ok (.aload_n 0, 1) := by decide +kernel
theorem s137_66 {a1 a2 a3 a4 a5 a6 a7 a8 : Option AV} {st : List AV} {m : MM} {x : Nat × Option Nat} : go 137 66 [some (.inr (.inr x)), a1, a2, a3, a4, a5, a6, a7, a8] st m = go 137 67 [some (.inr (.inr x)), a1, a2, a3, a4, a5, a6, a7, a8] (.inr (.inr x) :: st) m := e_1 d137_66 (Or.inl rfl) rfl
theorem d137_67 : decode (mt 137).2.1 67 = .ok (.getfield 222, 3) := by decide +kernel
theorem s137_67 {ls : LV} {st : List AV} {m : MM} {n : Nat} : go 137 67 ls (.inr (.inr (8, some n)) :: st) m = go 137 70 ls (.inl (mI m 8 n 16) :: st) m := e_1 d137_67 (Or.inl rfl) (by rw [xi, pA, show lk fdL (mt 137).2.2.1 222 = some (8, 16) by decide +kernel]; rfl)
theorem d137_70 : decode (mt 137).2.1 70 = .ok (.sipush 160, 3) := by decide +kernel
theorem s137_70 {ls : LV} {st : List AV} {m : MM} : go 137 70 ls st m = go 137 73 ls (.inl 160 :: st) m := e_1 d137_70 (Or.inl rfl) rfl
theorem d137_73 : decode (mt 137).2.1 73 = .ok (.if_icmp .eq 17, 3) := by decide +kernel
theorem s137_73 {ls : LV} {st : List AV} {m : MM} {a b : Int32} : go 137 73 ls (.inl b :: .inl a :: st) m = if a = b then go 137 90 ls st m else go 137 76 ls st m := e_if (t := 90) (b := hc .eq a b) d137_73 (Or.inl rfl) (by simp only [xi, pI, jm_some (t := 90) (show ((73 : Nat) : Int) + 17 = ((90 : Nat) : Int) by decide), Option.bind_some]) (by simp [hc])
theorem d137_76 : decode (mt 137).2.1 76 = .ok (.iload 7, 2) := by decide +kernel
theorem s137_76 {a0 a1 a2 a3 a4 a5 a6 a8 : Option AV} {st : List AV} {m : MM} {x : Int32} : go 137 76 [a0, a1, a2, a3, a4, a5, a6, some (.inl x), a8] st m = go 137 78 [a0, a1, a2, a3, a4, a5, a6, some (.inl x), a8] (.inl x :: st) m := e_1 d137_76 (Or.inl rfl) rfl
theorem d137_78 : decode (mt 137).2.1 78 = .ok (.ifCond .eq 15, 3) := by decide +kernel
theorem s137_78 {ls : LV} {st : List AV} {m : MM} {a : Int32} : go 137 78 ls (.inl a :: st) m = if a = 0 then go 137 93 ls st m else go 137 81 ls st m := e_if (t := 93) (b := hc .eq a 0) d137_78 (Or.inl rfl) (by simp only [xi, pI, jm_some (t := 93) (show ((78 : Nat) : Int) + 15 = ((93 : Nat) : Int) by decide), Option.bind_some]) (by simp [hc])
theorem d137_81 : decode (mt 137).2.1 81 = .ok (.aload_n 0, 1) := by decide +kernel
theorem s137_81 {a1 a2 a3 a4 a5 a6 a7 a8 : Option AV} {st : List AV} {m : MM} {x : Nat × Option Nat} : go 137 81 [some (.inr (.inr x)), a1, a2, a3, a4, a5, a6, a7, a8] st m = go 137 82 [some (.inr (.inr x)), a1, a2, a3, a4, a5, a6, a7, a8] (.inr (.inr x) :: st) m := e_1 d137_81 (Or.inl rfl) rfl
theorem d137_82 : decode (mt 137).2.1 82 = .ok (.getfield 219, 3) := by decide +kernel
theorem s137_82 {ls : LV} {st : List AV} {m : MM} {n : Nat} : go 137 82 ls (.inr (.inr (8, some n)) :: st) m = go 137 85 ls (.inl (mI m 8 n 14) :: st) m := e_1 d137_82 (Or.inl rfl) (by rw [xi, pA, show lk fdL (mt 137).2.2.1 219 = some (8, 14) by decide +kernel]; rfl)
theorem d137_85 : decode (mt 137).2.1 85 = .ok (.bipush 16, 2) := by decide +kernel
theorem s137_85 {ls : LV} {st : List AV} {m : MM} : go 137 85 ls st m = go 137 87 ls (.inl 16 :: st) m := e_1 d137_85 (Or.inl rfl) rfl
theorem d137_87 : decode (mt 137).2.1 87 = .ok (.if_icmp .ne 6, 3) := by decide +kernel
theorem s137_87 {ls : LV} {st : List AV} {m : MM} {a b : Int32} : go 137 87 ls (.inl b :: .inl a :: st) m = if ¬ a = b then go 137 93 ls st m else go 137 90 ls st m := e_if (t := 93) (b := hc .ne a b) d137_87 (Or.inl rfl) (by simp only [xi, pI, jm_some (t := 93) (show ((87 : Nat) : Int) + 6 = ((93 : Nat) : Int) by decide), Option.bind_some]) (by simp [hc])
theorem d137_90 : decode (mt 137).2.1 90 = .ok (.bipush (-3), 2) := by decide +kernel
theorem s137_90 {ls : LV} {st : List AV} {m : MM} : go 137 90 ls st m = go 137 92 ls (.inl (-3) :: st) m := e_1 d137_90 (Or.inl rfl) rfl
theorem d137_92 : decode (mt 137).2.1 92 = .ok (.ireturn, 1) := by decide +kernel
theorem s137_92 {ls : LV} {m : MM} {x : Int32} : go 137 92 ls [.inl x] m = some (some (.inl x), m) := e_int d137_92 (by decide +kernel)
theorem d137_93 : decode (mt 137).2.1 93 = .ok (.iload 7, 2) := by decide +kernel
theorem s137_93 {a0 a1 a2 a3 a4 a5 a6 a8 : Option AV} {st : List AV} {m : MM} {x : Int32} : go 137 93 [a0, a1, a2, a3, a4, a5, a6, some (.inl x), a8] st m = go 137 95 [a0, a1, a2, a3, a4, a5, a6, some (.inl x), a8] (.inl x :: st) m := e_1 d137_93 (Or.inl rfl) rfl
theorem d137_95 : decode (mt 137).2.1 95 = .ok (.ifCond .eq 23, 3) := by decide +kernel
theorem s137_95 {ls : LV} {st : List AV} {m : MM} {a : Int32} : go 137 95 ls (.inl a :: st) m = if a = 0 then go 137 118 ls st m else go 137 98 ls st m := e_if (t := 118) (b := hc .eq a 0) d137_95 (Or.inl rfl) (by simp only [xi, pI, jm_some (t := 118) (show ((95 : Nat) : Int) + 23 = ((118 : Nat) : Int) by decide), Option.bind_some]) (by simp [hc])
theorem d137_98 : decode (mt 137).2.1 98 = .ok (.aload_n 0, 1) := by decide +kernel
theorem s137_98 {a1 a2 a3 a4 a5 a6 a7 a8 : Option AV} {st : List AV} {m : MM} {x : Nat × Option Nat} : go 137 98 [some (.inr (.inr x)), a1, a2, a3, a4, a5, a6, a7, a8] st m = go 137 99 [some (.inr (.inr x)), a1, a2, a3, a4, a5, a6, a7, a8] (.inr (.inr x) :: st) m := e_1 d137_98 (Or.inl rfl) rfl
theorem d137_99 : decode (mt 137).2.1 99 = .ok (.getfield 52, 3) := by decide +kernel
theorem s137_99 {ls : LV} {st : List AV} {m : MM} {n : Nat} : go 137 99 ls (.inr (.inr (8, some n)) :: st) m = go 137 102 ls (.inr (.inr (31, mR m 8 n 15)) :: st) m := e_1 d137_99 (Or.inl rfl) (by rw [xi, pA, show lk fdL (mt 137).2.2.1 52 = some (8, 15) by decide +kernel]; rfl)
theorem d137_102 : decode (mt 137).2.1 102 = .ok (.aload_n 0, 1) := by decide +kernel
theorem s137_102 {a1 a2 a3 a4 a5 a6 a7 a8 : Option AV} {st : List AV} {m : MM} {x : Nat × Option Nat} : go 137 102 [some (.inr (.inr x)), a1, a2, a3, a4, a5, a6, a7, a8] st m = go 137 103 [some (.inr (.inr x)), a1, a2, a3, a4, a5, a6, a7, a8] (.inr (.inr x) :: st) m := e_1 d137_102 (Or.inl rfl) rfl
theorem d137_103 : decode (mt 137).2.1 103 = .ok (.getfield 219, 3) := by decide +kernel
theorem s137_103 {ls : LV} {st : List AV} {m : MM} {n : Nat} : go 137 103 ls (.inr (.inr (8, some n)) :: st) m = go 137 106 ls (.inl (mI m 8 n 14) :: st) m := e_1 d137_103 (Or.inl rfl) (by rw [xi, pA, show lk fdL (mt 137).2.2.1 219 = some (8, 14) by decide +kernel]; rfl)
theorem d137_106 : decode (mt 137).2.1 106 = .ok (.iload_n 3, 1) := by decide +kernel
theorem s137_106 {a0 a1 a2 a4 a5 a6 a7 a8 : Option AV} {st : List AV} {m : MM} {x : Int32} : go 137 106 [a0, a1, a2, some (.inl x), a4, a5, a6, a7, a8] st m = go 137 107 [a0, a1, a2, some (.inl x), a4, a5, a6, a7, a8] (.inl x :: st) m := e_1 d137_106 (Or.inl rfl) rfl
theorem d137_107 : decode (mt 137).2.1 107 = .ok (.iastore, 1) := by decide +kernel
theorem s137_107 {ls : LV} {st : List AV} {m : MM} {n : Nat} {i : Int32} {x : Int32} : go 137 107 ls (.inl x :: .inl i :: .inr (.inr (31, some n)) :: st) m = ixk (ix i (mN m 31 n)) (fun j => go 137 108 ls st (sI m 31 n j x)) := e_ald d137_107 (fun j hj => by simp only [xi, pI, pL, pR, pA, hj, Option.bind_some]; exact if_pos ⟨rfl, by decide⟩) (fun hj => by simp only [xi, pI, pL, pR, pA, hj, Option.bind_none])
theorem d137_108 : decode (mt 137).2.1 108 = .ok (.aload_n 0, 1) := by decide +kernel
theorem s137_108 {a1 a2 a3 a4 a5 a6 a7 a8 : Option AV} {st : List AV} {m : MM} {x : Nat × Option Nat} : go 137 108 [some (.inr (.inr x)), a1, a2, a3, a4, a5, a6, a7, a8] st m = go 137 109 [some (.inr (.inr x)), a1, a2, a3, a4, a5, a6, a7, a8] (.inr (.inr x) :: st) m := e_1 d137_108 (Or.inl rfl) rfl
theorem d137_109 : decode (mt 137).2.1 109 = .ok (.dup, 1) := by decide +kernel
theorem s137_109 {ls : LV} {st : List AV} {m : MM} {x : Nat × Option Nat} : go 137 109 ls (.inr (.inr x) :: st) m = go 137 110 ls (.inr (.inr x) :: .inr (.inr x) :: st) m := e_1 d137_109 (Or.inl rfl) rfl
theorem d137_110 : decode (mt 137).2.1 110 = .ok (.getfield 219, 3) := by decide +kernel
theorem s137_110 {ls : LV} {st : List AV} {m : MM} {n : Nat} : go 137 110 ls (.inr (.inr (8, some n)) :: st) m = go 137 113 ls (.inl (mI m 8 n 14) :: st) m := e_1 d137_110 (Or.inl rfl) (by rw [xi, pA, show lk fdL (mt 137).2.2.1 219 = some (8, 14) by decide +kernel]; rfl)
theorem d137_113 : decode (mt 137).2.1 113 = .ok (.iconst 1, 1) := by decide +kernel
theorem s137_113 {ls : LV} {st : List AV} {m : MM} : go 137 113 ls st m = go 137 114 ls (.inl 1 :: st) m := e_1 d137_113 (Or.inl rfl) rfl
theorem d137_114 : decode (mt 137).2.1 114 = .ok (.iadd, 1) := by decide +kernel
theorem s137_114 {ls : LV} {st : List AV} {m : MM} {a b : Int32} : go 137 114 ls (.inl b :: .inl a :: st) m = go 137 115 ls (.inl (a + b) :: st) m := e_1 d137_114 (Or.inl rfl) rfl
theorem d137_115 : decode (mt 137).2.1 115 = .ok (.putfield 219, 3) := by decide +kernel
theorem s137_115 {ls : LV} {st : List AV} {m : MM} {n : Nat} {x : Int32} : go 137 115 ls (.inl x :: .inr (.inr (8, some n)) :: st) m = go 137 118 ls st (sI m 8 n 14 x) := e_put (r := 8) (f := 14) d137_115 (by decide +kernel) rfl (by decide +kernel)
theorem d137_118 : decode (mt 137).2.1 118 = .ok (.aload_n 0, 1) := by decide +kernel
theorem s137_118 {a1 a2 a3 a4 a5 a6 a7 a8 : Option AV} {st : List AV} {m : MM} {x : Nat × Option Nat} : go 137 118 [some (.inr (.inr x)), a1, a2, a3, a4, a5, a6, a7, a8] st m = go 137 119 [some (.inr (.inr x)), a1, a2, a3, a4, a5, a6, a7, a8] (.inr (.inr x) :: st) m := e_1 d137_118 (Or.inl rfl) rfl
theorem d137_119 : decode (mt 137).2.1 119 = .ok (.getfield 222, 3) := by decide +kernel
theorem s137_119 {ls : LV} {st : List AV} {m : MM} {n : Nat} : go 137 119 ls (.inr (.inr (8, some n)) :: st) m = go 137 122 ls (.inl (mI m 8 n 16) :: st) m := e_1 d137_119 (Or.inl rfl) (by rw [xi, pA, show lk fdL (mt 137).2.2.1 222 = some (8, 16) by decide +kernel]; rfl)
theorem d137_122 : decode (mt 137).2.1 122 = .ok (.istore 8, 2) := by decide +kernel
theorem s137_122i {a0 a1 a2 a3 a4 a5 a6 a8 : Option AV} {z : Int32} {st : List AV} {m : MM} {x : Int32} : go 137 122 [a0, a1, a2, a3, a4, a5, a6, some (.inl z), a8] (.inl x :: st) m = go 137 124 [a0, a1, a2, a3, a4, a5, a6, some (.inl z), some (.inl x)] st m := e_1 d137_122 (Or.inl rfl) rfl
theorem s137_122r {a0 a1 a2 a3 a4 a5 a6 a8 : Option AV} {z : Nat × Option Nat} {st : List AV} {m : MM} {x : Int32} : go 137 122 [a0, a1, a2, a3, a4, a5, a6, some (.inr (.inr z)), a8] (.inl x :: st) m = go 137 124 [a0, a1, a2, a3, a4, a5, a6, some (.inr (.inr z)), some (.inl x)] st m := e_1 d137_122 (Or.inl rfl) rfl
theorem s137_122n {a0 a1 a2 a3 a4 a5 a6 a8 : Option AV} {st : List AV} {m : MM} {x : Int32} : go 137 122 [a0, a1, a2, a3, a4, a5, a6, none, a8] (.inl x :: st) m = go 137 124 [a0, a1, a2, a3, a4, a5, a6, none, some (.inl x)] st m := e_1 d137_122 (Or.inl rfl) rfl
theorem d137_124 : decode (mt 137).2.1 124 = .ok (.aload_n 0, 1) := by decide +kernel
theorem s137_124 {a1 a2 a3 a4 a5 a6 a7 a8 : Option AV} {st : List AV} {m : MM} {x : Nat × Option Nat} : go 137 124 [some (.inr (.inr x)), a1, a2, a3, a4, a5, a6, a7, a8] st m = go 137 125 [some (.inr (.inr x)), a1, a2, a3, a4, a5, a6, a7, a8] (.inr (.inr x) :: st) m := e_1 d137_124 (Or.inl rfl) rfl
theorem d137_125 : decode (mt 137).2.1 125 = .ok (.dup, 1) := by decide +kernel
theorem s137_125 {ls : LV} {st : List AV} {m : MM} {x : Nat × Option Nat} : go 137 125 ls (.inr (.inr x) :: st) m = go 137 126 ls (.inr (.inr x) :: .inr (.inr x) :: st) m := e_1 d137_125 (Or.inl rfl) rfl
theorem d137_126 : decode (mt 137).2.1 126 = .ok (.getfield 222, 3) := by decide +kernel
theorem s137_126 {ls : LV} {st : List AV} {m : MM} {n : Nat} : go 137 126 ls (.inr (.inr (8, some n)) :: st) m = go 137 129 ls (.inl (mI m 8 n 16) :: st) m := e_1 d137_126 (Or.inl rfl) (by rw [xi, pA, show lk fdL (mt 137).2.2.1 222 = some (8, 16) by decide +kernel]; rfl)
theorem d137_129 : decode (mt 137).2.1 129 = .ok (.iconst 1, 1) := by decide +kernel
theorem s137_129 {ls : LV} {st : List AV} {m : MM} : go 137 129 ls st m = go 137 130 ls (.inl 1 :: st) m := e_1 d137_129 (Or.inl rfl) rfl
theorem d137_130 : decode (mt 137).2.1 130 = .ok (.iadd, 1) := by decide +kernel
theorem s137_130 {ls : LV} {st : List AV} {m : MM} {a b : Int32} : go 137 130 ls (.inl b :: .inl a :: st) m = go 137 131 ls (.inl (a + b) :: st) m := e_1 d137_130 (Or.inl rfl) rfl
theorem d137_131 : decode (mt 137).2.1 131 = .ok (.putfield 222, 3) := by decide +kernel
theorem s137_131 {ls : LV} {st : List AV} {m : MM} {n : Nat} {x : Int32} : go 137 131 ls (.inl x :: .inr (.inr (8, some n)) :: st) m = go 137 134 ls st (sI m 8 n 16 x) := e_put (r := 8) (f := 16) d137_131 (by decide +kernel) rfl (by decide +kernel)
theorem d137_134 : decode (mt 137).2.1 134 = .ok (.aload_n 0, 1) := by decide +kernel
theorem s137_134 {a1 a2 a3 a4 a5 a6 a7 a8 : Option AV} {st : List AV} {m : MM} {x : Nat × Option Nat} : go 137 134 [some (.inr (.inr x)), a1, a2, a3, a4, a5, a6, a7, a8] st m = go 137 135 [some (.inr (.inr x)), a1, a2, a3, a4, a5, a6, a7, a8] (.inr (.inr x) :: st) m := e_1 d137_134 (Or.inl rfl) rfl
theorem d137_135 : decode (mt 137).2.1 135 = .ok (.getfield 55, 3) := by decide +kernel
theorem s137_135 {ls : LV} {st : List AV} {m : MM} {n : Nat} : go 137 135 ls (.inr (.inr (8, some n)) :: st) m = go 137 138 ls (.inr (.inr (32, mR m 8 n 19)) :: st) m := e_1 d137_135 (Or.inl rfl) (by rw [xi, pA, show lk fdL (mt 137).2.2.1 55 = some (8, 19) by decide +kernel]; rfl)
theorem d137_138 : decode (mt 137).2.1 138 = .ok (.iload 8, 2) := by decide +kernel
theorem s137_138 {a0 a1 a2 a3 a4 a5 a6 a7 : Option AV} {st : List AV} {m : MM} {x : Int32} : go 137 138 [a0, a1, a2, a3, a4, a5, a6, a7, some (.inl x)] st m = go 137 140 [a0, a1, a2, a3, a4, a5, a6, a7, some (.inl x)] (.inl x :: st) m := e_1 d137_138 (Or.inl rfl) rfl
theorem d137_140 : decode (mt 137).2.1 140 = .ok (.iload_n 1, 1) := by decide +kernel
theorem s137_140 {a0 a2 a3 a4 a5 a6 a7 a8 : Option AV} {st : List AV} {m : MM} {x : Int32} : go 137 140 [a0, some (.inl x), a2, a3, a4, a5, a6, a7, a8] st m = go 137 141 [a0, some (.inl x), a2, a3, a4, a5, a6, a7, a8] (.inl x :: st) m := e_1 d137_140 (Or.inl rfl) rfl
theorem d137_141 : decode (mt 137).2.1 141 = .ok (.iastore, 1) := by decide +kernel
theorem s137_141 {ls : LV} {st : List AV} {m : MM} {n : Nat} {i : Int32} {x : Int32} : go 137 141 ls (.inl x :: .inl i :: .inr (.inr (32, some n)) :: st) m = ixk (ix i (mN m 32 n)) (fun j => go 137 142 ls st (sI m 32 n j x)) := e_ald d137_141 (fun j hj => by simp only [xi, pI, pL, pR, pA, hj, Option.bind_some]; exact if_pos ⟨rfl, by decide⟩) (fun hj => by simp only [xi, pI, pL, pR, pA, hj, Option.bind_none])
theorem d137_142 : decode (mt 137).2.1 142 = .ok (.aload_n 0, 1) := by decide +kernel
theorem s137_142 {a1 a2 a3 a4 a5 a6 a7 a8 : Option AV} {st : List AV} {m : MM} {x : Nat × Option Nat} : go 137 142 [some (.inr (.inr x)), a1, a2, a3, a4, a5, a6, a7, a8] st m = go 137 143 [some (.inr (.inr x)), a1, a2, a3, a4, a5, a6, a7, a8] (.inr (.inr x) :: st) m := e_1 d137_142 (Or.inl rfl) rfl
theorem d137_143 : decode (mt 137).2.1 143 = .ok (.getfield 58, 3) := by decide +kernel
theorem s137_143 {ls : LV} {st : List AV} {m : MM} {n : Nat} : go 137 143 ls (.inr (.inr (8, some n)) :: st) m = go 137 146 ls (.inr (.inr (33, mR m 8 n 20)) :: st) m := e_1 d137_143 (Or.inl rfl) (by rw [xi, pA, show lk fdL (mt 137).2.2.1 58 = some (8, 20) by decide +kernel]; rfl)
theorem d137_146 : decode (mt 137).2.1 146 = .ok (.iload 8, 2) := by decide +kernel
theorem s137_146 {a0 a1 a2 a3 a4 a5 a6 a7 : Option AV} {st : List AV} {m : MM} {x : Int32} : go 137 146 [a0, a1, a2, a3, a4, a5, a6, a7, some (.inl x)] st m = go 137 148 [a0, a1, a2, a3, a4, a5, a6, a7, some (.inl x)] (.inl x :: st) m := e_1 d137_146 (Or.inl rfl) rfl
theorem d137_148 : decode (mt 137).2.1 148 = .ok (.iconst 0, 1) := by decide +kernel
theorem s137_148 {ls : LV} {st : List AV} {m : MM} : go 137 148 ls st m = go 137 149 ls (.inl 0 :: st) m := e_1 d137_148 (Or.inl rfl) rfl
theorem d137_149 : decode (mt 137).2.1 149 = .ok (.bastore, 1) := by decide +kernel
theorem s137_149b0 {ls : LV} {st : List AV} {m : MM} {n : Nat} {i : Int32} : go 137 149 ls (.inl 0 :: .inl i :: .inr (.inr (33, some n)) :: st) m = ixk (ix i (mN m 33 n)) (fun j => go 137 150 ls st (sI m 33 n j 0)) := e_ald d137_149 (fun j hj => by simp only [xi, pI, pL, pR, pA, hj, Option.bind_some]; exact if_pos (Or.inl ⟨rfl, by decide⟩)) (fun hj => by simp only [xi, pI, pL, pR, pA, hj, Option.bind_none])
theorem s137_149b1 {ls : LV} {st : List AV} {m : MM} {n : Nat} {i : Int32} : go 137 149 ls (.inl 1 :: .inl i :: .inr (.inr (33, some n)) :: st) m = ixk (ix i (mN m 33 n)) (fun j => go 137 150 ls st (sI m 33 n j 1)) := e_ald d137_149 (fun j hj => by simp only [xi, pI, pL, pR, pA, hj, Option.bind_some]; exact if_pos (Or.inl ⟨rfl, by decide⟩)) (fun hj => by simp only [xi, pI, pL, pR, pA, hj, Option.bind_none])
theorem d137_150 : decode (mt 137).2.1 150 = .ok (.aload_n 0, 1) := by decide +kernel
theorem s137_150 {a1 a2 a3 a4 a5 a6 a7 a8 : Option AV} {st : List AV} {m : MM} {x : Nat × Option Nat} : go 137 150 [some (.inr (.inr x)), a1, a2, a3, a4, a5, a6, a7, a8] st m = go 137 151 [some (.inr (.inr x)), a1, a2, a3, a4, a5, a6, a7, a8] (.inr (.inr x) :: st) m := e_1 d137_150 (Or.inl rfl) rfl
theorem d137_151 : decode (mt 137).2.1 151 = .ok (.getfield 61, 3) := by decide +kernel
theorem s137_151 {ls : LV} {st : List AV} {m : MM} {n : Nat} : go 137 151 ls (.inr (.inr (8, some n)) :: st) m = go 137 154 ls (.inr (.inr (34, mR m 8 n 21)) :: st) m := e_1 d137_151 (Or.inl rfl) (by rw [xi, pA, show lk fdL (mt 137).2.2.1 61 = some (8, 21) by decide +kernel]; rfl)
theorem d137_154 : decode (mt 137).2.1 154 = .ok (.iload 8, 2) := by decide +kernel
theorem s137_154 {a0 a1 a2 a3 a4 a5 a6 a7 : Option AV} {st : List AV} {m : MM} {x : Int32} : go 137 154 [a0, a1, a2, a3, a4, a5, a6, a7, some (.inl x)] st m = go 137 156 [a0, a1, a2, a3, a4, a5, a6, a7, some (.inl x)] (.inl x :: st) m := e_1 d137_154 (Or.inl rfl) rfl
theorem d137_156 : decode (mt 137).2.1 156 = .ok (.iconst 0, 1) := by decide +kernel
theorem s137_156 {ls : LV} {st : List AV} {m : MM} : go 137 156 ls st m = go 137 157 ls (.inl 0 :: st) m := e_1 d137_156 (Or.inl rfl) rfl
theorem d137_157 : decode (mt 137).2.1 157 = .ok (.iastore, 1) := by decide +kernel
theorem s137_157 {ls : LV} {st : List AV} {m : MM} {n : Nat} {i : Int32} {x : Int32} : go 137 157 ls (.inl x :: .inl i :: .inr (.inr (34, some n)) :: st) m = ixk (ix i (mN m 34 n)) (fun j => go 137 158 ls st (sI m 34 n j x)) := e_ald d137_157 (fun j hj => by simp only [xi, pI, pL, pR, pA, hj, Option.bind_some]; exact if_pos ⟨rfl, by decide⟩) (fun hj => by simp only [xi, pI, pL, pR, pA, hj, Option.bind_none])
theorem d137_158 : decode (mt 137).2.1 158 = .ok (.aload_n 0, 1) := by decide +kernel
theorem s137_158 {a1 a2 a3 a4 a5 a6 a7 a8 : Option AV} {st : List AV} {m : MM} {x : Nat × Option Nat} : go 137 158 [some (.inr (.inr x)), a1, a2, a3, a4, a5, a6, a7, a8] st m = go 137 159 [some (.inr (.inr x)), a1, a2, a3, a4, a5, a6, a7, a8] (.inr (.inr x) :: st) m := e_1 d137_158 (Or.inl rfl) rfl
theorem d137_159 : decode (mt 137).2.1 159 = .ok (.getfield 64, 3) := by decide +kernel
theorem s137_159 {ls : LV} {st : List AV} {m : MM} {n : Nat} : go 137 159 ls (.inr (.inr (8, some n)) :: st) m = go 137 162 ls (.inr (.inr (35, mR m 8 n 22)) :: st) m := e_1 d137_159 (Or.inl rfl) (by rw [xi, pA, show lk fdL (mt 137).2.2.1 64 = some (8, 22) by decide +kernel]; rfl)
theorem d137_162 : decode (mt 137).2.1 162 = .ok (.iload 8, 2) := by decide +kernel
theorem s137_162 {a0 a1 a2 a3 a4 a5 a6 a7 : Option AV} {st : List AV} {m : MM} {x : Int32} : go 137 162 [a0, a1, a2, a3, a4, a5, a6, a7, some (.inl x)] st m = go 137 164 [a0, a1, a2, a3, a4, a5, a6, a7, some (.inl x)] (.inl x :: st) m := e_1 d137_162 (Or.inl rfl) rfl
theorem d137_164 : decode (mt 137).2.1 164 = .ok (.iconst 0, 1) := by decide +kernel
theorem s137_164 {ls : LV} {st : List AV} {m : MM} : go 137 164 ls st m = go 137 165 ls (.inl 0 :: st) m := e_1 d137_164 (Or.inl rfl) rfl
theorem d137_165 : decode (mt 137).2.1 165 = .ok (.iastore, 1) := by decide +kernel
theorem s137_165 {ls : LV} {st : List AV} {m : MM} {n : Nat} {i : Int32} {x : Int32} : go 137 165 ls (.inl x :: .inl i :: .inr (.inr (35, some n)) :: st) m = ixk (ix i (mN m 35 n)) (fun j => go 137 166 ls st (sI m 35 n j x)) := e_ald d137_165 (fun j hj => by simp only [xi, pI, pL, pR, pA, hj, Option.bind_some]; exact if_pos ⟨rfl, by decide⟩) (fun hj => by simp only [xi, pI, pL, pR, pA, hj, Option.bind_none])
theorem d137_166 : decode (mt 137).2.1 166 = .ok (.aload_n 0, 1) := by decide +kernel
theorem s137_166 {a1 a2 a3 a4 a5 a6 a7 a8 : Option AV} {st : List AV} {m : MM} {x : Nat × Option Nat} : go 137 166 [some (.inr (.inr x)), a1, a2, a3, a4, a5, a6, a7, a8] st m = go 137 167 [some (.inr (.inr x)), a1, a2, a3, a4, a5, a6, a7, a8] (.inr (.inr x) :: st) m := e_1 d137_166 (Or.inl rfl) rfl
theorem d137_167 : decode (mt 137).2.1 167 = .ok (.getfield 73, 3) := by decide +kernel
theorem s137_167 {ls : LV} {st : List AV} {m : MM} {n : Nat} : go 137 167 ls (.inr (.inr (8, some n)) :: st) m = go 137 170 ls (.inr (.inr (38, mR m 8 n 25)) :: st) m := e_1 d137_167 (Or.inl rfl) (by rw [xi, pA, show lk fdL (mt 137).2.2.1 73 = some (8, 25) by decide +kernel]; rfl)
theorem d137_170 : decode (mt 137).2.1 170 = .ok (.iload 8, 2) := by decide +kernel
theorem s137_170 {a0 a1 a2 a3 a4 a5 a6 a7 : Option AV} {st : List AV} {m : MM} {x : Int32} : go 137 170 [a0, a1, a2, a3, a4, a5, a6, a7, some (.inl x)] st m = go 137 172 [a0, a1, a2, a3, a4, a5, a6, a7, some (.inl x)] (.inl x :: st) m := e_1 d137_170 (Or.inl rfl) rfl
theorem d137_172 : decode (mt 137).2.1 172 = .ok (.iconst 0, 1) := by decide +kernel
theorem s137_172 {ls : LV} {st : List AV} {m : MM} : go 137 172 ls st m = go 137 173 ls (.inl 0 :: st) m := e_1 d137_172 (Or.inl rfl) rfl
theorem d137_173 : decode (mt 137).2.1 173 = .ok (.iastore, 1) := by decide +kernel
theorem s137_173 {ls : LV} {st : List AV} {m : MM} {n : Nat} {i : Int32} {x : Int32} : go 137 173 ls (.inl x :: .inl i :: .inr (.inr (38, some n)) :: st) m = ixk (ix i (mN m 38 n)) (fun j => go 137 174 ls st (sI m 38 n j x)) := e_ald d137_173 (fun j hj => by simp only [xi, pI, pL, pR, pA, hj, Option.bind_some]; exact if_pos ⟨rfl, by decide⟩) (fun hj => by simp only [xi, pI, pL, pR, pA, hj, Option.bind_none])
theorem d137_174 : decode (mt 137).2.1 174 = .ok (.aload_n 0, 1) := by decide +kernel
theorem s137_174 {a1 a2 a3 a4 a5 a6 a7 a8 : Option AV} {st : List AV} {m : MM} {x : Nat × Option Nat} : go 137 174 [some (.inr (.inr x)), a1, a2, a3, a4, a5, a6, a7, a8] st m = go 137 175 [some (.inr (.inr x)), a1, a2, a3, a4, a5, a6, a7, a8] (.inr (.inr x) :: st) m := e_1 d137_174 (Or.inl rfl) rfl
theorem d137_175 : decode (mt 137).2.1 175 = .ok (.getfield 76, 3) := by decide +kernel
theorem s137_175 {ls : LV} {st : List AV} {m : MM} {n : Nat} : go 137 175 ls (.inr (.inr (8, some n)) :: st) m = go 137 178 ls (.inr (.inr (39, mR m 8 n 26)) :: st) m := e_1 d137_175 (Or.inl rfl) (by rw [xi, pA, show lk fdL (mt 137).2.2.1 76 = some (8, 26) by decide +kernel]; rfl)
theorem d137_178 : decode (mt 137).2.1 178 = .ok (.iload 8, 2) := by decide +kernel
theorem s137_178 {a0 a1 a2 a3 a4 a5 a6 a7 : Option AV} {st : List AV} {m : MM} {x : Int32} : go 137 178 [a0, a1, a2, a3, a4, a5, a6, a7, some (.inl x)] st m = go 137 180 [a0, a1, a2, a3, a4, a5, a6, a7, some (.inl x)] (.inl x :: st) m := e_1 d137_178 (Or.inl rfl) rfl
theorem d137_180 : decode (mt 137).2.1 180 = .ok (.iconst 0, 1) := by decide +kernel
theorem s137_180 {ls : LV} {st : List AV} {m : MM} : go 137 180 ls st m = go 137 181 ls (.inl 0 :: st) m := e_1 d137_180 (Or.inl rfl) rfl
theorem d137_181 : decode (mt 137).2.1 181 = .ok (.bastore, 1) := by decide +kernel
theorem s137_181b0 {ls : LV} {st : List AV} {m : MM} {n : Nat} {i : Int32} : go 137 181 ls (.inl 0 :: .inl i :: .inr (.inr (39, some n)) :: st) m = ixk (ix i (mN m 39 n)) (fun j => go 137 182 ls st (sI m 39 n j 0)) := e_ald d137_181 (fun j hj => by simp only [xi, pI, pL, pR, pA, hj, Option.bind_some]; exact if_pos (Or.inl ⟨rfl, by decide⟩)) (fun hj => by simp only [xi, pI, pL, pR, pA, hj, Option.bind_none])
theorem s137_181b1 {ls : LV} {st : List AV} {m : MM} {n : Nat} {i : Int32} : go 137 181 ls (.inl 1 :: .inl i :: .inr (.inr (39, some n)) :: st) m = ixk (ix i (mN m 39 n)) (fun j => go 137 182 ls st (sI m 39 n j 1)) := e_ald d137_181 (fun j hj => by simp only [xi, pI, pL, pR, pA, hj, Option.bind_some]; exact if_pos (Or.inl ⟨rfl, by decide⟩)) (fun hj => by simp only [xi, pI, pL, pR, pA, hj, Option.bind_none])
theorem d137_182 : decode (mt 137).2.1 182 = .ok (.aload_n 0, 1) := by decide +kernel
theorem s137_182 {a1 a2 a3 a4 a5 a6 a7 a8 : Option AV} {st : List AV} {m : MM} {x : Nat × Option Nat} : go 137 182 [some (.inr (.inr x)), a1, a2, a3, a4, a5, a6, a7, a8] st m = go 137 183 [some (.inr (.inr x)), a1, a2, a3, a4, a5, a6, a7, a8] (.inr (.inr x) :: st) m := e_1 d137_182 (Or.inl rfl) rfl
theorem d137_183 : decode (mt 137).2.1 183 = .ok (.getfield 79, 3) := by decide +kernel
theorem s137_183 {ls : LV} {st : List AV} {m : MM} {n : Nat} : go 137 183 ls (.inr (.inr (8, some n)) :: st) m = go 137 186 ls (.inr (.inr (40, mR m 8 n 27)) :: st) m := e_1 d137_183 (Or.inl rfl) (by rw [xi, pA, show lk fdL (mt 137).2.2.1 79 = some (8, 27) by decide +kernel]; rfl)
theorem d137_186 : decode (mt 137).2.1 186 = .ok (.iload 8, 2) := by decide +kernel
theorem s137_186 {a0 a1 a2 a3 a4 a5 a6 a7 : Option AV} {st : List AV} {m : MM} {x : Int32} : go 137 186 [a0, a1, a2, a3, a4, a5, a6, a7, some (.inl x)] st m = go 137 188 [a0, a1, a2, a3, a4, a5, a6, a7, some (.inl x)] (.inl x :: st) m := e_1 d137_186 (Or.inl rfl) rfl
theorem d137_188 : decode (mt 137).2.1 188 = .ok (.iload_n 3, 1) := by decide +kernel
theorem s137_188 {a0 a1 a2 a4 a5 a6 a7 a8 : Option AV} {st : List AV} {m : MM} {x : Int32} : go 137 188 [a0, a1, a2, some (.inl x), a4, a5, a6, a7, a8] st m = go 137 189 [a0, a1, a2, some (.inl x), a4, a5, a6, a7, a8] (.inl x :: st) m := e_1 d137_188 (Or.inl rfl) rfl
theorem d137_189 : decode (mt 137).2.1 189 = .ok (.iastore, 1) := by decide +kernel
theorem s137_189 {ls : LV} {st : List AV} {m : MM} {n : Nat} {i : Int32} {x : Int32} : go 137 189 ls (.inl x :: .inl i :: .inr (.inr (40, some n)) :: st) m = ixk (ix i (mN m 40 n)) (fun j => go 137 190 ls st (sI m 40 n j x)) := e_ald d137_189 (fun j hj => by simp only [xi, pI, pL, pR, pA, hj, Option.bind_some]; exact if_pos ⟨rfl, by decide⟩) (fun hj => by simp only [xi, pI, pL, pR, pA, hj, Option.bind_none])
theorem d137_190 : decode (mt 137).2.1 190 = .ok (.aload_n 0, 1) := by decide +kernel
theorem s137_190 {a1 a2 a3 a4 a5 a6 a7 a8 : Option AV} {st : List AV} {m : MM} {x : Nat × Option Nat} : go 137 190 [some (.inr (.inr x)), a1, a2, a3, a4, a5, a6, a7, a8] st m = go 137 191 [some (.inr (.inr x)), a1, a2, a3, a4, a5, a6, a7, a8] (.inr (.inr x) :: st) m := e_1 d137_190 (Or.inl rfl) rfl
theorem d137_191 : decode (mt 137).2.1 191 = .ok (.getfield 82, 3) := by decide +kernel
theorem s137_191 {ls : LV} {st : List AV} {m : MM} {n : Nat} : go 137 191 ls (.inr (.inr (8, some n)) :: st) m = go 137 194 ls (.inr (.inr (41, mR m 8 n 28)) :: st) m := e_1 d137_191 (Or.inl rfl) (by rw [xi, pA, show lk fdL (mt 137).2.2.1 82 = some (8, 28) by decide +kernel]; rfl)
theorem d137_194 : decode (mt 137).2.1 194 = .ok (.iload 8, 2) := by decide +kernel
theorem s137_194 {a0 a1 a2 a3 a4 a5 a6 a7 : Option AV} {st : List AV} {m : MM} {x : Int32} : go 137 194 [a0, a1, a2, a3, a4, a5, a6, a7, some (.inl x)] st m = go 137 196 [a0, a1, a2, a3, a4, a5, a6, a7, some (.inl x)] (.inl x :: st) m := e_1 d137_194 (Or.inl rfl) rfl
theorem d137_196 : decode (mt 137).2.1 196 = .ok (.iload 4, 2) := by decide +kernel
theorem s137_196 {a0 a1 a2 a3 a5 a6 a7 a8 : Option AV} {st : List AV} {m : MM} {x : Int32} : go 137 196 [a0, a1, a2, a3, some (.inl x), a5, a6, a7, a8] st m = go 137 198 [a0, a1, a2, a3, some (.inl x), a5, a6, a7, a8] (.inl x :: st) m := e_1 d137_196 (Or.inl rfl) rfl
theorem d137_198 : decode (mt 137).2.1 198 = .ok (.iastore, 1) := by decide +kernel
theorem s137_198 {ls : LV} {st : List AV} {m : MM} {n : Nat} {i : Int32} {x : Int32} : go 137 198 ls (.inl x :: .inl i :: .inr (.inr (41, some n)) :: st) m = ixk (ix i (mN m 41 n)) (fun j => go 137 199 ls st (sI m 41 n j x)) := e_ald d137_198 (fun j hj => by simp only [xi, pI, pL, pR, pA, hj, Option.bind_some]; exact if_pos ⟨rfl, by decide⟩) (fun hj => by simp only [xi, pI, pL, pR, pA, hj, Option.bind_none])
theorem d137_199 : decode (mt 137).2.1 199 = .ok (.aload_n 0, 1) := by decide +kernel
theorem s137_199 {a1 a2 a3 a4 a5 a6 a7 a8 : Option AV} {st : List AV} {m : MM} {x : Nat × Option Nat} : go 137 199 [some (.inr (.inr x)), a1, a2, a3, a4, a5, a6, a7, a8] st m = go 137 200 [some (.inr (.inr x)), a1, a2, a3, a4, a5, a6, a7, a8] (.inr (.inr x) :: st) m := e_1 d137_199 (Or.inl rfl) rfl
theorem d137_200 : decode (mt 137).2.1 200 = .ok (.getfield 85, 3) := by decide +kernel
theorem s137_200 {ls : LV} {st : List AV} {m : MM} {n : Nat} : go 137 200 ls (.inr (.inr (8, some n)) :: st) m = go 137 203 ls (.inr (.inr (42, mR m 8 n 29)) :: st) m := e_1 d137_200 (Or.inl rfl) (by rw [xi, pA, show lk fdL (mt 137).2.2.1 85 = some (8, 29) by decide +kernel]; rfl)
theorem d137_203 : decode (mt 137).2.1 203 = .ok (.iload 8, 2) := by decide +kernel
theorem s137_203 {a0 a1 a2 a3 a4 a5 a6 a7 : Option AV} {st : List AV} {m : MM} {x : Int32} : go 137 203 [a0, a1, a2, a3, a4, a5, a6, a7, some (.inl x)] st m = go 137 205 [a0, a1, a2, a3, a4, a5, a6, a7, some (.inl x)] (.inl x :: st) m := e_1 d137_203 (Or.inl rfl) rfl
theorem d137_205 : decode (mt 137).2.1 205 = .ok (.lload 5, 2) := by decide +kernel
theorem s137_205 {a0 a1 a2 a3 a4 a6 a7 a8 : Option AV} {st : List AV} {m : MM} {x : Int64} : go 137 205 [a0, a1, a2, a3, a4, some (.inr (.inl x)), a6, a7, a8] st m = go 137 207 [a0, a1, a2, a3, a4, some (.inr (.inl x)), a6, a7, a8] (.inr (.inl x) :: st) m := e_1 d137_205 (Or.inl rfl) rfl
theorem d137_207 : decode (mt 137).2.1 207 = .ok (.lastore, 1) := by decide +kernel
theorem s137_207 {ls : LV} {st : List AV} {m : MM} {n : Nat} {i : Int32} {x : Int64} : go 137 207 ls (.inr (.inl x) :: .inl i :: .inr (.inr (42, some n)) :: st) m = ixk (ix i (mN m 42 n)) (fun j => go 137 208 ls st (sL m 42 n j x)) := e_ald d137_207 (fun j hj => by simp only [xi, pI, pL, pR, pA, hj, Option.bind_some]; exact if_pos rfl) (fun hj => by simp only [xi, pI, pL, pR, pA, hj, Option.bind_none])
theorem d137_208 : decode (mt 137).2.1 208 = .ok (.aload_n 0, 1) := by decide +kernel
theorem s137_208 {a1 a2 a3 a4 a5 a6 a7 a8 : Option AV} {st : List AV} {m : MM} {x : Nat × Option Nat} : go 137 208 [some (.inr (.inr x)), a1, a2, a3, a4, a5, a6, a7, a8] st m = go 137 209 [some (.inr (.inr x)), a1, a2, a3, a4, a5, a6, a7, a8] (.inr (.inr x) :: st) m := e_1 d137_208 (Or.inl rfl) rfl
theorem d137_209 : decode (mt 137).2.1 209 = .ok (.iload_n 1, 1) := by decide +kernel
theorem s137_209 {a0 a2 a3 a4 a5 a6 a7 a8 : Option AV} {st : List AV} {m : MM} {x : Int32} : go 137 209 [a0, some (.inl x), a2, a3, a4, a5, a6, a7, a8] st m = go 137 210 [a0, some (.inl x), a2, a3, a4, a5, a6, a7, a8] (.inl x :: st) m := e_1 d137_209 (Or.inl rfl) rfl
theorem d137_210 : decode (mt 137).2.1 210 = .ok (.iload_n 2, 1) := by decide +kernel
theorem s137_210 {a0 a1 a3 a4 a5 a6 a7 a8 : Option AV} {st : List AV} {m : MM} {x : Int32} : go 137 210 [a0, a1, some (.inl x), a3, a4, a5, a6, a7, a8] st m = go 137 211 [a0, a1, some (.inl x), a3, a4, a5, a6, a7, a8] (.inl x :: st) m := e_1 d137_210 (Or.inl rfl) rfl
theorem d137_211 : decode (mt 137).2.1 211 = .ok (.iload 8, 2) := by decide +kernel
theorem s137_211 {a0 a1 a2 a3 a4 a5 a6 a7 : Option AV} {st : List AV} {m : MM} {x : Int32} : go 137 211 [a0, a1, a2, a3, a4, a5, a6, a7, some (.inl x)] st m = go 137 213 [a0, a1, a2, a3, a4, a5, a6, a7, some (.inl x)] (.inl x :: st) m := e_1 d137_211 (Or.inl rfl) rfl
theorem d137_213 : decode (mt 137).2.1 213 = .ok (.bipush (-4), 2) := by decide +kernel
theorem s137_213 {ls : LV} {st : List AV} {m : MM} : go 137 213 ls st m = go 137 215 ls (.inl (-4) :: st) m := e_1 d137_213 (Or.inl rfl) rfl
theorem d137_215 : decode (mt 137).2.1 215 = .ok (.iconst 0, 1) := by decide +kernel
theorem s137_215 {ls : LV} {st : List AV} {m : MM} : go 137 215 ls st m = go 137 216 ls (.inl 0 :: st) m := e_1 d137_215 (Or.inl rfl) rfl
theorem d137_216 : decode (mt 137).2.1 216 = .ok (.bipush (-4), 2) := by decide +kernel
theorem s137_216 {ls : LV} {st : List AV} {m : MM} : go 137 216 ls st m = go 137 218 ls (.inl (-4) :: st) m := e_1 d137_216 (Or.inl rfl) rfl
theorem d137_218 : decode (mt 137).2.1 218 = .ok (.bipush (-4), 2) := by decide +kernel
theorem s137_218 {ls : LV} {st : List AV} {m : MM} : go 137 218 ls st m = go 137 220 ls (.inl (-4) :: st) m := e_1 d137_218 (Or.inl rfl) rfl
theorem d137_220 : decode (mt 137).2.1 220 = .ok (.invokevirtual 159, 3) := by decide +kernel
theorem s137_220 {ls : LV} {m : MM} {x0 : Int32} {x1 : Int32} {x2 : Int32} {x3 : Int32} {x4 : Int32} {x5 : Int32} {x6 : Int32} {n : Nat} : go 137 220 ls [.inl x6, .inl x5, .inl x4, .inl x3, .inl x2, .inl x1, .inl x0, .inr (.inr (8, some n))] m = bd (go 119 0 [some (.inr (.inr (8, some n))), some (.inl x0), some (.inl x1), some (.inl x2), some (.inl x3), some (.inl x4), some (.inl x5), some (.inl x6), none] [] m) (fun v m2 => go 137 223 ls (v.toList ++ []) m2) := e_virt (y1 := 119) (na := 7) (as := [.inl x0, .inl x1, .inl x2, .inl x3, .inl x4, .inl x5, .inl x6]) (rest := []) d137_220 (by decide +kernel) rfl (by decide +kernel) (show (ent [.inr (.inr (8, some n)), .inl x0, .inl x1, .inl x2, .inl x3, .inl x4, .inl x5, .inl x6]).length ≤ (mt 119).2.2.2.1 from Nat.le_of_ble_eq_true rfl) (cats_le (Nat.le_of_ble_eq_true rfl)) (by decide +kernel)
theorem d137_223 : decode (mt 137).2.1 223 = .ok (.iload 8, 2) := by decide +kernel
theorem s137_223 {a0 a1 a2 a3 a4 a5 a6 a7 : Option AV} {st : List AV} {m : MM} {x : Int32} : go 137 223 [a0, a1, a2, a3, a4, a5, a6, a7, some (.inl x)] st m = go 137 225 [a0, a1, a2, a3, a4, a5, a6, a7, some (.inl x)] (.inl x :: st) m := e_1 d137_223 (Or.inl rfl) rfl
theorem d137_225 : decode (mt 137).2.1 225 = .ok (.ireturn, 1) := by decide +kernel
theorem s137_225 {ls : LV} {m : MM} {x : Int32} : go 137 225 ls [.inl x] m = some (some (.inl x), m) := e_int d137_225 (by decide +kernel)
/-! X7_find: 138 -/
theorem d138_0 : decode (mt 138).2.1 0 = .ok (.aload_n 0, 1) := by decide +kernel
theorem s138_0 {a1 a2 : Option AV} {st : List AV} {m : MM} {x : Nat × Option Nat} : go 138 0 [some (.inr (.inr x)), a1, a2] st m = go 138 1 [some (.inr (.inr x)), a1, a2] (.inr (.inr x) :: st) m := e_1 d138_0 (Or.inl rfl) rfl
theorem d138_1 : decode (mt 138).2.1 1 = .ok (.iload_n 1, 1) := by decide +kernel
theorem s138_1 {a0 a2 : Option AV} {st : List AV} {m : MM} {x : Int32} : go 138 1 [a0, some (.inl x), a2] st m = go 138 2 [a0, some (.inl x), a2] (.inl x :: st) m := e_1 d138_1 (Or.inl rfl) rfl
theorem d138_2 : decode (mt 138).2.1 2 = .ok (.invokevirtual 203, 3) := by decide +kernel
theorem s138_2 {ls : LV} {m : MM} {x0 : Int32} {n : Nat} : go 138 2 ls [.inl x0, .inr (.inr (8, some n))] m = bd (go 104 0 [some (.inr (.inr (8, some n))), some (.inl x0)] [] m) (fun v m2 => go 138 5 ls (v.toList ++ []) m2) := e_virt (y1 := 104) (na := 1) (as := [.inl x0]) (rest := []) d138_2 (by decide +kernel) rfl (by decide +kernel) (show (ent [.inr (.inr (8, some n)), .inl x0]).length ≤ (mt 104).2.2.2.1 from Nat.le_of_ble_eq_true rfl) (cats_le (Nat.le_of_ble_eq_true rfl)) (by decide +kernel)
theorem d138_5 : decode (mt 138).2.1 5 = .ok (.ifCond .eq 15, 3) := by decide +kernel
theorem s138_5 {ls : LV} {st : List AV} {m : MM} {a : Int32} : go 138 5 ls (.inl a :: st) m = if a = 0 then go 138 20 ls st m else go 138 8 ls st m := e_if (t := 20) (b := hc .eq a 0) d138_5 (Or.inl rfl) (by simp only [xi, pI, jm_some (t := 20) (show ((5 : Nat) : Int) + 15 = ((20 : Nat) : Int) by decide), Option.bind_some]) (by simp [hc])
theorem d138_8 : decode (mt 138).2.1 8 = .ok (.aload_n 0, 1) := by decide +kernel
theorem s138_8 {a1 a2 : Option AV} {st : List AV} {m : MM} {x : Nat × Option Nat} : go 138 8 [some (.inr (.inr x)), a1, a2] st m = go 138 9 [some (.inr (.inr x)), a1, a2] (.inr (.inr x) :: st) m := e_1 d138_8 (Or.inl rfl) rfl
theorem d138_9 : decode (mt 138).2.1 9 = .ok (.iconst 0, 1) := by decide +kernel
theorem s138_9 {ls : LV} {st : List AV} {m : MM} : go 138 9 ls st m = go 138 10 ls (.inl 0 :: st) m := e_1 d138_9 (Or.inl rfl) rfl
theorem d138_10 : decode (mt 138).2.1 10 = .ok (.iload_n 1, 1) := by decide +kernel
theorem s138_10 {a0 a2 : Option AV} {st : List AV} {m : MM} {x : Int32} : go 138 10 [a0, some (.inl x), a2] st m = go 138 11 [a0, some (.inl x), a2] (.inl x :: st) m := e_1 d138_10 (Or.inl rfl) rfl
theorem d138_11 : decode (mt 138).2.1 11 = .ok (.iload_n 2, 1) := by decide +kernel
theorem s138_11 {a0 a1 : Option AV} {st : List AV} {m : MM} {x : Int32} : go 138 11 [a0, a1, some (.inl x)] st m = go 138 12 [a0, a1, some (.inl x)] (.inl x :: st) m := e_1 d138_11 (Or.inl rfl) rfl
theorem d138_12 : decode (mt 138).2.1 12 = .ok (.iload_n 2, 1) := by decide +kernel
theorem s138_12 {a0 a1 : Option AV} {st : List AV} {m : MM} {x : Int32} : go 138 12 [a0, a1, some (.inl x)] st m = go 138 13 [a0, a1, some (.inl x)] (.inl x :: st) m := e_1 d138_12 (Or.inl rfl) rfl
theorem d138_13 : decode (mt 138).2.1 13 = .ok (.lconst 0, 1) := by decide +kernel
theorem s138_13 {ls : LV} {st : List AV} {m : MM} : go 138 13 ls st m = go 138 14 ls (.inr (.inl 0) :: st) m := e_1 d138_13 (Or.inl rfl) rfl
theorem d138_14 : decode (mt 138).2.1 14 = .ok (.invokevirtual 225, 3) := by decide +kernel
theorem s138_14 {ls : LV} {m : MM} {x0 : Int32} {x1 : Int32} {x2 : Int32} {x3 : Int32} {x4 : Int64} {n : Nat} : go 138 14 ls [.inr (.inl x4), .inl x3, .inl x2, .inl x1, .inl x0, .inr (.inr (8, some n))] m = bd (go 137 0 [some (.inr (.inr (8, some n))), some (.inl x0), some (.inl x1), some (.inl x2), some (.inl x3), some (.inr (.inl x4)), none, none, none] [] m) (fun v m2 => go 138 17 ls (v.toList ++ []) m2) := e_virt (y1 := 137) (na := 5) (as := [.inl x0, .inl x1, .inl x2, .inl x3, .inr (.inl x4)]) (rest := []) d138_14 (by decide +kernel) rfl (by decide +kernel) (show (ent [.inr (.inr (8, some n)), .inl x0, .inl x1, .inl x2, .inl x3, .inr (.inl x4)]).length ≤ (mt 137).2.2.2.1 from Nat.le_of_ble_eq_true rfl) (cats_le (Nat.le_of_ble_eq_true rfl)) (by decide +kernel)
theorem d138_17 : decode (mt 138).2.1 17 = .ok (.goto 4, 3) := by decide +kernel
theorem s138_17 {ls : LV} {st : List AV} {m : MM} : go 138 17 ls st m = go 138 21 ls st m := e_1 d138_17 (Or.inl rfl) (by rw [xi, jm_some (t := 21) (by decide)]; rfl)
theorem d138_20 : decode (mt 138).2.1 20 = .ok (.iconst (-1), 1) := by decide +kernel
theorem s138_20 {ls : LV} {st : List AV} {m : MM} : go 138 20 ls st m = go 138 21 ls (.inl (-1) :: st) m := e_1 d138_20 (Or.inl rfl) rfl
theorem d138_21 : decode (mt 138).2.1 21 = .ok (.ireturn, 1) := by decide +kernel
theorem s138_21 {ls : LV} {m : MM} {x : Int32} : go 138 21 ls [.inl x] m = some (some (.inl x), m) := e_int d138_21 (by decide +kernel)
/-! X7_span: 139 -/
theorem d139_0 : decode (mt 139).2.1 0 = .ok (.aload_n 0, 1) := by decide +kernel
theorem s139_0 {a1 a2 a3 : Option AV} {st : List AV} {m : MM} {x : Nat × Option Nat} : go 139 0 [some (.inr (.inr x)), a1, a2, a3] st m = go 139 1 [some (.inr (.inr x)), a1, a2, a3] (.inr (.inr x) :: st) m := e_1 d139_0 (Or.inl rfl) rfl
theorem d139_1 : decode (mt 139).2.1 1 = .ok (.iload_n 1, 1) := by decide +kernel
theorem s139_1 {a0 a2 a3 : Option AV} {st : List AV} {m : MM} {x : Int32} : go 139 1 [a0, some (.inl x), a2, a3] st m = go 139 2 [a0, some (.inl x), a2, a3] (.inl x :: st) m := e_1 d139_1 (Or.inl rfl) rfl
theorem d139_2 : decode (mt 139).2.1 2 = .ok (.invokevirtual 203, 3) := by decide +kernel
theorem s139_2 {ls : LV} {m : MM} {x0 : Int32} {n : Nat} : go 139 2 ls [.inl x0, .inr (.inr (8, some n))] m = bd (go 104 0 [some (.inr (.inr (8, some n))), some (.inl x0)] [] m) (fun v m2 => go 139 5 ls (v.toList ++ []) m2) := e_virt (y1 := 104) (na := 1) (as := [.inl x0]) (rest := []) d139_2 (by decide +kernel) rfl (by decide +kernel) (show (ent [.inr (.inr (8, some n)), .inl x0]).length ≤ (mt 104).2.2.2.1 from Nat.le_of_ble_eq_true rfl) (cats_le (Nat.le_of_ble_eq_true rfl)) (by decide +kernel)
theorem d139_5 : decode (mt 139).2.1 5 = .ok (.ifCond .eq 20, 3) := by decide +kernel
theorem s139_5 {ls : LV} {st : List AV} {m : MM} {a : Int32} : go 139 5 ls (.inl a :: st) m = if a = 0 then go 139 25 ls st m else go 139 8 ls st m := e_if (t := 25) (b := hc .eq a 0) d139_5 (Or.inl rfl) (by simp only [xi, pI, jm_some (t := 25) (show ((5 : Nat) : Int) + 20 = ((25 : Nat) : Int) by decide), Option.bind_some]) (by simp [hc])
theorem d139_8 : decode (mt 139).2.1 8 = .ok (.iload_n 3, 1) := by decide +kernel
theorem s139_8 {a0 a1 a2 : Option AV} {st : List AV} {m : MM} {x : Int32} : go 139 8 [a0, a1, a2, some (.inl x)] st m = go 139 9 [a0, a1, a2, some (.inl x)] (.inl x :: st) m := e_1 d139_8 (Or.inl rfl) rfl
theorem d139_9 : decode (mt 139).2.1 9 = .ok (.iload_n 2, 1) := by decide +kernel
theorem s139_9 {a0 a1 a3 : Option AV} {st : List AV} {m : MM} {x : Int32} : go 139 9 [a0, a1, some (.inl x), a3] st m = go 139 10 [a0, a1, some (.inl x), a3] (.inl x :: st) m := e_1 d139_9 (Or.inl rfl) rfl
theorem d139_10 : decode (mt 139).2.1 10 = .ok (.if_icmp .lt 15, 3) := by decide +kernel
theorem s139_10 {ls : LV} {st : List AV} {m : MM} {a b : Int32} : go 139 10 ls (.inl b :: .inl a :: st) m = if a < b then go 139 25 ls st m else go 139 13 ls st m := e_if (t := 25) (b := hc .lt a b) d139_10 (Or.inl rfl) (by simp only [xi, pI, jm_some (t := 25) (show ((10 : Nat) : Int) + 15 = ((25 : Nat) : Int) by decide), Option.bind_some]) (by simp [hc])
theorem d139_13 : decode (mt 139).2.1 13 = .ok (.aload_n 0, 1) := by decide +kernel
theorem s139_13 {a1 a2 a3 : Option AV} {st : List AV} {m : MM} {x : Nat × Option Nat} : go 139 13 [some (.inr (.inr x)), a1, a2, a3] st m = go 139 14 [some (.inr (.inr x)), a1, a2, a3] (.inr (.inr x) :: st) m := e_1 d139_13 (Or.inl rfl) rfl
theorem d139_14 : decode (mt 139).2.1 14 = .ok (.iconst 1, 1) := by decide +kernel
theorem s139_14 {ls : LV} {st : List AV} {m : MM} : go 139 14 ls st m = go 139 15 ls (.inl 1 :: st) m := e_1 d139_14 (Or.inl rfl) rfl
theorem d139_15 : decode (mt 139).2.1 15 = .ok (.iload_n 1, 1) := by decide +kernel
theorem s139_15 {a0 a2 a3 : Option AV} {st : List AV} {m : MM} {x : Int32} : go 139 15 [a0, some (.inl x), a2, a3] st m = go 139 16 [a0, some (.inl x), a2, a3] (.inl x :: st) m := e_1 d139_15 (Or.inl rfl) rfl
theorem d139_16 : decode (mt 139).2.1 16 = .ok (.iload_n 2, 1) := by decide +kernel
theorem s139_16 {a0 a1 a3 : Option AV} {st : List AV} {m : MM} {x : Int32} : go 139 16 [a0, a1, some (.inl x), a3] st m = go 139 17 [a0, a1, some (.inl x), a3] (.inl x :: st) m := e_1 d139_16 (Or.inl rfl) rfl
theorem d139_17 : decode (mt 139).2.1 17 = .ok (.iload_n 3, 1) := by decide +kernel
theorem s139_17 {a0 a1 a2 : Option AV} {st : List AV} {m : MM} {x : Int32} : go 139 17 [a0, a1, a2, some (.inl x)] st m = go 139 18 [a0, a1, a2, some (.inl x)] (.inl x :: st) m := e_1 d139_17 (Or.inl rfl) rfl
theorem d139_18 : decode (mt 139).2.1 18 = .ok (.lconst 0, 1) := by decide +kernel
theorem s139_18 {ls : LV} {st : List AV} {m : MM} : go 139 18 ls st m = go 139 19 ls (.inr (.inl 0) :: st) m := e_1 d139_18 (Or.inl rfl) rfl
theorem d139_19 : decode (mt 139).2.1 19 = .ok (.invokevirtual 225, 3) := by decide +kernel
theorem s139_19 {ls : LV} {m : MM} {x0 : Int32} {x1 : Int32} {x2 : Int32} {x3 : Int32} {x4 : Int64} {n : Nat} : go 139 19 ls [.inr (.inl x4), .inl x3, .inl x2, .inl x1, .inl x0, .inr (.inr (8, some n))] m = bd (go 137 0 [some (.inr (.inr (8, some n))), some (.inl x0), some (.inl x1), some (.inl x2), some (.inl x3), some (.inr (.inl x4)), none, none, none] [] m) (fun v m2 => go 139 22 ls (v.toList ++ []) m2) := e_virt (y1 := 137) (na := 5) (as := [.inl x0, .inl x1, .inl x2, .inl x3, .inr (.inl x4)]) (rest := []) d139_19 (by decide +kernel) rfl (by decide +kernel) (show (ent [.inr (.inr (8, some n)), .inl x0, .inl x1, .inl x2, .inl x3, .inr (.inl x4)]).length ≤ (mt 137).2.2.2.1 from Nat.le_of_ble_eq_true rfl) (cats_le (Nat.le_of_ble_eq_true rfl)) (by decide +kernel)
theorem d139_22 : decode (mt 139).2.1 22 = .ok (.goto 4, 3) := by decide +kernel
theorem s139_22 {ls : LV} {st : List AV} {m : MM} : go 139 22 ls st m = go 139 26 ls st m := e_1 d139_22 (Or.inl rfl) (by rw [xi, jm_some (t := 26) (by decide)]; rfl)
theorem d139_25 : decode (mt 139).2.1 25 = .ok (.iconst (-1), 1) := by decide +kernel
theorem s139_25 {ls : LV} {st : List AV} {m : MM} : go 139 25 ls st m = go 139 26 ls (.inl (-1) :: st) m := e_1 d139_25 (Or.inl rfl) rfl
theorem d139_26 : decode (mt 139).2.1 26 = .ok (.ireturn, 1) := by decide +kernel
theorem s139_26 {ls : LV} {m : MM} {x : Int32} : go 139 26 ls [.inl x] m = some (some (.inl x), m) := e_int d139_26 (by decide +kernel)
/-! X7_tally: 140 -/
theorem d140_0 : decode (mt 140).2.1 0 = .ok (.aload_n 0, 1) := by decide +kernel
theorem s140_0 {a1 a2 a3 : Option AV} {st : List AV} {m : MM} {x : Nat × Option Nat} : go 140 0 [some (.inr (.inr x)), a1, a2, a3] st m = go 140 1 [some (.inr (.inr x)), a1, a2, a3] (.inr (.inr x) :: st) m := e_1 d140_0 (Or.inl rfl) rfl
theorem d140_1 : decode (mt 140).2.1 1 = .ok (.iload_n 1, 1) := by decide +kernel
theorem s140_1 {a0 a2 a3 : Option AV} {st : List AV} {m : MM} {x : Int32} : go 140 1 [a0, some (.inl x), a2, a3] st m = go 140 2 [a0, some (.inl x), a2, a3] (.inl x :: st) m := e_1 d140_1 (Or.inl rfl) rfl
theorem d140_2 : decode (mt 140).2.1 2 = .ok (.invokevirtual 203, 3) := by decide +kernel
theorem s140_2 {ls : LV} {m : MM} {x0 : Int32} {n : Nat} : go 140 2 ls [.inl x0, .inr (.inr (8, some n))] m = bd (go 104 0 [some (.inr (.inr (8, some n))), some (.inl x0)] [] m) (fun v m2 => go 140 5 ls (v.toList ++ []) m2) := e_virt (y1 := 104) (na := 1) (as := [.inl x0]) (rest := []) d140_2 (by decide +kernel) rfl (by decide +kernel) (show (ent [.inr (.inr (8, some n)), .inl x0]).length ≤ (mt 104).2.2.2.1 from Nat.le_of_ble_eq_true rfl) (cats_le (Nat.le_of_ble_eq_true rfl)) (by decide +kernel)
theorem d140_5 : decode (mt 140).2.1 5 = .ok (.ifCond .eq 20, 3) := by decide +kernel
theorem s140_5 {ls : LV} {st : List AV} {m : MM} {a : Int32} : go 140 5 ls (.inl a :: st) m = if a = 0 then go 140 25 ls st m else go 140 8 ls st m := e_if (t := 25) (b := hc .eq a 0) d140_5 (Or.inl rfl) (by simp only [xi, pI, jm_some (t := 25) (show ((5 : Nat) : Int) + 20 = ((25 : Nat) : Int) by decide), Option.bind_some]) (by simp [hc])
theorem d140_8 : decode (mt 140).2.1 8 = .ok (.iload_n 3, 1) := by decide +kernel
theorem s140_8 {a0 a1 a2 : Option AV} {st : List AV} {m : MM} {x : Int32} : go 140 8 [a0, a1, a2, some (.inl x)] st m = go 140 9 [a0, a1, a2, some (.inl x)] (.inl x :: st) m := e_1 d140_8 (Or.inl rfl) rfl
theorem d140_9 : decode (mt 140).2.1 9 = .ok (.iload_n 2, 1) := by decide +kernel
theorem s140_9 {a0 a1 a3 : Option AV} {st : List AV} {m : MM} {x : Int32} : go 140 9 [a0, a1, some (.inl x), a3] st m = go 140 10 [a0, a1, some (.inl x), a3] (.inl x :: st) m := e_1 d140_9 (Or.inl rfl) rfl
theorem d140_10 : decode (mt 140).2.1 10 = .ok (.if_icmp .lt 15, 3) := by decide +kernel
theorem s140_10 {ls : LV} {st : List AV} {m : MM} {a b : Int32} : go 140 10 ls (.inl b :: .inl a :: st) m = if a < b then go 140 25 ls st m else go 140 13 ls st m := e_if (t := 25) (b := hc .lt a b) d140_10 (Or.inl rfl) (by simp only [xi, pI, jm_some (t := 25) (show ((10 : Nat) : Int) + 15 = ((25 : Nat) : Int) by decide), Option.bind_some]) (by simp [hc])
theorem d140_13 : decode (mt 140).2.1 13 = .ok (.aload_n 0, 1) := by decide +kernel
theorem s140_13 {a1 a2 a3 : Option AV} {st : List AV} {m : MM} {x : Nat × Option Nat} : go 140 13 [some (.inr (.inr x)), a1, a2, a3] st m = go 140 14 [some (.inr (.inr x)), a1, a2, a3] (.inr (.inr x) :: st) m := e_1 d140_13 (Or.inl rfl) rfl
theorem d140_14 : decode (mt 140).2.1 14 = .ok (.iconst 2, 1) := by decide +kernel
theorem s140_14 {ls : LV} {st : List AV} {m : MM} : go 140 14 ls st m = go 140 15 ls (.inl 2 :: st) m := e_1 d140_14 (Or.inl rfl) rfl
theorem d140_15 : decode (mt 140).2.1 15 = .ok (.iload_n 1, 1) := by decide +kernel
theorem s140_15 {a0 a2 a3 : Option AV} {st : List AV} {m : MM} {x : Int32} : go 140 15 [a0, some (.inl x), a2, a3] st m = go 140 16 [a0, some (.inl x), a2, a3] (.inl x :: st) m := e_1 d140_15 (Or.inl rfl) rfl
theorem d140_16 : decode (mt 140).2.1 16 = .ok (.iload_n 2, 1) := by decide +kernel
theorem s140_16 {a0 a1 a3 : Option AV} {st : List AV} {m : MM} {x : Int32} : go 140 16 [a0, a1, some (.inl x), a3] st m = go 140 17 [a0, a1, some (.inl x), a3] (.inl x :: st) m := e_1 d140_16 (Or.inl rfl) rfl
theorem d140_17 : decode (mt 140).2.1 17 = .ok (.iload_n 3, 1) := by decide +kernel
theorem s140_17 {a0 a1 a2 : Option AV} {st : List AV} {m : MM} {x : Int32} : go 140 17 [a0, a1, a2, some (.inl x)] st m = go 140 18 [a0, a1, a2, some (.inl x)] (.inl x :: st) m := e_1 d140_17 (Or.inl rfl) rfl
theorem d140_18 : decode (mt 140).2.1 18 = .ok (.lconst 0, 1) := by decide +kernel
theorem s140_18 {ls : LV} {st : List AV} {m : MM} : go 140 18 ls st m = go 140 19 ls (.inr (.inl 0) :: st) m := e_1 d140_18 (Or.inl rfl) rfl
theorem d140_19 : decode (mt 140).2.1 19 = .ok (.invokevirtual 225, 3) := by decide +kernel
theorem s140_19 {ls : LV} {m : MM} {x0 : Int32} {x1 : Int32} {x2 : Int32} {x3 : Int32} {x4 : Int64} {n : Nat} : go 140 19 ls [.inr (.inl x4), .inl x3, .inl x2, .inl x1, .inl x0, .inr (.inr (8, some n))] m = bd (go 137 0 [some (.inr (.inr (8, some n))), some (.inl x0), some (.inl x1), some (.inl x2), some (.inl x3), some (.inr (.inl x4)), none, none, none] [] m) (fun v m2 => go 140 22 ls (v.toList ++ []) m2) := e_virt (y1 := 137) (na := 5) (as := [.inl x0, .inl x1, .inl x2, .inl x3, .inr (.inl x4)]) (rest := []) d140_19 (by decide +kernel) rfl (by decide +kernel) (show (ent [.inr (.inr (8, some n)), .inl x0, .inl x1, .inl x2, .inl x3, .inr (.inl x4)]).length ≤ (mt 137).2.2.2.1 from Nat.le_of_ble_eq_true rfl) (cats_le (Nat.le_of_ble_eq_true rfl)) (by decide +kernel)
theorem d140_22 : decode (mt 140).2.1 22 = .ok (.goto 4, 3) := by decide +kernel
theorem s140_22 {ls : LV} {st : List AV} {m : MM} : go 140 22 ls st m = go 140 26 ls st m := e_1 d140_22 (Or.inl rfl) (by rw [xi, jm_some (t := 26) (by decide)]; rfl)
theorem d140_25 : decode (mt 140).2.1 25 = .ok (.iconst (-1), 1) := by decide +kernel
theorem s140_25 {ls : LV} {st : List AV} {m : MM} : go 140 25 ls st m = go 140 26 ls (.inl (-1) :: st) m := e_1 d140_25 (Or.inl rfl) rfl
theorem d140_26 : decode (mt 140).2.1 26 = .ok (.ireturn, 1) := by decide +kernel
theorem s140_26 {ls : LV} {m : MM} {x : Int32} : go 140 26 ls [.inl x] m = some (some (.inl x), m) := e_int d140_26 (by decide +kernel)
/-! X7_put: 141 -/
theorem d141_0 : decode (mt 141).2.1 0 = .ok (.aload_n 0, 1) := by decide +kernel
theorem s141_0 {a1 a2 a3 a4 : Option AV} {st : List AV} {m : MM} {x : Nat × Option Nat} : go 141 0 [some (.inr (.inr x)), a1, a2, a3, a4] st m = go 141 1 [some (.inr (.inr x)), a1, a2, a3, a4] (.inr (.inr x) :: st) m := e_1 d141_0 (Or.inl rfl) rfl
theorem d141_1 : decode (mt 141).2.1 1 = .ok (.iload_n 1, 1) := by decide +kernel
theorem s141_1 {a0 a2 a3 a4 : Option AV} {st : List AV} {m : MM} {x : Int32} : go 141 1 [a0, some (.inl x), a2, a3, a4] st m = go 141 2 [a0, some (.inl x), a2, a3, a4] (.inl x :: st) m := e_1 d141_1 (Or.inl rfl) rfl
theorem d141_2 : decode (mt 141).2.1 2 = .ok (.invokevirtual 203, 3) := by decide +kernel
theorem s141_2 {ls : LV} {m : MM} {x0 : Int32} {n : Nat} : go 141 2 ls [.inl x0, .inr (.inr (8, some n))] m = bd (go 104 0 [some (.inr (.inr (8, some n))), some (.inl x0)] [] m) (fun v m2 => go 141 5 ls (v.toList ++ []) m2) := e_virt (y1 := 104) (na := 1) (as := [.inl x0]) (rest := []) d141_2 (by decide +kernel) rfl (by decide +kernel) (show (ent [.inr (.inr (8, some n)), .inl x0]).length ≤ (mt 104).2.2.2.1 from Nat.le_of_ble_eq_true rfl) (cats_le (Nat.le_of_ble_eq_true rfl)) (by decide +kernel)
theorem d141_5 : decode (mt 141).2.1 5 = .ok (.ifCond .eq 15, 3) := by decide +kernel
theorem s141_5 {ls : LV} {st : List AV} {m : MM} {a : Int32} : go 141 5 ls (.inl a :: st) m = if a = 0 then go 141 20 ls st m else go 141 8 ls st m := e_if (t := 20) (b := hc .eq a 0) d141_5 (Or.inl rfl) (by simp only [xi, pI, jm_some (t := 20) (show ((5 : Nat) : Int) + 15 = ((20 : Nat) : Int) by decide), Option.bind_some]) (by simp [hc])
theorem d141_8 : decode (mt 141).2.1 8 = .ok (.aload_n 0, 1) := by decide +kernel
theorem s141_8 {a1 a2 a3 a4 : Option AV} {st : List AV} {m : MM} {x : Nat × Option Nat} : go 141 8 [some (.inr (.inr x)), a1, a2, a3, a4] st m = go 141 9 [some (.inr (.inr x)), a1, a2, a3, a4] (.inr (.inr x) :: st) m := e_1 d141_8 (Or.inl rfl) rfl
theorem d141_9 : decode (mt 141).2.1 9 = .ok (.iconst 3, 1) := by decide +kernel
theorem s141_9 {ls : LV} {st : List AV} {m : MM} : go 141 9 ls st m = go 141 10 ls (.inl 3 :: st) m := e_1 d141_9 (Or.inl rfl) rfl
theorem d141_10 : decode (mt 141).2.1 10 = .ok (.iload_n 1, 1) := by decide +kernel
theorem s141_10 {a0 a2 a3 a4 : Option AV} {st : List AV} {m : MM} {x : Int32} : go 141 10 [a0, some (.inl x), a2, a3, a4] st m = go 141 11 [a0, some (.inl x), a2, a3, a4] (.inl x :: st) m := e_1 d141_10 (Or.inl rfl) rfl
theorem d141_11 : decode (mt 141).2.1 11 = .ok (.iload_n 2, 1) := by decide +kernel
theorem s141_11 {a0 a1 a3 a4 : Option AV} {st : List AV} {m : MM} {x : Int32} : go 141 11 [a0, a1, some (.inl x), a3, a4] st m = go 141 12 [a0, a1, some (.inl x), a3, a4] (.inl x :: st) m := e_1 d141_11 (Or.inl rfl) rfl
theorem d141_12 : decode (mt 141).2.1 12 = .ok (.iload_n 2, 1) := by decide +kernel
theorem s141_12 {a0 a1 a3 a4 : Option AV} {st : List AV} {m : MM} {x : Int32} : go 141 12 [a0, a1, some (.inl x), a3, a4] st m = go 141 13 [a0, a1, some (.inl x), a3, a4] (.inl x :: st) m := e_1 d141_12 (Or.inl rfl) rfl
theorem d141_13 : decode (mt 141).2.1 13 = .ok (.lload_n 3, 1) := by decide +kernel
theorem s141_13 {a0 a1 a2 a4 : Option AV} {st : List AV} {m : MM} {x : Int64} : go 141 13 [a0, a1, a2, some (.inr (.inl x)), a4] st m = go 141 14 [a0, a1, a2, some (.inr (.inl x)), a4] (.inr (.inl x) :: st) m := e_1 d141_13 (Or.inl rfl) rfl
theorem d141_14 : decode (mt 141).2.1 14 = .ok (.invokevirtual 225, 3) := by decide +kernel
theorem s141_14 {ls : LV} {m : MM} {x0 : Int32} {x1 : Int32} {x2 : Int32} {x3 : Int32} {x4 : Int64} {n : Nat} : go 141 14 ls [.inr (.inl x4), .inl x3, .inl x2, .inl x1, .inl x0, .inr (.inr (8, some n))] m = bd (go 137 0 [some (.inr (.inr (8, some n))), some (.inl x0), some (.inl x1), some (.inl x2), some (.inl x3), some (.inr (.inl x4)), none, none, none] [] m) (fun v m2 => go 141 17 ls (v.toList ++ []) m2) := e_virt (y1 := 137) (na := 5) (as := [.inl x0, .inl x1, .inl x2, .inl x3, .inr (.inl x4)]) (rest := []) d141_14 (by decide +kernel) rfl (by decide +kernel) (show (ent [.inr (.inr (8, some n)), .inl x0, .inl x1, .inl x2, .inl x3, .inr (.inl x4)]).length ≤ (mt 137).2.2.2.1 from Nat.le_of_ble_eq_true rfl) (cats_le (Nat.le_of_ble_eq_true rfl)) (by decide +kernel)
theorem d141_17 : decode (mt 141).2.1 17 = .ok (.goto 4, 3) := by decide +kernel
theorem s141_17 {ls : LV} {st : List AV} {m : MM} : go 141 17 ls st m = go 141 21 ls st m := e_1 d141_17 (Or.inl rfl) (by rw [xi, jm_some (t := 21) (by decide)]; rfl)
theorem d141_20 : decode (mt 141).2.1 20 = .ok (.iconst (-1), 1) := by decide +kernel
theorem s141_20 {ls : LV} {st : List AV} {m : MM} : go 141 20 ls st m = go 141 21 ls (.inl (-1) :: st) m := e_1 d141_20 (Or.inl rfl) rfl
theorem d141_21 : decode (mt 141).2.1 21 = .ok (.ireturn, 1) := by decide +kernel
theorem s141_21 {ls : LV} {m : MM} {x : Int32} : go 141 21 ls [.inl x] m = some (some (.inl x), m) := e_int d141_21 (by decide +kernel)
/-! X7_get: 142 -/
theorem d142_0 : decode (mt 142).2.1 0 = .ok (.aload_n 0, 1) := by decide +kernel
theorem s142_0 {a1 a2 : Option AV} {st : List AV} {m : MM} {x : Nat × Option Nat} : go 142 0 [some (.inr (.inr x)), a1, a2] st m = go 142 1 [some (.inr (.inr x)), a1, a2] (.inr (.inr x) :: st) m := e_1 d142_0 (Or.inl rfl) rfl
theorem d142_1 : decode (mt 142).2.1 1 = .ok (.iload_n 1, 1) := by decide +kernel
theorem s142_1 {a0 a2 : Option AV} {st : List AV} {m : MM} {x : Int32} : go 142 1 [a0, some (.inl x), a2] st m = go 142 2 [a0, some (.inl x), a2] (.inl x :: st) m := e_1 d142_1 (Or.inl rfl) rfl
theorem d142_2 : decode (mt 142).2.1 2 = .ok (.invokevirtual 203, 3) := by decide +kernel
theorem s142_2 {ls : LV} {m : MM} {x0 : Int32} {n : Nat} : go 142 2 ls [.inl x0, .inr (.inr (8, some n))] m = bd (go 104 0 [some (.inr (.inr (8, some n))), some (.inl x0)] [] m) (fun v m2 => go 142 5 ls (v.toList ++ []) m2) := e_virt (y1 := 104) (na := 1) (as := [.inl x0]) (rest := []) d142_2 (by decide +kernel) rfl (by decide +kernel) (show (ent [.inr (.inr (8, some n)), .inl x0]).length ≤ (mt 104).2.2.2.1 from Nat.le_of_ble_eq_true rfl) (cats_le (Nat.le_of_ble_eq_true rfl)) (by decide +kernel)
theorem d142_5 : decode (mt 142).2.1 5 = .ok (.ifCond .eq 15, 3) := by decide +kernel
theorem s142_5 {ls : LV} {st : List AV} {m : MM} {a : Int32} : go 142 5 ls (.inl a :: st) m = if a = 0 then go 142 20 ls st m else go 142 8 ls st m := e_if (t := 20) (b := hc .eq a 0) d142_5 (Or.inl rfl) (by simp only [xi, pI, jm_some (t := 20) (show ((5 : Nat) : Int) + 15 = ((20 : Nat) : Int) by decide), Option.bind_some]) (by simp [hc])
theorem d142_8 : decode (mt 142).2.1 8 = .ok (.aload_n 0, 1) := by decide +kernel
theorem s142_8 {a1 a2 : Option AV} {st : List AV} {m : MM} {x : Nat × Option Nat} : go 142 8 [some (.inr (.inr x)), a1, a2] st m = go 142 9 [some (.inr (.inr x)), a1, a2] (.inr (.inr x) :: st) m := e_1 d142_8 (Or.inl rfl) rfl
theorem d142_9 : decode (mt 142).2.1 9 = .ok (.iconst 4, 1) := by decide +kernel
theorem s142_9 {ls : LV} {st : List AV} {m : MM} : go 142 9 ls st m = go 142 10 ls (.inl 4 :: st) m := e_1 d142_9 (Or.inl rfl) rfl
theorem d142_10 : decode (mt 142).2.1 10 = .ok (.iload_n 1, 1) := by decide +kernel
theorem s142_10 {a0 a2 : Option AV} {st : List AV} {m : MM} {x : Int32} : go 142 10 [a0, some (.inl x), a2] st m = go 142 11 [a0, some (.inl x), a2] (.inl x :: st) m := e_1 d142_10 (Or.inl rfl) rfl
theorem d142_11 : decode (mt 142).2.1 11 = .ok (.iload_n 2, 1) := by decide +kernel
theorem s142_11 {a0 a1 : Option AV} {st : List AV} {m : MM} {x : Int32} : go 142 11 [a0, a1, some (.inl x)] st m = go 142 12 [a0, a1, some (.inl x)] (.inl x :: st) m := e_1 d142_11 (Or.inl rfl) rfl
theorem d142_12 : decode (mt 142).2.1 12 = .ok (.iload_n 2, 1) := by decide +kernel
theorem s142_12 {a0 a1 : Option AV} {st : List AV} {m : MM} {x : Int32} : go 142 12 [a0, a1, some (.inl x)] st m = go 142 13 [a0, a1, some (.inl x)] (.inl x :: st) m := e_1 d142_12 (Or.inl rfl) rfl
theorem d142_13 : decode (mt 142).2.1 13 = .ok (.lconst 0, 1) := by decide +kernel
theorem s142_13 {ls : LV} {st : List AV} {m : MM} : go 142 13 ls st m = go 142 14 ls (.inr (.inl 0) :: st) m := e_1 d142_13 (Or.inl rfl) rfl
theorem d142_14 : decode (mt 142).2.1 14 = .ok (.invokevirtual 225, 3) := by decide +kernel
theorem s142_14 {ls : LV} {m : MM} {x0 : Int32} {x1 : Int32} {x2 : Int32} {x3 : Int32} {x4 : Int64} {n : Nat} : go 142 14 ls [.inr (.inl x4), .inl x3, .inl x2, .inl x1, .inl x0, .inr (.inr (8, some n))] m = bd (go 137 0 [some (.inr (.inr (8, some n))), some (.inl x0), some (.inl x1), some (.inl x2), some (.inl x3), some (.inr (.inl x4)), none, none, none] [] m) (fun v m2 => go 142 17 ls (v.toList ++ []) m2) := e_virt (y1 := 137) (na := 5) (as := [.inl x0, .inl x1, .inl x2, .inl x3, .inr (.inl x4)]) (rest := []) d142_14 (by decide +kernel) rfl (by decide +kernel) (show (ent [.inr (.inr (8, some n)), .inl x0, .inl x1, .inl x2, .inl x3, .inr (.inl x4)]).length ≤ (mt 137).2.2.2.1 from Nat.le_of_ble_eq_true rfl) (cats_le (Nat.le_of_ble_eq_true rfl)) (by decide +kernel)
theorem d142_17 : decode (mt 142).2.1 17 = .ok (.goto 4, 3) := by decide +kernel
theorem s142_17 {ls : LV} {st : List AV} {m : MM} : go 142 17 ls st m = go 142 21 ls st m := e_1 d142_17 (Or.inl rfl) (by rw [xi, jm_some (t := 21) (by decide)]; rfl)
theorem d142_20 : decode (mt 142).2.1 20 = .ok (.iconst (-1), 1) := by decide +kernel
theorem s142_20 {ls : LV} {st : List AV} {m : MM} : go 142 20 ls st m = go 142 21 ls (.inl (-1) :: st) m := e_1 d142_20 (Or.inl rfl) rfl
theorem d142_21 : decode (mt 142).2.1 21 = .ok (.ireturn, 1) := by decide +kernel
theorem s142_21 {ls : LV} {m : MM} {x : Int32} : go 142 21 ls [.inl x] m = some (some (.inl x), m) := e_int d142_21 (by decide +kernel)
/-! X7_isAsk: 143 -/
theorem d143_0 : decode (mt 143).2.1 0 = .ok (.iload_n 1, 1) := by decide +kernel
theorem s143_0 {a0 : Option AV} {st : List AV} {m : MM} {x : Int32} : go 143 0 [a0, some (.inl x)] st m = go 143 1 [a0, some (.inl x)] (.inl x :: st) m := e_1 d143_0 (Or.inl rfl) rfl
theorem d143_1 : decode (mt 143).2.1 1 = .ok (.i2l, 1) := by decide +kernel
theorem s143_1 {ls : LV} {st : List AV} {m : MM} {a : Int32} : go 143 1 ls (.inl a :: st) m = go 143 2 ls (.inr (.inl a.toInt64) :: st) m := e_1 d143_1 (Or.inl rfl) rfl
theorem d143_2 : decode (mt 143).2.1 2 = .ok (.lconst 0, 1) := by decide +kernel
theorem s143_2 {ls : LV} {st : List AV} {m : MM} : go 143 2 ls st m = go 143 3 ls (.inr (.inl 0) :: st) m := e_1 d143_2 (Or.inl rfl) rfl
theorem d143_3 : decode (mt 143).2.1 3 = .ok (.aload_n 0, 1) := by decide +kernel
theorem s143_3 {a1 : Option AV} {st : List AV} {m : MM} {x : Nat × Option Nat} : go 143 3 [some (.inr (.inr x)), a1] st m = go 143 4 [some (.inr (.inr x)), a1] (.inr (.inr x) :: st) m := e_1 d143_3 (Or.inl rfl) rfl
theorem d143_4 : decode (mt 143).2.1 4 = .ok (.getfield 222, 3) := by decide +kernel
theorem s143_4 {ls : LV} {st : List AV} {m : MM} {n : Nat} : go 143 4 ls (.inr (.inr (8, some n)) :: st) m = go 143 7 ls (.inl (mI m 8 n 16) :: st) m := e_1 d143_4 (Or.inl rfl) (by rw [xi, pA, show lk fdL (mt 143).2.2.1 222 = some (8, 16) by decide +kernel]; rfl)
theorem d143_7 : decode (mt 143).2.1 7 = .ok (.iconst 1, 1) := by decide +kernel
theorem s143_7 {ls : LV} {st : List AV} {m : MM} : go 143 7 ls st m = go 143 8 ls (.inl 1 :: st) m := e_1 d143_7 (Or.inl rfl) rfl
theorem d143_8 : decode (mt 143).2.1 8 = .ok (.isub, 1) := by decide +kernel
theorem s143_8 {ls : LV} {st : List AV} {m : MM} {a b : Int32} : go 143 8 ls (.inl b :: .inl a :: st) m = go 143 9 ls (.inl (a - b) :: st) m := e_1 d143_8 (Or.inl rfl) rfl
theorem d143_9 : decode (mt 143).2.1 9 = .ok (.i2l, 1) := by decide +kernel
theorem s143_9 {ls : LV} {st : List AV} {m : MM} {a : Int32} : go 143 9 ls (.inl a :: st) m = go 143 10 ls (.inr (.inl a.toInt64) :: st) m := e_1 d143_9 (Or.inl rfl) rfl
theorem d143_10 : decode (mt 143).2.1 10 = .ok (.invokestatic 118, 3) := by decide +kernel
theorem s143_10 {ls : LV} {m : MM} {x0 : Int64} {x1 : Int64} {x2 : Int64} : go 143 10 ls [.inr (.inl x2), .inr (.inl x1), .inr (.inl x0)] m = bd (go 103 0 [some (.inr (.inl x0)), none, some (.inr (.inl x1)), none, some (.inr (.inl x2)), none] [] m) (fun v m2 => go 143 13 ls (v.toList ++ []) m2) := e_stat (y1 := 103) (na := 3) (as := [.inr (.inl x0), .inr (.inl x1), .inr (.inl x2)]) (rest := []) d143_10 (by decide +kernel) rfl (by decide +kernel) (show (ent [.inr (.inl x0), .inr (.inl x1), .inr (.inl x2)]).length ≤ (mt 103).2.2.2.1 from Nat.le_of_ble_eq_true rfl) (cats_le (Nat.le_of_ble_eq_true rfl)) (by decide +kernel)
theorem d143_13 : decode (mt 143).2.1 13 = .ok (.ireturn, 1) := by decide +kernel
theorem s143_13b0 {ls : LV} {m : MM} : go 143 13 ls [.inl 0] m = some (some (.inl 0), m) := e_bool d143_13 (by decide +kernel) (by decide)
theorem s143_13b1 {ls : LV} {m : MM} : go 143 13 ls [.inl 1] m = some (some (.inl 1), m) := e_bool d143_13 (by decide +kernel) (by decide)
/-! X7_ask: 144 -/
theorem d144_0 : decode (mt 144).2.1 0 = .ok (.aload_n 0, 1) := by decide +kernel
theorem s144_0 {a1 a2 : Option AV} {st : List AV} {m : MM} {x : Nat × Option Nat} : go 144 0 [some (.inr (.inr x)), a1, a2] st m = go 144 1 [some (.inr (.inr x)), a1, a2] (.inr (.inr x) :: st) m := e_1 d144_0 (Or.inl rfl) rfl
theorem d144_1 : decode (mt 144).2.1 1 = .ok (.iload_n 1, 1) := by decide +kernel
theorem s144_1 {a0 a2 : Option AV} {st : List AV} {m : MM} {x : Int32} : go 144 1 [a0, some (.inl x), a2] st m = go 144 2 [a0, some (.inl x), a2] (.inl x :: st) m := e_1 d144_1 (Or.inl rfl) rfl
theorem d144_2 : decode (mt 144).2.1 2 = .ok (.invokevirtual 229, 3) := by decide +kernel
theorem s144_2 {ls : LV} {m : MM} {x0 : Int32} {n : Nat} : go 144 2 ls [.inl x0, .inr (.inr (8, some n))] m = bd (go 143 0 [some (.inr (.inr (8, some n))), some (.inl x0)] [] m) (fun v m2 => go 144 5 ls (v.toList ++ []) m2) := e_virt (y1 := 143) (na := 1) (as := [.inl x0]) (rest := []) d144_2 (by decide +kernel) rfl (by decide +kernel) (show (ent [.inr (.inr (8, some n)), .inl x0]).length ≤ (mt 143).2.2.2.1 from Nat.le_of_ble_eq_true rfl) (cats_le (Nat.le_of_ble_eq_true rfl)) (by decide +kernel)
theorem d144_5 : decode (mt 144).2.1 5 = .ok (.ifCond .ne 5, 3) := by decide +kernel
theorem s144_5 {ls : LV} {st : List AV} {m : MM} {a : Int32} : go 144 5 ls (.inl a :: st) m = if ¬ a = 0 then go 144 10 ls st m else go 144 8 ls st m := e_if (t := 10) (b := hc .ne a 0) d144_5 (Or.inl rfl) (by simp only [xi, pI, jm_some (t := 10) (show ((5 : Nat) : Int) + 5 = ((10 : Nat) : Int) by decide), Option.bind_some]) (by simp [hc])
theorem d144_8 : decode (mt 144).2.1 8 = .ok (.iconst (-1), 1) := by decide +kernel
theorem s144_8 {ls : LV} {st : List AV} {m : MM} : go 144 8 ls st m = go 144 9 ls (.inl (-1) :: st) m := e_1 d144_8 (Or.inl rfl) rfl
theorem d144_9 : decode (mt 144).2.1 9 = .ok (.ireturn, 1) := by decide +kernel
theorem s144_9 {ls : LV} {m : MM} {x : Int32} : go 144 9 ls [.inl x] m = some (some (.inl x), m) := e_int d144_9 (by decide +kernel)
theorem d144_10 : decode (mt 144).2.1 10 = .ok (.iload_n 2, 1) := by decide +kernel
theorem s144_10 {a0 a1 : Option AV} {st : List AV} {m : MM} {x : Int32} : go 144 10 [a0, a1, some (.inl x)] st m = go 144 11 [a0, a1, some (.inl x)] (.inl x :: st) m := e_1 d144_10 (Or.inl rfl) rfl
theorem d144_11 : decode (mt 144).2.1 11 = .ok (.tableswitch 92 0 4 #[33, 40, 55, 62, 69], 33) := by decide +kernel
theorem s144_11_0 {ls : LV} {st : List AV} {m : MM} : go 144 11 ls (.inl 0 :: st) m = go 144 44 ls st m := e_1 d144_11 (Or.inr rfl) (by rw [xi]; rfl)
theorem s144_11_1 {ls : LV} {st : List AV} {m : MM} : go 144 11 ls (.inl 1 :: st) m = go 144 51 ls st m := e_1 d144_11 (Or.inr rfl) (by rw [xi]; rfl)
theorem s144_11_2 {ls : LV} {st : List AV} {m : MM} : go 144 11 ls (.inl 2 :: st) m = go 144 66 ls st m := e_1 d144_11 (Or.inr rfl) (by rw [xi]; rfl)
theorem s144_11_3 {ls : LV} {st : List AV} {m : MM} : go 144 11 ls (.inl 3 :: st) m = go 144 73 ls st m := e_1 d144_11 (Or.inr rfl) (by rw [xi]; rfl)
theorem s144_11_4 {ls : LV} {st : List AV} {m : MM} : go 144 11 ls (.inl 4 :: st) m = go 144 80 ls st m := e_1 d144_11 (Or.inr rfl) (by rw [xi]; rfl)
theorem s144_11_d {ls : LV} {st : List AV} {m : MM} {a : Int32} (h : a.toInt < 0 ∨ 4 < a.toInt) : go 144 11 ls (.inl a :: st) m = go 144 103 ls st m := e_1 d144_11 (Or.inr rfl) (by simp only [xi, pI, if_pos h, jm_some (t := 103) (show ((11 : Nat) : Int) + 92 = ((103 : Nat) : Int) by decide), Option.bind_some]; rw [if_pos (by omega)])
theorem d144_44 : decode (mt 144).2.1 44 = .ok (.aload_n 0, 1) := by decide +kernel
theorem s144_44 {a1 a2 : Option AV} {st : List AV} {m : MM} {x : Nat × Option Nat} : go 144 44 [some (.inr (.inr x)), a1, a2] st m = go 144 45 [some (.inr (.inr x)), a1, a2] (.inr (.inr x) :: st) m := e_1 d144_44 (Or.inl rfl) rfl
theorem d144_45 : decode (mt 144).2.1 45 = .ok (.getfield 55, 3) := by decide +kernel
theorem s144_45 {ls : LV} {st : List AV} {m : MM} {n : Nat} : go 144 45 ls (.inr (.inr (8, some n)) :: st) m = go 144 48 ls (.inr (.inr (32, mR m 8 n 19)) :: st) m := e_1 d144_45 (Or.inl rfl) (by rw [xi, pA, show lk fdL (mt 144).2.2.1 55 = some (8, 19) by decide +kernel]; rfl)
theorem d144_48 : decode (mt 144).2.1 48 = .ok (.iload_n 1, 1) := by decide +kernel
theorem s144_48 {a0 a2 : Option AV} {st : List AV} {m : MM} {x : Int32} : go 144 48 [a0, some (.inl x), a2] st m = go 144 49 [a0, some (.inl x), a2] (.inl x :: st) m := e_1 d144_48 (Or.inl rfl) rfl
theorem d144_49 : decode (mt 144).2.1 49 = .ok (.iaload, 1) := by decide +kernel
theorem s144_49 {ls : LV} {st : List AV} {m : MM} {n : Nat} {i : Int32} : go 144 49 ls (.inl i :: .inr (.inr (32, some n)) :: st) m = ixk (ix i (mN m 32 n)) (fun j => go 144 50 ls (.inl (mI m 32 n j) :: st) m) := e_ald d144_49 (fun j hj => by simp only [xi, pI, pA, hj, Option.bind_some]; rfl) (fun hj => by simp only [xi, pI, pA, hj, Option.bind_none])
theorem d144_50 : decode (mt 144).2.1 50 = .ok (.ireturn, 1) := by decide +kernel
theorem s144_50 {ls : LV} {m : MM} {x : Int32} : go 144 50 ls [.inl x] m = some (some (.inl x), m) := e_int d144_50 (by decide +kernel)
theorem d144_51 : decode (mt 144).2.1 51 = .ok (.aload_n 0, 1) := by decide +kernel
theorem s144_51 {a1 a2 : Option AV} {st : List AV} {m : MM} {x : Nat × Option Nat} : go 144 51 [some (.inr (.inr x)), a1, a2] st m = go 144 52 [some (.inr (.inr x)), a1, a2] (.inr (.inr x) :: st) m := e_1 d144_51 (Or.inl rfl) rfl
theorem d144_52 : decode (mt 144).2.1 52 = .ok (.getfield 58, 3) := by decide +kernel
theorem s144_52 {ls : LV} {st : List AV} {m : MM} {n : Nat} : go 144 52 ls (.inr (.inr (8, some n)) :: st) m = go 144 55 ls (.inr (.inr (33, mR m 8 n 20)) :: st) m := e_1 d144_52 (Or.inl rfl) (by rw [xi, pA, show lk fdL (mt 144).2.2.1 58 = some (8, 20) by decide +kernel]; rfl)
theorem d144_55 : decode (mt 144).2.1 55 = .ok (.iload_n 1, 1) := by decide +kernel
theorem s144_55 {a0 a2 : Option AV} {st : List AV} {m : MM} {x : Int32} : go 144 55 [a0, some (.inl x), a2] st m = go 144 56 [a0, some (.inl x), a2] (.inl x :: st) m := e_1 d144_55 (Or.inl rfl) rfl
theorem d144_56 : decode (mt 144).2.1 56 = .ok (.baload, 1) := by decide +kernel
theorem s144_56 {ls : LV} {st : List AV} {m : MM} {n : Nat} {i : Int32} : go 144 56 ls (.inl i :: .inr (.inr (33, some n)) :: st) m = ixk (ix i (mN m 33 n)) (fun j => go 144 57 ls (.inl (mI m 33 n j) :: st) m) := e_ald d144_56 (fun j hj => by simp only [xi, pI, pA, hj, Option.bind_some]; rfl) (fun hj => by simp only [xi, pI, pA, hj, Option.bind_none])
theorem d144_57 : decode (mt 144).2.1 57 = .ok (.ifCond .eq 7, 3) := by decide +kernel
theorem s144_57 {ls : LV} {st : List AV} {m : MM} {a : Int32} : go 144 57 ls (.inl a :: st) m = if a = 0 then go 144 64 ls st m else go 144 60 ls st m := e_if (t := 64) (b := hc .eq a 0) d144_57 (Or.inl rfl) (by simp only [xi, pI, jm_some (t := 64) (show ((57 : Nat) : Int) + 7 = ((64 : Nat) : Int) by decide), Option.bind_some]) (by simp [hc])
theorem d144_60 : decode (mt 144).2.1 60 = .ok (.iconst 1, 1) := by decide +kernel
theorem s144_60 {ls : LV} {st : List AV} {m : MM} : go 144 60 ls st m = go 144 61 ls (.inl 1 :: st) m := e_1 d144_60 (Or.inl rfl) rfl
theorem d144_61 : decode (mt 144).2.1 61 = .ok (.goto 4, 3) := by decide +kernel
theorem s144_61 {ls : LV} {st : List AV} {m : MM} : go 144 61 ls st m = go 144 65 ls st m := e_1 d144_61 (Or.inl rfl) (by rw [xi, jm_some (t := 65) (by decide)]; rfl)
theorem d144_64 : decode (mt 144).2.1 64 = .ok (.iconst 0, 1) := by decide +kernel
theorem s144_64 {ls : LV} {st : List AV} {m : MM} : go 144 64 ls st m = go 144 65 ls (.inl 0 :: st) m := e_1 d144_64 (Or.inl rfl) rfl
theorem d144_65 : decode (mt 144).2.1 65 = .ok (.ireturn, 1) := by decide +kernel
theorem s144_65 {ls : LV} {m : MM} {x : Int32} : go 144 65 ls [.inl x] m = some (some (.inl x), m) := e_int d144_65 (by decide +kernel)
theorem d144_66 : decode (mt 144).2.1 66 = .ok (.aload_n 0, 1) := by decide +kernel
theorem s144_66 {a1 a2 : Option AV} {st : List AV} {m : MM} {x : Nat × Option Nat} : go 144 66 [some (.inr (.inr x)), a1, a2] st m = go 144 67 [some (.inr (.inr x)), a1, a2] (.inr (.inr x) :: st) m := e_1 d144_66 (Or.inl rfl) rfl
theorem d144_67 : decode (mt 144).2.1 67 = .ok (.getfield 61, 3) := by decide +kernel
theorem s144_67 {ls : LV} {st : List AV} {m : MM} {n : Nat} : go 144 67 ls (.inr (.inr (8, some n)) :: st) m = go 144 70 ls (.inr (.inr (34, mR m 8 n 21)) :: st) m := e_1 d144_67 (Or.inl rfl) (by rw [xi, pA, show lk fdL (mt 144).2.2.1 61 = some (8, 21) by decide +kernel]; rfl)
theorem d144_70 : decode (mt 144).2.1 70 = .ok (.iload_n 1, 1) := by decide +kernel
theorem s144_70 {a0 a2 : Option AV} {st : List AV} {m : MM} {x : Int32} : go 144 70 [a0, some (.inl x), a2] st m = go 144 71 [a0, some (.inl x), a2] (.inl x :: st) m := e_1 d144_70 (Or.inl rfl) rfl
theorem d144_71 : decode (mt 144).2.1 71 = .ok (.iaload, 1) := by decide +kernel
theorem s144_71 {ls : LV} {st : List AV} {m : MM} {n : Nat} {i : Int32} : go 144 71 ls (.inl i :: .inr (.inr (34, some n)) :: st) m = ixk (ix i (mN m 34 n)) (fun j => go 144 72 ls (.inl (mI m 34 n j) :: st) m) := e_ald d144_71 (fun j hj => by simp only [xi, pI, pA, hj, Option.bind_some]; rfl) (fun hj => by simp only [xi, pI, pA, hj, Option.bind_none])
theorem d144_72 : decode (mt 144).2.1 72 = .ok (.ireturn, 1) := by decide +kernel
theorem s144_72 {ls : LV} {m : MM} {x : Int32} : go 144 72 ls [.inl x] m = some (some (.inl x), m) := e_int d144_72 (by decide +kernel)
theorem d144_73 : decode (mt 144).2.1 73 = .ok (.aload_n 0, 1) := by decide +kernel
theorem s144_73 {a1 a2 : Option AV} {st : List AV} {m : MM} {x : Nat × Option Nat} : go 144 73 [some (.inr (.inr x)), a1, a2] st m = go 144 74 [some (.inr (.inr x)), a1, a2] (.inr (.inr x) :: st) m := e_1 d144_73 (Or.inl rfl) rfl
theorem d144_74 : decode (mt 144).2.1 74 = .ok (.getfield 64, 3) := by decide +kernel
theorem s144_74 {ls : LV} {st : List AV} {m : MM} {n : Nat} : go 144 74 ls (.inr (.inr (8, some n)) :: st) m = go 144 77 ls (.inr (.inr (35, mR m 8 n 22)) :: st) m := e_1 d144_74 (Or.inl rfl) (by rw [xi, pA, show lk fdL (mt 144).2.2.1 64 = some (8, 22) by decide +kernel]; rfl)
theorem d144_77 : decode (mt 144).2.1 77 = .ok (.iload_n 1, 1) := by decide +kernel
theorem s144_77 {a0 a2 : Option AV} {st : List AV} {m : MM} {x : Int32} : go 144 77 [a0, some (.inl x), a2] st m = go 144 78 [a0, some (.inl x), a2] (.inl x :: st) m := e_1 d144_77 (Or.inl rfl) rfl
theorem d144_78 : decode (mt 144).2.1 78 = .ok (.iaload, 1) := by decide +kernel
theorem s144_78 {ls : LV} {st : List AV} {m : MM} {n : Nat} {i : Int32} : go 144 78 ls (.inl i :: .inr (.inr (35, some n)) :: st) m = ixk (ix i (mN m 35 n)) (fun j => go 144 79 ls (.inl (mI m 35 n j) :: st) m) := e_ald d144_78 (fun j hj => by simp only [xi, pI, pA, hj, Option.bind_some]; rfl) (fun hj => by simp only [xi, pI, pA, hj, Option.bind_none])
theorem d144_79 : decode (mt 144).2.1 79 = .ok (.ireturn, 1) := by decide +kernel
theorem s144_79 {ls : LV} {m : MM} {x : Int32} : go 144 79 ls [.inl x] m = some (some (.inl x), m) := e_int d144_79 (by decide +kernel)
theorem d144_80 : decode (mt 144).2.1 80 = .ok (.aload_n 0, 1) := by decide +kernel
theorem s144_80 {a1 a2 : Option AV} {st : List AV} {m : MM} {x : Nat × Option Nat} : go 144 80 [some (.inr (.inr x)), a1, a2] st m = go 144 81 [some (.inr (.inr x)), a1, a2] (.inr (.inr x) :: st) m := e_1 d144_80 (Or.inl rfl) rfl
theorem d144_81 : decode (mt 144).2.1 81 = .ok (.getfield 64, 3) := by decide +kernel
theorem s144_81 {ls : LV} {st : List AV} {m : MM} {n : Nat} : go 144 81 ls (.inr (.inr (8, some n)) :: st) m = go 144 84 ls (.inr (.inr (35, mR m 8 n 22)) :: st) m := e_1 d144_81 (Or.inl rfl) (by rw [xi, pA, show lk fdL (mt 144).2.2.1 64 = some (8, 22) by decide +kernel]; rfl)
theorem d144_84 : decode (mt 144).2.1 84 = .ok (.iload_n 1, 1) := by decide +kernel
theorem s144_84 {a0 a2 : Option AV} {st : List AV} {m : MM} {x : Int32} : go 144 84 [a0, some (.inl x), a2] st m = go 144 85 [a0, some (.inl x), a2] (.inl x :: st) m := e_1 d144_84 (Or.inl rfl) rfl
theorem d144_85 : decode (mt 144).2.1 85 = .ok (.iaload, 1) := by decide +kernel
theorem s144_85 {ls : LV} {st : List AV} {m : MM} {n : Nat} {i : Int32} : go 144 85 ls (.inl i :: .inr (.inr (35, some n)) :: st) m = ixk (ix i (mN m 35 n)) (fun j => go 144 86 ls (.inl (mI m 35 n j) :: st) m) := e_ald d144_85 (fun j hj => by simp only [xi, pI, pA, hj, Option.bind_some]; rfl) (fun hj => by simp only [xi, pI, pA, hj, Option.bind_none])
theorem d144_86 : decode (mt 144).2.1 86 = .ok (.bipush 40, 2) := by decide +kernel
theorem s144_86 {ls : LV} {st : List AV} {m : MM} : go 144 86 ls st m = go 144 88 ls (.inl 40 :: st) m := e_1 d144_86 (Or.inl rfl) rfl
theorem d144_88 : decode (mt 144).2.1 88 = .ok (.if_icmp .ge 12, 3) := by decide +kernel
theorem s144_88 {ls : LV} {st : List AV} {m : MM} {a b : Int32} : go 144 88 ls (.inl b :: .inl a :: st) m = if b ≤ a then go 144 100 ls st m else go 144 91 ls st m := e_if (t := 100) (b := hc .ge a b) d144_88 (Or.inl rfl) (by simp only [xi, pI, jm_some (t := 100) (show ((88 : Nat) : Int) + 12 = ((100 : Nat) : Int) by decide), Option.bind_some]) (by simp [hc])
theorem d144_91 : decode (mt 144).2.1 91 = .ok (.aload_n 0, 1) := by decide +kernel
theorem s144_91 {a1 a2 : Option AV} {st : List AV} {m : MM} {x : Nat × Option Nat} : go 144 91 [some (.inr (.inr x)), a1, a2] st m = go 144 92 [some (.inr (.inr x)), a1, a2] (.inr (.inr x) :: st) m := e_1 d144_91 (Or.inl rfl) rfl
theorem d144_92 : decode (mt 144).2.1 92 = .ok (.getfield 64, 3) := by decide +kernel
theorem s144_92 {ls : LV} {st : List AV} {m : MM} {n : Nat} : go 144 92 ls (.inr (.inr (8, some n)) :: st) m = go 144 95 ls (.inr (.inr (35, mR m 8 n 22)) :: st) m := e_1 d144_92 (Or.inl rfl) (by rw [xi, pA, show lk fdL (mt 144).2.2.1 64 = some (8, 22) by decide +kernel]; rfl)
theorem d144_95 : decode (mt 144).2.1 95 = .ok (.iload_n 1, 1) := by decide +kernel
theorem s144_95 {a0 a2 : Option AV} {st : List AV} {m : MM} {x : Int32} : go 144 95 [a0, some (.inl x), a2] st m = go 144 96 [a0, some (.inl x), a2] (.inl x :: st) m := e_1 d144_95 (Or.inl rfl) rfl
theorem d144_96 : decode (mt 144).2.1 96 = .ok (.iaload, 1) := by decide +kernel
theorem s144_96 {ls : LV} {st : List AV} {m : MM} {n : Nat} {i : Int32} : go 144 96 ls (.inl i :: .inr (.inr (35, some n)) :: st) m = ixk (ix i (mN m 35 n)) (fun j => go 144 97 ls (.inl (mI m 35 n j) :: st) m) := e_ald d144_96 (fun j hj => by simp only [xi, pI, pA, hj, Option.bind_some]; rfl) (fun hj => by simp only [xi, pI, pA, hj, Option.bind_none])
theorem d144_97 : decode (mt 144).2.1 97 = .ok (.goto 5, 3) := by decide +kernel
theorem s144_97 {ls : LV} {st : List AV} {m : MM} : go 144 97 ls st m = go 144 102 ls st m := e_1 d144_97 (Or.inl rfl) (by rw [xi, jm_some (t := 102) (by decide)]; rfl)
theorem d144_100 : decode (mt 144).2.1 100 = .ok (.bipush 40, 2) := by decide +kernel
theorem s144_100 {ls : LV} {st : List AV} {m : MM} : go 144 100 ls st m = go 144 102 ls (.inl 40 :: st) m := e_1 d144_100 (Or.inl rfl) rfl
theorem d144_102 : decode (mt 144).2.1 102 = .ok (.ireturn, 1) := by decide +kernel
theorem s144_102 {ls : LV} {m : MM} {x : Int32} : go 144 102 ls [.inl x] m = some (some (.inl x), m) := e_int d144_102 (by decide +kernel)
theorem d144_103 : decode (mt 144).2.1 103 = .ok (.iconst (-1), 1) := by decide +kernel
theorem s144_103 {ls : LV} {st : List AV} {m : MM} : go 144 103 ls st m = go 144 104 ls (.inl (-1) :: st) m := e_1 d144_103 (Or.inl rfl) rfl
theorem d144_104 : decode (mt 144).2.1 104 = .ok (.ireturn, 1) := by decide +kernel
theorem s144_104 {ls : LV} {m : MM} {x : Int32} : go 144 104 ls [.inl x] m = some (some (.inl x), m) := e_int d144_104 (by decide +kernel)
/-! X7_passed: 145 -/
theorem d145_0 : decode (mt 145).2.1 0 = .ok (.aload_n 0, 1) := by decide +kernel
theorem s145_0 {a1 a2 : Option AV} {st : List AV} {m : MM} {x : Nat × Option Nat} : go 145 0 [some (.inr (.inr x)), a1, a2] st m = go 145 1 [some (.inr (.inr x)), a1, a2] (.inr (.inr x) :: st) m := e_1 d145_0 (Or.inl rfl) rfl
theorem d145_1 : decode (mt 145).2.1 1 = .ok (.iload_n 1, 1) := by decide +kernel
theorem s145_1 {a0 a2 : Option AV} {st : List AV} {m : MM} {x : Int32} : go 145 1 [a0, some (.inl x), a2] st m = go 145 2 [a0, some (.inl x), a2] (.inl x :: st) m := e_1 d145_1 (Or.inl rfl) rfl
theorem d145_2 : decode (mt 145).2.1 2 = .ok (.invokevirtual 229, 3) := by decide +kernel
theorem s145_2 {ls : LV} {m : MM} {x0 : Int32} {n : Nat} : go 145 2 ls [.inl x0, .inr (.inr (8, some n))] m = bd (go 143 0 [some (.inr (.inr (8, some n))), some (.inl x0)] [] m) (fun v m2 => go 145 5 ls (v.toList ++ []) m2) := e_virt (y1 := 143) (na := 1) (as := [.inl x0]) (rest := []) d145_2 (by decide +kernel) rfl (by decide +kernel) (show (ent [.inr (.inr (8, some n)), .inl x0]).length ≤ (mt 143).2.2.2.1 from Nat.le_of_ble_eq_true rfl) (cats_le (Nat.le_of_ble_eq_true rfl)) (by decide +kernel)
theorem d145_5 : decode (mt 145).2.1 5 = .ok (.ifCond .ne 5, 3) := by decide +kernel
theorem s145_5 {ls : LV} {st : List AV} {m : MM} {a : Int32} : go 145 5 ls (.inl a :: st) m = if ¬ a = 0 then go 145 10 ls st m else go 145 8 ls st m := e_if (t := 10) (b := hc .ne a 0) d145_5 (Or.inl rfl) (by simp only [xi, pI, jm_some (t := 10) (show ((5 : Nat) : Int) + 5 = ((10 : Nat) : Int) by decide), Option.bind_some]) (by simp [hc])
theorem d145_8 : decode (mt 145).2.1 8 = .ok (.iconst (-1), 1) := by decide +kernel
theorem s145_8 {ls : LV} {st : List AV} {m : MM} : go 145 8 ls st m = go 145 9 ls (.inl (-1) :: st) m := e_1 d145_8 (Or.inl rfl) rfl
theorem d145_9 : decode (mt 145).2.1 9 = .ok (.ireturn, 1) := by decide +kernel
theorem s145_9 {ls : LV} {m : MM} {x : Int32} : go 145 9 ls [.inl x] m = some (some (.inl x), m) := e_int d145_9 (by decide +kernel)
theorem d145_10 : decode (mt 145).2.1 10 = .ok (.iload_n 2, 1) := by decide +kernel
theorem s145_10 {a0 a1 : Option AV} {st : List AV} {m : MM} {x : Int32} : go 145 10 [a0, a1, some (.inl x)] st m = go 145 11 [a0, a1, some (.inl x)] (.inl x :: st) m := e_1 d145_10 (Or.inl rfl) rfl
theorem d145_11 : decode (mt 145).2.1 11 = .ok (.i2l, 1) := by decide +kernel
theorem s145_11 {ls : LV} {st : List AV} {m : MM} {a : Int32} : go 145 11 ls (.inl a :: st) m = go 145 12 ls (.inr (.inl a.toInt64) :: st) m := e_1 d145_11 (Or.inl rfl) rfl
theorem d145_12 : decode (mt 145).2.1 12 = .ok (.lconst 0, 1) := by decide +kernel
theorem s145_12 {ls : LV} {st : List AV} {m : MM} : go 145 12 ls st m = go 145 13 ls (.inr (.inl 0) :: st) m := e_1 d145_12 (Or.inl rfl) rfl
theorem d145_13 : decode (mt 145).2.1 13 = .ok (.ldc2_w 232, 3) := by decide +kernel
theorem s145_13 {ls : LV} {st : List AV} {m : MM} : go 145 13 ls st m = go 145 16 ls (.inr (.inl 39) :: st) m := e_1 d145_13 (Or.inl rfl) (by rw [xi, show lk c2L (mt 145).2.2.1 232 = some 39 by decide +kernel]; rfl)
theorem d145_16 : decode (mt 145).2.1 16 = .ok (.invokestatic 118, 3) := by decide +kernel
theorem s145_16 {ls : LV} {m : MM} {x0 : Int64} {x1 : Int64} {x2 : Int64} : go 145 16 ls [.inr (.inl x2), .inr (.inl x1), .inr (.inl x0)] m = bd (go 103 0 [some (.inr (.inl x0)), none, some (.inr (.inl x1)), none, some (.inr (.inl x2)), none] [] m) (fun v m2 => go 145 19 ls (v.toList ++ []) m2) := e_stat (y1 := 103) (na := 3) (as := [.inr (.inl x0), .inr (.inl x1), .inr (.inl x2)]) (rest := []) d145_16 (by decide +kernel) rfl (by decide +kernel) (show (ent [.inr (.inl x0), .inr (.inl x1), .inr (.inl x2)]).length ≤ (mt 103).2.2.2.1 from Nat.le_of_ble_eq_true rfl) (cats_le (Nat.le_of_ble_eq_true rfl)) (by decide +kernel)
theorem d145_19 : decode (mt 145).2.1 19 = .ok (.ifCond .eq 27, 3) := by decide +kernel
theorem s145_19 {ls : LV} {st : List AV} {m : MM} {a : Int32} : go 145 19 ls (.inl a :: st) m = if a = 0 then go 145 46 ls st m else go 145 22 ls st m := e_if (t := 46) (b := hc .eq a 0) d145_19 (Or.inl rfl) (by simp only [xi, pI, jm_some (t := 46) (show ((19 : Nat) : Int) + 27 = ((46 : Nat) : Int) by decide), Option.bind_some]) (by simp [hc])
theorem d145_22 : decode (mt 145).2.1 22 = .ok (.iload_n 2, 1) := by decide +kernel
theorem s145_22 {a0 a1 : Option AV} {st : List AV} {m : MM} {x : Int32} : go 145 22 [a0, a1, some (.inl x)] st m = go 145 23 [a0, a1, some (.inl x)] (.inl x :: st) m := e_1 d145_22 (Or.inl rfl) rfl
theorem d145_23 : decode (mt 145).2.1 23 = .ok (.aload_n 0, 1) := by decide +kernel
theorem s145_23 {a1 a2 : Option AV} {st : List AV} {m : MM} {x : Nat × Option Nat} : go 145 23 [some (.inr (.inr x)), a1, a2] st m = go 145 24 [some (.inr (.inr x)), a1, a2] (.inr (.inr x) :: st) m := e_1 d145_23 (Or.inl rfl) rfl
theorem d145_24 : decode (mt 145).2.1 24 = .ok (.getfield 64, 3) := by decide +kernel
theorem s145_24 {ls : LV} {st : List AV} {m : MM} {n : Nat} : go 145 24 ls (.inr (.inr (8, some n)) :: st) m = go 145 27 ls (.inr (.inr (35, mR m 8 n 22)) :: st) m := e_1 d145_24 (Or.inl rfl) (by rw [xi, pA, show lk fdL (mt 145).2.2.1 64 = some (8, 22) by decide +kernel]; rfl)
theorem d145_27 : decode (mt 145).2.1 27 = .ok (.iload_n 1, 1) := by decide +kernel
theorem s145_27 {a0 a2 : Option AV} {st : List AV} {m : MM} {x : Int32} : go 145 27 [a0, some (.inl x), a2] st m = go 145 28 [a0, some (.inl x), a2] (.inl x :: st) m := e_1 d145_27 (Or.inl rfl) rfl
theorem d145_28 : decode (mt 145).2.1 28 = .ok (.iaload, 1) := by decide +kernel
theorem s145_28 {ls : LV} {st : List AV} {m : MM} {n : Nat} {i : Int32} : go 145 28 ls (.inl i :: .inr (.inr (35, some n)) :: st) m = ixk (ix i (mN m 35 n)) (fun j => go 145 29 ls (.inl (mI m 35 n j) :: st) m) := e_ald d145_28 (fun j hj => by simp only [xi, pI, pA, hj, Option.bind_some]; rfl) (fun hj => by simp only [xi, pI, pA, hj, Option.bind_none])
theorem d145_29 : decode (mt 145).2.1 29 = .ok (.if_icmp .ge 17, 3) := by decide +kernel
theorem s145_29 {ls : LV} {st : List AV} {m : MM} {a b : Int32} : go 145 29 ls (.inl b :: .inl a :: st) m = if b ≤ a then go 145 46 ls st m else go 145 32 ls st m := e_if (t := 46) (b := hc .ge a b) d145_29 (Or.inl rfl) (by simp only [xi, pI, jm_some (t := 46) (show ((29 : Nat) : Int) + 17 = ((46 : Nat) : Int) by decide), Option.bind_some]) (by simp [hc])
theorem d145_32 : decode (mt 145).2.1 32 = .ok (.aload_n 0, 1) := by decide +kernel
theorem s145_32 {a1 a2 : Option AV} {st : List AV} {m : MM} {x : Nat × Option Nat} : go 145 32 [some (.inr (.inr x)), a1, a2] st m = go 145 33 [some (.inr (.inr x)), a1, a2] (.inr (.inr x) :: st) m := e_1 d145_32 (Or.inl rfl) rfl
theorem d145_33 : decode (mt 145).2.1 33 = .ok (.getfield 67, 3) := by decide +kernel
theorem s145_33 {ls : LV} {st : List AV} {m : MM} {n : Nat} : go 145 33 ls (.inr (.inr (8, some n)) :: st) m = go 145 36 ls (.inr (.inr (36, mR m 8 n 23)) :: st) m := e_1 d145_33 (Or.inl rfl) (by rw [xi, pA, show lk fdL (mt 145).2.2.1 67 = some (8, 23) by decide +kernel]; rfl)
theorem d145_36 : decode (mt 145).2.1 36 = .ok (.bipush 40, 2) := by decide +kernel
theorem s145_36 {ls : LV} {st : List AV} {m : MM} : go 145 36 ls st m = go 145 38 ls (.inl 40 :: st) m := e_1 d145_36 (Or.inl rfl) rfl
theorem d145_38 : decode (mt 145).2.1 38 = .ok (.iload_n 1, 1) := by decide +kernel
theorem s145_38 {a0 a2 : Option AV} {st : List AV} {m : MM} {x : Int32} : go 145 38 [a0, some (.inl x), a2] st m = go 145 39 [a0, some (.inl x), a2] (.inl x :: st) m := e_1 d145_38 (Or.inl rfl) rfl
theorem d145_39 : decode (mt 145).2.1 39 = .ok (.imul, 1) := by decide +kernel
theorem s145_39 {ls : LV} {st : List AV} {m : MM} {a b : Int32} : go 145 39 ls (.inl b :: .inl a :: st) m = go 145 40 ls (.inl (a * b) :: st) m := e_1 d145_39 (Or.inl rfl) rfl
theorem d145_40 : decode (mt 145).2.1 40 = .ok (.iload_n 2, 1) := by decide +kernel
theorem s145_40 {a0 a1 : Option AV} {st : List AV} {m : MM} {x : Int32} : go 145 40 [a0, a1, some (.inl x)] st m = go 145 41 [a0, a1, some (.inl x)] (.inl x :: st) m := e_1 d145_40 (Or.inl rfl) rfl
theorem d145_41 : decode (mt 145).2.1 41 = .ok (.iadd, 1) := by decide +kernel
theorem s145_41 {ls : LV} {st : List AV} {m : MM} {a b : Int32} : go 145 41 ls (.inl b :: .inl a :: st) m = go 145 42 ls (.inl (a + b) :: st) m := e_1 d145_41 (Or.inl rfl) rfl
theorem d145_42 : decode (mt 145).2.1 42 = .ok (.iaload, 1) := by decide +kernel
theorem s145_42 {ls : LV} {st : List AV} {m : MM} {n : Nat} {i : Int32} : go 145 42 ls (.inl i :: .inr (.inr (36, some n)) :: st) m = ixk (ix i (mN m 36 n)) (fun j => go 145 43 ls (.inl (mI m 36 n j) :: st) m) := e_ald d145_42 (fun j hj => by simp only [xi, pI, pA, hj, Option.bind_some]; rfl) (fun hj => by simp only [xi, pI, pA, hj, Option.bind_none])
theorem d145_43 : decode (mt 145).2.1 43 = .ok (.goto 5, 3) := by decide +kernel
theorem s145_43 {ls : LV} {st : List AV} {m : MM} : go 145 43 ls st m = go 145 48 ls st m := e_1 d145_43 (Or.inl rfl) (by rw [xi, jm_some (t := 48) (by decide)]; rfl)
theorem d145_46 : decode (mt 145).2.1 46 = .ok (.bipush (-4), 2) := by decide +kernel
theorem s145_46 {ls : LV} {st : List AV} {m : MM} : go 145 46 ls st m = go 145 48 ls (.inl (-4) :: st) m := e_1 d145_46 (Or.inl rfl) rfl
theorem d145_48 : decode (mt 145).2.1 48 = .ok (.ireturn, 1) := by decide +kernel
theorem s145_48 {ls : LV} {m : MM} {x : Int32} : go 145 48 ls [.inl x] m = some (some (.inl x), m) := e_int d145_48 (by decide +kernel)
/-! X7_noted: 146 -/
theorem d146_0 : decode (mt 146).2.1 0 = .ok (.aload_n 0, 1) := by decide +kernel
theorem s146_0 {a1 a2 : Option AV} {st : List AV} {m : MM} {x : Nat × Option Nat} : go 146 0 [some (.inr (.inr x)), a1, a2] st m = go 146 1 [some (.inr (.inr x)), a1, a2] (.inr (.inr x) :: st) m := e_1 d146_0 (Or.inl rfl) rfl
theorem d146_1 : decode (mt 146).2.1 1 = .ok (.iload_n 1, 1) := by decide +kernel
theorem s146_1 {a0 a2 : Option AV} {st : List AV} {m : MM} {x : Int32} : go 146 1 [a0, some (.inl x), a2] st m = go 146 2 [a0, some (.inl x), a2] (.inl x :: st) m := e_1 d146_1 (Or.inl rfl) rfl
theorem d146_2 : decode (mt 146).2.1 2 = .ok (.invokevirtual 229, 3) := by decide +kernel
theorem s146_2 {ls : LV} {m : MM} {x0 : Int32} {n : Nat} : go 146 2 ls [.inl x0, .inr (.inr (8, some n))] m = bd (go 143 0 [some (.inr (.inr (8, some n))), some (.inl x0)] [] m) (fun v m2 => go 146 5 ls (v.toList ++ []) m2) := e_virt (y1 := 143) (na := 1) (as := [.inl x0]) (rest := []) d146_2 (by decide +kernel) rfl (by decide +kernel) (show (ent [.inr (.inr (8, some n)), .inl x0]).length ≤ (mt 143).2.2.2.1 from Nat.le_of_ble_eq_true rfl) (cats_le (Nat.le_of_ble_eq_true rfl)) (by decide +kernel)
theorem d146_5 : decode (mt 146).2.1 5 = .ok (.ifCond .eq 13, 3) := by decide +kernel
theorem s146_5 {ls : LV} {st : List AV} {m : MM} {a : Int32} : go 146 5 ls (.inl a :: st) m = if a = 0 then go 146 18 ls st m else go 146 8 ls st m := e_if (t := 18) (b := hc .eq a 0) d146_5 (Or.inl rfl) (by simp only [xi, pI, jm_some (t := 18) (show ((5 : Nat) : Int) + 13 = ((18 : Nat) : Int) by decide), Option.bind_some]) (by simp [hc])
theorem d146_8 : decode (mt 146).2.1 8 = .ok (.aload_n 0, 1) := by decide +kernel
theorem s146_8 {a1 a2 : Option AV} {st : List AV} {m : MM} {x : Nat × Option Nat} : go 146 8 [some (.inr (.inr x)), a1, a2] st m = go 146 9 [some (.inr (.inr x)), a1, a2] (.inr (.inr x) :: st) m := e_1 d146_8 (Or.inl rfl) rfl
theorem d146_9 : decode (mt 146).2.1 9 = .ok (.getfield 55, 3) := by decide +kernel
theorem s146_9 {ls : LV} {st : List AV} {m : MM} {n : Nat} : go 146 9 ls (.inr (.inr (8, some n)) :: st) m = go 146 12 ls (.inr (.inr (32, mR m 8 n 19)) :: st) m := e_1 d146_9 (Or.inl rfl) (by rw [xi, pA, show lk fdL (mt 146).2.2.1 55 = some (8, 19) by decide +kernel]; rfl)
theorem d146_12 : decode (mt 146).2.1 12 = .ok (.iload_n 1, 1) := by decide +kernel
theorem s146_12 {a0 a2 : Option AV} {st : List AV} {m : MM} {x : Int32} : go 146 12 [a0, some (.inl x), a2] st m = go 146 13 [a0, some (.inl x), a2] (.inl x :: st) m := e_1 d146_12 (Or.inl rfl) rfl
theorem d146_13 : decode (mt 146).2.1 13 = .ok (.iaload, 1) := by decide +kernel
theorem s146_13 {ls : LV} {st : List AV} {m : MM} {n : Nat} {i : Int32} : go 146 13 ls (.inl i :: .inr (.inr (32, some n)) :: st) m = ixk (ix i (mN m 32 n)) (fun j => go 146 14 ls (.inl (mI m 32 n j) :: st) m) := e_ald d146_13 (fun j hj => by simp only [xi, pI, pA, hj, Option.bind_some]; rfl) (fun hj => by simp only [xi, pI, pA, hj, Option.bind_none])
theorem d146_14 : decode (mt 146).2.1 14 = .ok (.iconst 1, 1) := by decide +kernel
theorem s146_14 {ls : LV} {st : List AV} {m : MM} : go 146 14 ls st m = go 146 15 ls (.inl 1 :: st) m := e_1 d146_14 (Or.inl rfl) rfl
theorem d146_15 : decode (mt 146).2.1 15 = .ok (.if_icmp .eq 5, 3) := by decide +kernel
theorem s146_15 {ls : LV} {st : List AV} {m : MM} {a b : Int32} : go 146 15 ls (.inl b :: .inl a :: st) m = if a = b then go 146 20 ls st m else go 146 18 ls st m := e_if (t := 20) (b := hc .eq a b) d146_15 (Or.inl rfl) (by simp only [xi, pI, jm_some (t := 20) (show ((15 : Nat) : Int) + 5 = ((20 : Nat) : Int) by decide), Option.bind_some]) (by simp [hc])
theorem d146_18 : decode (mt 146).2.1 18 = .ok (.iconst (-1), 1) := by decide +kernel
theorem s146_18 {ls : LV} {st : List AV} {m : MM} : go 146 18 ls st m = go 146 19 ls (.inl (-1) :: st) m := e_1 d146_18 (Or.inl rfl) rfl
theorem d146_19 : decode (mt 146).2.1 19 = .ok (.ireturn, 1) := by decide +kernel
theorem s146_19 {ls : LV} {m : MM} {x : Int32} : go 146 19 ls [.inl x] m = some (some (.inl x), m) := e_int d146_19 (by decide +kernel)
theorem d146_20 : decode (mt 146).2.1 20 = .ok (.iload_n 2, 1) := by decide +kernel
theorem s146_20 {a0 a1 : Option AV} {st : List AV} {m : MM} {x : Int32} : go 146 20 [a0, a1, some (.inl x)] st m = go 146 21 [a0, a1, some (.inl x)] (.inl x :: st) m := e_1 d146_20 (Or.inl rfl) rfl
theorem d146_21 : decode (mt 146).2.1 21 = .ok (.i2l, 1) := by decide +kernel
theorem s146_21 {ls : LV} {st : List AV} {m : MM} {a : Int32} : go 146 21 ls (.inl a :: st) m = go 146 22 ls (.inr (.inl a.toInt64) :: st) m := e_1 d146_21 (Or.inl rfl) rfl
theorem d146_22 : decode (mt 146).2.1 22 = .ok (.lconst 0, 1) := by decide +kernel
theorem s146_22 {ls : LV} {st : List AV} {m : MM} : go 146 22 ls st m = go 146 23 ls (.inr (.inl 0) :: st) m := e_1 d146_22 (Or.inl rfl) rfl
theorem d146_23 : decode (mt 146).2.1 23 = .ok (.ldc2_w 232, 3) := by decide +kernel
theorem s146_23 {ls : LV} {st : List AV} {m : MM} : go 146 23 ls st m = go 146 26 ls (.inr (.inl 39) :: st) m := e_1 d146_23 (Or.inl rfl) (by rw [xi, show lk c2L (mt 146).2.2.1 232 = some 39 by decide +kernel]; rfl)
theorem d146_26 : decode (mt 146).2.1 26 = .ok (.invokestatic 118, 3) := by decide +kernel
theorem s146_26 {ls : LV} {m : MM} {x0 : Int64} {x1 : Int64} {x2 : Int64} : go 146 26 ls [.inr (.inl x2), .inr (.inl x1), .inr (.inl x0)] m = bd (go 103 0 [some (.inr (.inl x0)), none, some (.inr (.inl x1)), none, some (.inr (.inl x2)), none] [] m) (fun v m2 => go 146 29 ls (v.toList ++ []) m2) := e_stat (y1 := 103) (na := 3) (as := [.inr (.inl x0), .inr (.inl x1), .inr (.inl x2)]) (rest := []) d146_26 (by decide +kernel) rfl (by decide +kernel) (show (ent [.inr (.inl x0), .inr (.inl x1), .inr (.inl x2)]).length ≤ (mt 103).2.2.2.1 from Nat.le_of_ble_eq_true rfl) (cats_le (Nat.le_of_ble_eq_true rfl)) (by decide +kernel)
theorem d146_29 : decode (mt 146).2.1 29 = .ok (.ifCond .eq 27, 3) := by decide +kernel
theorem s146_29 {ls : LV} {st : List AV} {m : MM} {a : Int32} : go 146 29 ls (.inl a :: st) m = if a = 0 then go 146 56 ls st m else go 146 32 ls st m := e_if (t := 56) (b := hc .eq a 0) d146_29 (Or.inl rfl) (by simp only [xi, pI, jm_some (t := 56) (show ((29 : Nat) : Int) + 27 = ((56 : Nat) : Int) by decide), Option.bind_some]) (by simp [hc])
theorem d146_32 : decode (mt 146).2.1 32 = .ok (.iload_n 2, 1) := by decide +kernel
theorem s146_32 {a0 a1 : Option AV} {st : List AV} {m : MM} {x : Int32} : go 146 32 [a0, a1, some (.inl x)] st m = go 146 33 [a0, a1, some (.inl x)] (.inl x :: st) m := e_1 d146_32 (Or.inl rfl) rfl
theorem d146_33 : decode (mt 146).2.1 33 = .ok (.aload_n 0, 1) := by decide +kernel
theorem s146_33 {a1 a2 : Option AV} {st : List AV} {m : MM} {x : Nat × Option Nat} : go 146 33 [some (.inr (.inr x)), a1, a2] st m = go 146 34 [some (.inr (.inr x)), a1, a2] (.inr (.inr x) :: st) m := e_1 d146_33 (Or.inl rfl) rfl
theorem d146_34 : decode (mt 146).2.1 34 = .ok (.getfield 73, 3) := by decide +kernel
theorem s146_34 {ls : LV} {st : List AV} {m : MM} {n : Nat} : go 146 34 ls (.inr (.inr (8, some n)) :: st) m = go 146 37 ls (.inr (.inr (38, mR m 8 n 25)) :: st) m := e_1 d146_34 (Or.inl rfl) (by rw [xi, pA, show lk fdL (mt 146).2.2.1 73 = some (8, 25) by decide +kernel]; rfl)
theorem d146_37 : decode (mt 146).2.1 37 = .ok (.iload_n 1, 1) := by decide +kernel
theorem s146_37 {a0 a2 : Option AV} {st : List AV} {m : MM} {x : Int32} : go 146 37 [a0, some (.inl x), a2] st m = go 146 38 [a0, some (.inl x), a2] (.inl x :: st) m := e_1 d146_37 (Or.inl rfl) rfl
theorem d146_38 : decode (mt 146).2.1 38 = .ok (.iaload, 1) := by decide +kernel
theorem s146_38 {ls : LV} {st : List AV} {m : MM} {n : Nat} {i : Int32} : go 146 38 ls (.inl i :: .inr (.inr (38, some n)) :: st) m = ixk (ix i (mN m 38 n)) (fun j => go 146 39 ls (.inl (mI m 38 n j) :: st) m) := e_ald d146_38 (fun j hj => by simp only [xi, pI, pA, hj, Option.bind_some]; rfl) (fun hj => by simp only [xi, pI, pA, hj, Option.bind_none])
theorem d146_39 : decode (mt 146).2.1 39 = .ok (.if_icmp .ge 17, 3) := by decide +kernel
theorem s146_39 {ls : LV} {st : List AV} {m : MM} {a b : Int32} : go 146 39 ls (.inl b :: .inl a :: st) m = if b ≤ a then go 146 56 ls st m else go 146 42 ls st m := e_if (t := 56) (b := hc .ge a b) d146_39 (Or.inl rfl) (by simp only [xi, pI, jm_some (t := 56) (show ((39 : Nat) : Int) + 17 = ((56 : Nat) : Int) by decide), Option.bind_some]) (by simp [hc])
theorem d146_42 : decode (mt 146).2.1 42 = .ok (.aload_n 0, 1) := by decide +kernel
theorem s146_42 {a1 a2 : Option AV} {st : List AV} {m : MM} {x : Nat × Option Nat} : go 146 42 [some (.inr (.inr x)), a1, a2] st m = go 146 43 [some (.inr (.inr x)), a1, a2] (.inr (.inr x) :: st) m := e_1 d146_42 (Or.inl rfl) rfl
theorem d146_43 : decode (mt 146).2.1 43 = .ok (.getfield 70, 3) := by decide +kernel
theorem s146_43 {ls : LV} {st : List AV} {m : MM} {n : Nat} : go 146 43 ls (.inr (.inr (8, some n)) :: st) m = go 146 46 ls (.inr (.inr (37, mR m 8 n 24)) :: st) m := e_1 d146_43 (Or.inl rfl) (by rw [xi, pA, show lk fdL (mt 146).2.2.1 70 = some (8, 24) by decide +kernel]; rfl)
theorem d146_46 : decode (mt 146).2.1 46 = .ok (.bipush 40, 2) := by decide +kernel
theorem s146_46 {ls : LV} {st : List AV} {m : MM} : go 146 46 ls st m = go 146 48 ls (.inl 40 :: st) m := e_1 d146_46 (Or.inl rfl) rfl
theorem d146_48 : decode (mt 146).2.1 48 = .ok (.iload_n 1, 1) := by decide +kernel
theorem s146_48 {a0 a2 : Option AV} {st : List AV} {m : MM} {x : Int32} : go 146 48 [a0, some (.inl x), a2] st m = go 146 49 [a0, some (.inl x), a2] (.inl x :: st) m := e_1 d146_48 (Or.inl rfl) rfl
theorem d146_49 : decode (mt 146).2.1 49 = .ok (.imul, 1) := by decide +kernel
theorem s146_49 {ls : LV} {st : List AV} {m : MM} {a b : Int32} : go 146 49 ls (.inl b :: .inl a :: st) m = go 146 50 ls (.inl (a * b) :: st) m := e_1 d146_49 (Or.inl rfl) rfl
theorem d146_50 : decode (mt 146).2.1 50 = .ok (.iload_n 2, 1) := by decide +kernel
theorem s146_50 {a0 a1 : Option AV} {st : List AV} {m : MM} {x : Int32} : go 146 50 [a0, a1, some (.inl x)] st m = go 146 51 [a0, a1, some (.inl x)] (.inl x :: st) m := e_1 d146_50 (Or.inl rfl) rfl
theorem d146_51 : decode (mt 146).2.1 51 = .ok (.iadd, 1) := by decide +kernel
theorem s146_51 {ls : LV} {st : List AV} {m : MM} {a b : Int32} : go 146 51 ls (.inl b :: .inl a :: st) m = go 146 52 ls (.inl (a + b) :: st) m := e_1 d146_51 (Or.inl rfl) rfl
theorem d146_52 : decode (mt 146).2.1 52 = .ok (.iaload, 1) := by decide +kernel
theorem s146_52 {ls : LV} {st : List AV} {m : MM} {n : Nat} {i : Int32} : go 146 52 ls (.inl i :: .inr (.inr (37, some n)) :: st) m = ixk (ix i (mN m 37 n)) (fun j => go 146 53 ls (.inl (mI m 37 n j) :: st) m) := e_ald d146_52 (fun j hj => by simp only [xi, pI, pA, hj, Option.bind_some]; rfl) (fun hj => by simp only [xi, pI, pA, hj, Option.bind_none])
theorem d146_53 : decode (mt 146).2.1 53 = .ok (.goto 5, 3) := by decide +kernel
theorem s146_53 {ls : LV} {st : List AV} {m : MM} : go 146 53 ls st m = go 146 58 ls st m := e_1 d146_53 (Or.inl rfl) (by rw [xi, jm_some (t := 58) (by decide)]; rfl)
theorem d146_56 : decode (mt 146).2.1 56 = .ok (.bipush (-4), 2) := by decide +kernel
theorem s146_56 {ls : LV} {st : List AV} {m : MM} : go 146 56 ls st m = go 146 58 ls (.inl (-4) :: st) m := e_1 d146_56 (Or.inl rfl) rfl
theorem d146_58 : decode (mt 146).2.1 58 = .ok (.ireturn, 1) := by decide +kernel
theorem s146_58 {ls : LV} {m : MM} {x : Int32} : go 146 58 ls [.inl x] m = some (some (.inl x), m) := e_int d146_58 (by decide +kernel)
/-! X7_value: 147 -/
theorem d147_0 : decode (mt 147).2.1 0 = .ok (.aload_n 0, 1) := by decide +kernel
theorem s147_0 {a1 : Option AV} {st : List AV} {m : MM} {x : Nat × Option Nat} : go 147 0 [some (.inr (.inr x)), a1] st m = go 147 1 [some (.inr (.inr x)), a1] (.inr (.inr x) :: st) m := e_1 d147_0 (Or.inl rfl) rfl
theorem d147_1 : decode (mt 147).2.1 1 = .ok (.iload_n 1, 1) := by decide +kernel
theorem s147_1 {a0 : Option AV} {st : List AV} {m : MM} {x : Int32} : go 147 1 [a0, some (.inl x)] st m = go 147 2 [a0, some (.inl x)] (.inl x :: st) m := e_1 d147_1 (Or.inl rfl) rfl
theorem d147_2 : decode (mt 147).2.1 2 = .ok (.invokevirtual 229, 3) := by decide +kernel
theorem s147_2 {ls : LV} {m : MM} {x0 : Int32} {n : Nat} : go 147 2 ls [.inl x0, .inr (.inr (8, some n))] m = bd (go 143 0 [some (.inr (.inr (8, some n))), some (.inl x0)] [] m) (fun v m2 => go 147 5 ls (v.toList ++ []) m2) := e_virt (y1 := 143) (na := 1) (as := [.inl x0]) (rest := []) d147_2 (by decide +kernel) rfl (by decide +kernel) (show (ent [.inr (.inr (8, some n)), .inl x0]).length ≤ (mt 143).2.2.2.1 from Nat.le_of_ble_eq_true rfl) (cats_le (Nat.le_of_ble_eq_true rfl)) (by decide +kernel)
theorem d147_5 : decode (mt 147).2.1 5 = .ok (.ifCond .eq 31, 3) := by decide +kernel
theorem s147_5 {ls : LV} {st : List AV} {m : MM} {a : Int32} : go 147 5 ls (.inl a :: st) m = if a = 0 then go 147 36 ls st m else go 147 8 ls st m := e_if (t := 36) (b := hc .eq a 0) d147_5 (Or.inl rfl) (by simp only [xi, pI, jm_some (t := 36) (show ((5 : Nat) : Int) + 31 = ((36 : Nat) : Int) by decide), Option.bind_some]) (by simp [hc])
theorem d147_8 : decode (mt 147).2.1 8 = .ok (.aload_n 0, 1) := by decide +kernel
theorem s147_8 {a1 : Option AV} {st : List AV} {m : MM} {x : Nat × Option Nat} : go 147 8 [some (.inr (.inr x)), a1] st m = go 147 9 [some (.inr (.inr x)), a1] (.inr (.inr x) :: st) m := e_1 d147_8 (Or.inl rfl) rfl
theorem d147_9 : decode (mt 147).2.1 9 = .ok (.getfield 55, 3) := by decide +kernel
theorem s147_9 {ls : LV} {st : List AV} {m : MM} {n : Nat} : go 147 9 ls (.inr (.inr (8, some n)) :: st) m = go 147 12 ls (.inr (.inr (32, mR m 8 n 19)) :: st) m := e_1 d147_9 (Or.inl rfl) (by rw [xi, pA, show lk fdL (mt 147).2.2.1 55 = some (8, 19) by decide +kernel]; rfl)
theorem d147_12 : decode (mt 147).2.1 12 = .ok (.iload_n 1, 1) := by decide +kernel
theorem s147_12 {a0 : Option AV} {st : List AV} {m : MM} {x : Int32} : go 147 12 [a0, some (.inl x)] st m = go 147 13 [a0, some (.inl x)] (.inl x :: st) m := e_1 d147_12 (Or.inl rfl) rfl
theorem d147_13 : decode (mt 147).2.1 13 = .ok (.iaload, 1) := by decide +kernel
theorem s147_13 {ls : LV} {st : List AV} {m : MM} {n : Nat} {i : Int32} : go 147 13 ls (.inl i :: .inr (.inr (32, some n)) :: st) m = ixk (ix i (mN m 32 n)) (fun j => go 147 14 ls (.inl (mI m 32 n j) :: st) m) := e_ald d147_13 (fun j hj => by simp only [xi, pI, pA, hj, Option.bind_some]; rfl) (fun hj => by simp only [xi, pI, pA, hj, Option.bind_none])
theorem d147_14 : decode (mt 147).2.1 14 = .ok (.iconst 4, 1) := by decide +kernel
theorem s147_14 {ls : LV} {st : List AV} {m : MM} : go 147 14 ls st m = go 147 15 ls (.inl 4 :: st) m := e_1 d147_14 (Or.inl rfl) rfl
theorem d147_15 : decode (mt 147).2.1 15 = .ok (.if_icmp .ne 21, 3) := by decide +kernel
theorem s147_15 {ls : LV} {st : List AV} {m : MM} {a b : Int32} : go 147 15 ls (.inl b :: .inl a :: st) m = if ¬ a = b then go 147 36 ls st m else go 147 18 ls st m := e_if (t := 36) (b := hc .ne a b) d147_15 (Or.inl rfl) (by simp only [xi, pI, jm_some (t := 36) (show ((15 : Nat) : Int) + 21 = ((36 : Nat) : Int) by decide), Option.bind_some]) (by simp [hc])
theorem d147_18 : decode (mt 147).2.1 18 = .ok (.aload_n 0, 1) := by decide +kernel
theorem s147_18 {a1 : Option AV} {st : List AV} {m : MM} {x : Nat × Option Nat} : go 147 18 [some (.inr (.inr x)), a1] st m = go 147 19 [some (.inr (.inr x)), a1] (.inr (.inr x) :: st) m := e_1 d147_18 (Or.inl rfl) rfl
theorem d147_19 : decode (mt 147).2.1 19 = .ok (.getfield 58, 3) := by decide +kernel
theorem s147_19 {ls : LV} {st : List AV} {m : MM} {n : Nat} : go 147 19 ls (.inr (.inr (8, some n)) :: st) m = go 147 22 ls (.inr (.inr (33, mR m 8 n 20)) :: st) m := e_1 d147_19 (Or.inl rfl) (by rw [xi, pA, show lk fdL (mt 147).2.2.1 58 = some (8, 20) by decide +kernel]; rfl)
theorem d147_22 : decode (mt 147).2.1 22 = .ok (.iload_n 1, 1) := by decide +kernel
theorem s147_22 {a0 : Option AV} {st : List AV} {m : MM} {x : Int32} : go 147 22 [a0, some (.inl x)] st m = go 147 23 [a0, some (.inl x)] (.inl x :: st) m := e_1 d147_22 (Or.inl rfl) rfl
theorem d147_23 : decode (mt 147).2.1 23 = .ok (.baload, 1) := by decide +kernel
theorem s147_23 {ls : LV} {st : List AV} {m : MM} {n : Nat} {i : Int32} : go 147 23 ls (.inl i :: .inr (.inr (33, some n)) :: st) m = ixk (ix i (mN m 33 n)) (fun j => go 147 24 ls (.inl (mI m 33 n j) :: st) m) := e_ald d147_23 (fun j hj => by simp only [xi, pI, pA, hj, Option.bind_some]; rfl) (fun hj => by simp only [xi, pI, pA, hj, Option.bind_none])
theorem d147_24 : decode (mt 147).2.1 24 = .ok (.ifCond .eq 12, 3) := by decide +kernel
theorem s147_24 {ls : LV} {st : List AV} {m : MM} {a : Int32} : go 147 24 ls (.inl a :: st) m = if a = 0 then go 147 36 ls st m else go 147 27 ls st m := e_if (t := 36) (b := hc .eq a 0) d147_24 (Or.inl rfl) (by simp only [xi, pI, jm_some (t := 36) (show ((24 : Nat) : Int) + 12 = ((36 : Nat) : Int) by decide), Option.bind_some]) (by simp [hc])
theorem d147_27 : decode (mt 147).2.1 27 = .ok (.aload_n 0, 1) := by decide +kernel
theorem s147_27 {a1 : Option AV} {st : List AV} {m : MM} {x : Nat × Option Nat} : go 147 27 [some (.inr (.inr x)), a1] st m = go 147 28 [some (.inr (.inr x)), a1] (.inr (.inr x) :: st) m := e_1 d147_27 (Or.inl rfl) rfl
theorem d147_28 : decode (mt 147).2.1 28 = .ok (.getfield 85, 3) := by decide +kernel
theorem s147_28 {ls : LV} {st : List AV} {m : MM} {n : Nat} : go 147 28 ls (.inr (.inr (8, some n)) :: st) m = go 147 31 ls (.inr (.inr (42, mR m 8 n 29)) :: st) m := e_1 d147_28 (Or.inl rfl) (by rw [xi, pA, show lk fdL (mt 147).2.2.1 85 = some (8, 29) by decide +kernel]; rfl)
theorem d147_31 : decode (mt 147).2.1 31 = .ok (.iload_n 1, 1) := by decide +kernel
theorem s147_31 {a0 : Option AV} {st : List AV} {m : MM} {x : Int32} : go 147 31 [a0, some (.inl x)] st m = go 147 32 [a0, some (.inl x)] (.inl x :: st) m := e_1 d147_31 (Or.inl rfl) rfl
theorem d147_32 : decode (mt 147).2.1 32 = .ok (.laload, 1) := by decide +kernel
theorem s147_32 {ls : LV} {st : List AV} {m : MM} {n : Nat} {i : Int32} : go 147 32 ls (.inl i :: .inr (.inr (42, some n)) :: st) m = ixk (ix i (mN m 42 n)) (fun j => go 147 33 ls (.inr (.inl (mL m 42 n j)) :: st) m) := e_ald d147_32 (fun j hj => by simp only [xi, pI, pA, hj, Option.bind_some]; rfl) (fun hj => by simp only [xi, pI, pA, hj, Option.bind_none])
theorem d147_33 : decode (mt 147).2.1 33 = .ok (.goto 4, 3) := by decide +kernel
theorem s147_33 {ls : LV} {st : List AV} {m : MM} : go 147 33 ls st m = go 147 37 ls st m := e_1 d147_33 (Or.inl rfl) (by rw [xi, jm_some (t := 37) (by decide)]; rfl)
theorem d147_36 : decode (mt 147).2.1 36 = .ok (.lconst 0, 1) := by decide +kernel
theorem s147_36 {ls : LV} {st : List AV} {m : MM} : go 147 36 ls st m = go 147 37 ls (.inr (.inl 0) :: st) m := e_1 d147_36 (Or.inl rfl) rfl
theorem d147_37 : decode (mt 147).2.1 37 = .ok (.lreturn, 1) := by decide +kernel
theorem s147_37 {ls : LV} {m : MM} {x : Int64} : go 147 37 ls [.inr (.inl x)] m = some (some (.inr (.inl x)), m) := e_long d147_37 (by decide +kernel)
/-! X7_mayCome: 148 -/
theorem d148_0 : decode (mt 148).2.1 0 = .ok (.aload_n 0, 1) := by decide +kernel
theorem s148_0 {a1 : Option AV} {st : List AV} {m : MM} {x : Nat × Option Nat} : go 148 0 [some (.inr (.inr x)), a1] st m = go 148 1 [some (.inr (.inr x)), a1] (.inr (.inr x) :: st) m := e_1 d148_0 (Or.inl rfl) rfl
theorem d148_1 : decode (mt 148).2.1 1 = .ok (.getfield 186, 3) := by decide +kernel
theorem s148_1 {ls : LV} {st : List AV} {m : MM} {n : Nat} : go 148 1 ls (.inr (.inr (8, some n)) :: st) m = go 148 4 ls (.inl (mI m 8 n 41) :: st) m := e_1 d148_1 (Or.inl rfl) (by rw [xi, pA, show lk fdL (mt 148).2.2.1 186 = some (8, 41) by decide +kernel]; rfl)
theorem d148_4 : decode (mt 148).2.1 4 = .ok (.ifCond .eq 23, 3) := by decide +kernel
theorem s148_4 {ls : LV} {st : List AV} {m : MM} {a : Int32} : go 148 4 ls (.inl a :: st) m = if a = 0 then go 148 27 ls st m else go 148 7 ls st m := e_if (t := 27) (b := hc .eq a 0) d148_4 (Or.inl rfl) (by simp only [xi, pI, jm_some (t := 27) (show ((4 : Nat) : Int) + 23 = ((27 : Nat) : Int) by decide), Option.bind_some]) (by simp [hc])
theorem d148_7 : decode (mt 148).2.1 7 = .ok (.aload_n 0, 1) := by decide +kernel
theorem s148_7 {a1 : Option AV} {st : List AV} {m : MM} {x : Nat × Option Nat} : go 148 7 [some (.inr (.inr x)), a1] st m = go 148 8 [some (.inr (.inr x)), a1] (.inr (.inr x) :: st) m := e_1 d148_7 (Or.inl rfl) rfl
theorem d148_8 : decode (mt 148).2.1 8 = .ok (.getfield 88, 3) := by decide +kernel
theorem s148_8 {ls : LV} {st : List AV} {m : MM} {n : Nat} : go 148 8 ls (.inr (.inr (8, some n)) :: st) m = go 148 11 ls (.inr (.inr (43, mR m 8 n 31)) :: st) m := e_1 d148_8 (Or.inl rfl) (by rw [xi, pA, show lk fdL (mt 148).2.2.1 88 = some (8, 31) by decide +kernel]; rfl)
theorem d148_11 : decode (mt 148).2.1 11 = .ok (.iload_n 1, 1) := by decide +kernel
theorem s148_11 {a0 : Option AV} {st : List AV} {m : MM} {x : Int32} : go 148 11 [a0, some (.inl x)] st m = go 148 12 [a0, some (.inl x)] (.inl x :: st) m := e_1 d148_11 (Or.inl rfl) rfl
theorem d148_12 : decode (mt 148).2.1 12 = .ok (.iaload, 1) := by decide +kernel
theorem s148_12 {ls : LV} {st : List AV} {m : MM} {n : Nat} {i : Int32} : go 148 12 ls (.inl i :: .inr (.inr (43, some n)) :: st) m = ixk (ix i (mN m 43 n)) (fun j => go 148 13 ls (.inl (mI m 43 n j) :: st) m) := e_ald d148_12 (fun j hj => by simp only [xi, pI, pA, hj, Option.bind_some]; rfl) (fun hj => by simp only [xi, pI, pA, hj, Option.bind_none])
theorem d148_13 : decode (mt 148).2.1 13 = .ok (.iconst 3, 1) := by decide +kernel
theorem s148_13 {ls : LV} {st : List AV} {m : MM} : go 148 13 ls st m = go 148 14 ls (.inl 3 :: st) m := e_1 d148_13 (Or.inl rfl) rfl
theorem d148_14 : decode (mt 148).2.1 14 = .ok (.if_icmp .eq 17, 3) := by decide +kernel
theorem s148_14 {ls : LV} {st : List AV} {m : MM} {a b : Int32} : go 148 14 ls (.inl b :: .inl a :: st) m = if a = b then go 148 31 ls st m else go 148 17 ls st m := e_if (t := 31) (b := hc .eq a b) d148_14 (Or.inl rfl) (by simp only [xi, pI, jm_some (t := 31) (show ((14 : Nat) : Int) + 17 = ((31 : Nat) : Int) by decide), Option.bind_some]) (by simp [hc])
theorem d148_17 : decode (mt 148).2.1 17 = .ok (.aload_n 0, 1) := by decide +kernel
theorem s148_17 {a1 : Option AV} {st : List AV} {m : MM} {x : Nat × Option Nat} : go 148 17 [some (.inr (.inr x)), a1] st m = go 148 18 [some (.inr (.inr x)), a1] (.inr (.inr x) :: st) m := e_1 d148_17 (Or.inl rfl) rfl
theorem d148_18 : decode (mt 148).2.1 18 = .ok (.getfield 88, 3) := by decide +kernel
theorem s148_18 {ls : LV} {st : List AV} {m : MM} {n : Nat} : go 148 18 ls (.inr (.inr (8, some n)) :: st) m = go 148 21 ls (.inr (.inr (43, mR m 8 n 31)) :: st) m := e_1 d148_18 (Or.inl rfl) (by rw [xi, pA, show lk fdL (mt 148).2.2.1 88 = some (8, 31) by decide +kernel]; rfl)
theorem d148_21 : decode (mt 148).2.1 21 = .ok (.iload_n 1, 1) := by decide +kernel
theorem s148_21 {a0 : Option AV} {st : List AV} {m : MM} {x : Int32} : go 148 21 [a0, some (.inl x)] st m = go 148 22 [a0, some (.inl x)] (.inl x :: st) m := e_1 d148_21 (Or.inl rfl) rfl
theorem d148_22 : decode (mt 148).2.1 22 = .ok (.iaload, 1) := by decide +kernel
theorem s148_22 {ls : LV} {st : List AV} {m : MM} {n : Nat} {i : Int32} : go 148 22 ls (.inl i :: .inr (.inr (43, some n)) :: st) m = ixk (ix i (mN m 43 n)) (fun j => go 148 23 ls (.inl (mI m 43 n j) :: st) m) := e_ald d148_22 (fun j hj => by simp only [xi, pI, pA, hj, Option.bind_some]; rfl) (fun hj => by simp only [xi, pI, pA, hj, Option.bind_none])
theorem d148_23 : decode (mt 148).2.1 23 = .ok (.iconst 4, 1) := by decide +kernel
theorem s148_23 {ls : LV} {st : List AV} {m : MM} : go 148 23 ls st m = go 148 24 ls (.inl 4 :: st) m := e_1 d148_23 (Or.inl rfl) rfl
theorem d148_24 : decode (mt 148).2.1 24 = .ok (.if_icmp .eq 7, 3) := by decide +kernel
theorem s148_24 {ls : LV} {st : List AV} {m : MM} {a b : Int32} : go 148 24 ls (.inl b :: .inl a :: st) m = if a = b then go 148 31 ls st m else go 148 27 ls st m := e_if (t := 31) (b := hc .eq a b) d148_24 (Or.inl rfl) (by simp only [xi, pI, jm_some (t := 31) (show ((24 : Nat) : Int) + 7 = ((31 : Nat) : Int) by decide), Option.bind_some]) (by simp [hc])
theorem d148_27 : decode (mt 148).2.1 27 = .ok (.iconst 1, 1) := by decide +kernel
theorem s148_27 {ls : LV} {st : List AV} {m : MM} : go 148 27 ls st m = go 148 28 ls (.inl 1 :: st) m := e_1 d148_27 (Or.inl rfl) rfl
theorem d148_28 : decode (mt 148).2.1 28 = .ok (.goto 4, 3) := by decide +kernel
theorem s148_28 {ls : LV} {st : List AV} {m : MM} : go 148 28 ls st m = go 148 32 ls st m := e_1 d148_28 (Or.inl rfl) (by rw [xi, jm_some (t := 32) (by decide)]; rfl)
theorem d148_31 : decode (mt 148).2.1 31 = .ok (.iconst 0, 1) := by decide +kernel
theorem s148_31 {ls : LV} {st : List AV} {m : MM} : go 148 31 ls st m = go 148 32 ls (.inl 0 :: st) m := e_1 d148_31 (Or.inl rfl) rfl
theorem d148_32 : decode (mt 148).2.1 32 = .ok (.ireturn, 1) := by decide +kernel
theorem s148_32b0 {ls : LV} {m : MM} : go 148 32 ls [.inl 0] m = some (some (.inl 0), m) := e_bool d148_32 (by decide +kernel) (by decide)
theorem s148_32b1 {ls : LV} {m : MM} : go 148 32 ls [.inl 1] m = some (some (.inl 1), m) := e_bool d148_32 (by decide +kernel) (by decide)
/-! X7_come: 149 -/
theorem d149_0 : decode (mt 149).2.1 0 = .ok (.aload_n 0, 1) := by decide +kernel
theorem s149_0 {a1 a2 a3 a4 a5 a6 a7 a8 : Option AV} {st : List AV} {m : MM} {x : Nat × Option Nat} : go 149 0 [some (.inr (.inr x)), a1, a2, a3, a4, a5, a6, a7, a8] st m = go 149 1 [some (.inr (.inr x)), a1, a2, a3, a4, a5, a6, a7, a8] (.inr (.inr x) :: st) m := e_1 d149_0 (Or.inl rfl) rfl
theorem d149_1 : decode (mt 149).2.1 1 = .ok (.getfield 88, 3) := by decide +kernel
theorem s149_1 {ls : LV} {st : List AV} {m : MM} {n : Nat} : go 149 1 ls (.inr (.inr (8, some n)) :: st) m = go 149 4 ls (.inr (.inr (43, mR m 8 n 31)) :: st) m := e_1 d149_1 (Or.inl rfl) (by rw [xi, pA, show lk fdL (mt 149).2.2.1 88 = some (8, 31) by decide +kernel]; rfl)
theorem d149_4 : decode (mt 149).2.1 4 = .ok (.iload_n 1, 1) := by decide +kernel
theorem s149_4 {a0 a2 a3 a4 a5 a6 a7 a8 : Option AV} {st : List AV} {m : MM} {x : Int32} : go 149 4 [a0, some (.inl x), a2, a3, a4, a5, a6, a7, a8] st m = go 149 5 [a0, some (.inl x), a2, a3, a4, a5, a6, a7, a8] (.inl x :: st) m := e_1 d149_4 (Or.inl rfl) rfl
theorem d149_5 : decode (mt 149).2.1 5 = .ok (.iaload, 1) := by decide +kernel
theorem s149_5 {ls : LV} {st : List AV} {m : MM} {n : Nat} {i : Int32} : go 149 5 ls (.inl i :: .inr (.inr (43, some n)) :: st) m = ixk (ix i (mN m 43 n)) (fun j => go 149 6 ls (.inl (mI m 43 n j) :: st) m) := e_ald d149_5 (fun j hj => by simp only [xi, pI, pA, hj, Option.bind_some]; rfl) (fun hj => by simp only [xi, pI, pA, hj, Option.bind_none])
theorem d149_6 : decode (mt 149).2.1 6 = .ok (.istore_n 2, 1) := by decide +kernel
theorem s149_6i {a0 a2 a3 a4 a5 a6 a7 a8 : Option AV} {z : Int32} {st : List AV} {m : MM} {x : Int32} : go 149 6 [a0, some (.inl z), a2, a3, a4, a5, a6, a7, a8] (.inl x :: st) m = go 149 7 [a0, some (.inl z), some (.inl x), a3, a4, a5, a6, a7, a8] st m := e_1 d149_6 (Or.inl rfl) rfl
theorem s149_6r {a0 a2 a3 a4 a5 a6 a7 a8 : Option AV} {z : Nat × Option Nat} {st : List AV} {m : MM} {x : Int32} : go 149 6 [a0, some (.inr (.inr z)), a2, a3, a4, a5, a6, a7, a8] (.inl x :: st) m = go 149 7 [a0, some (.inr (.inr z)), some (.inl x), a3, a4, a5, a6, a7, a8] st m := e_1 d149_6 (Or.inl rfl) rfl
theorem s149_6n {a0 a2 a3 a4 a5 a6 a7 a8 : Option AV} {st : List AV} {m : MM} {x : Int32} : go 149 6 [a0, none, a2, a3, a4, a5, a6, a7, a8] (.inl x :: st) m = go 149 7 [a0, none, some (.inl x), a3, a4, a5, a6, a7, a8] st m := e_1 d149_6 (Or.inl rfl) rfl
theorem d149_7 : decode (mt 149).2.1 7 = .ok (.aload_n 0, 1) := by decide +kernel
theorem s149_7 {a1 a2 a3 a4 a5 a6 a7 a8 : Option AV} {st : List AV} {m : MM} {x : Nat × Option Nat} : go 149 7 [some (.inr (.inr x)), a1, a2, a3, a4, a5, a6, a7, a8] st m = go 149 8 [some (.inr (.inr x)), a1, a2, a3, a4, a5, a6, a7, a8] (.inr (.inr x) :: st) m := e_1 d149_7 (Or.inl rfl) rfl
theorem d149_8 : decode (mt 149).2.1 8 = .ok (.getfield 91, 3) := by decide +kernel
theorem s149_8 {ls : LV} {st : List AV} {m : MM} {n : Nat} : go 149 8 ls (.inr (.inr (8, some n)) :: st) m = go 149 11 ls (.inr (.inr (44, mR m 8 n 32)) :: st) m := e_1 d149_8 (Or.inl rfl) (by rw [xi, pA, show lk fdL (mt 149).2.2.1 91 = some (8, 32) by decide +kernel]; rfl)
theorem d149_11 : decode (mt 149).2.1 11 = .ok (.iload_n 1, 1) := by decide +kernel
theorem s149_11 {a0 a2 a3 a4 a5 a6 a7 a8 : Option AV} {st : List AV} {m : MM} {x : Int32} : go 149 11 [a0, some (.inl x), a2, a3, a4, a5, a6, a7, a8] st m = go 149 12 [a0, some (.inl x), a2, a3, a4, a5, a6, a7, a8] (.inl x :: st) m := e_1 d149_11 (Or.inl rfl) rfl
theorem d149_12 : decode (mt 149).2.1 12 = .ok (.iaload, 1) := by decide +kernel
theorem s149_12 {ls : LV} {st : List AV} {m : MM} {n : Nat} {i : Int32} : go 149 12 ls (.inl i :: .inr (.inr (44, some n)) :: st) m = ixk (ix i (mN m 44 n)) (fun j => go 149 13 ls (.inl (mI m 44 n j) :: st) m) := e_ald d149_12 (fun j hj => by simp only [xi, pI, pA, hj, Option.bind_some]; rfl) (fun hj => by simp only [xi, pI, pA, hj, Option.bind_none])
theorem d149_13 : decode (mt 149).2.1 13 = .ok (.istore_n 3, 1) := by decide +kernel
theorem s149_13i {a0 a1 a3 a4 a5 a6 a7 a8 : Option AV} {z : Int32} {st : List AV} {m : MM} {x : Int32} : go 149 13 [a0, a1, some (.inl z), a3, a4, a5, a6, a7, a8] (.inl x :: st) m = go 149 14 [a0, a1, some (.inl z), some (.inl x), a4, a5, a6, a7, a8] st m := e_1 d149_13 (Or.inl rfl) rfl
theorem s149_13r {a0 a1 a3 a4 a5 a6 a7 a8 : Option AV} {z : Nat × Option Nat} {st : List AV} {m : MM} {x : Int32} : go 149 13 [a0, a1, some (.inr (.inr z)), a3, a4, a5, a6, a7, a8] (.inl x :: st) m = go 149 14 [a0, a1, some (.inr (.inr z)), some (.inl x), a4, a5, a6, a7, a8] st m := e_1 d149_13 (Or.inl rfl) rfl
theorem s149_13n {a0 a1 a3 a4 a5 a6 a7 a8 : Option AV} {st : List AV} {m : MM} {x : Int32} : go 149 13 [a0, a1, none, a3, a4, a5, a6, a7, a8] (.inl x :: st) m = go 149 14 [a0, a1, none, some (.inl x), a4, a5, a6, a7, a8] st m := e_1 d149_13 (Or.inl rfl) rfl
theorem d149_14 : decode (mt 149).2.1 14 = .ok (.aload_n 0, 1) := by decide +kernel
theorem s149_14 {a1 a2 a3 a4 a5 a6 a7 a8 : Option AV} {st : List AV} {m : MM} {x : Nat × Option Nat} : go 149 14 [some (.inr (.inr x)), a1, a2, a3, a4, a5, a6, a7, a8] st m = go 149 15 [some (.inr (.inr x)), a1, a2, a3, a4, a5, a6, a7, a8] (.inr (.inr x) :: st) m := e_1 d149_14 (Or.inl rfl) rfl
theorem d149_15 : decode (mt 149).2.1 15 = .ok (.getfield 94, 3) := by decide +kernel
theorem s149_15 {ls : LV} {st : List AV} {m : MM} {n : Nat} : go 149 15 ls (.inr (.inr (8, some n)) :: st) m = go 149 18 ls (.inr (.inr (45, mR m 8 n 33)) :: st) m := e_1 d149_15 (Or.inl rfl) (by rw [xi, pA, show lk fdL (mt 149).2.2.1 94 = some (8, 33) by decide +kernel]; rfl)
theorem d149_18 : decode (mt 149).2.1 18 = .ok (.iload_n 1, 1) := by decide +kernel
theorem s149_18 {a0 a2 a3 a4 a5 a6 a7 a8 : Option AV} {st : List AV} {m : MM} {x : Int32} : go 149 18 [a0, some (.inl x), a2, a3, a4, a5, a6, a7, a8] st m = go 149 19 [a0, some (.inl x), a2, a3, a4, a5, a6, a7, a8] (.inl x :: st) m := e_1 d149_18 (Or.inl rfl) rfl
theorem d149_19 : decode (mt 149).2.1 19 = .ok (.iaload, 1) := by decide +kernel
theorem s149_19 {ls : LV} {st : List AV} {m : MM} {n : Nat} {i : Int32} : go 149 19 ls (.inl i :: .inr (.inr (45, some n)) :: st) m = ixk (ix i (mN m 45 n)) (fun j => go 149 20 ls (.inl (mI m 45 n j) :: st) m) := e_ald d149_19 (fun j hj => by simp only [xi, pI, pA, hj, Option.bind_some]; rfl) (fun hj => by simp only [xi, pI, pA, hj, Option.bind_none])
theorem d149_20 : decode (mt 149).2.1 20 = .ok (.istore 4, 2) := by decide +kernel
theorem s149_20i {a0 a1 a2 a4 a5 a6 a7 a8 : Option AV} {z : Int32} {st : List AV} {m : MM} {x : Int32} : go 149 20 [a0, a1, a2, some (.inl z), a4, a5, a6, a7, a8] (.inl x :: st) m = go 149 22 [a0, a1, a2, some (.inl z), some (.inl x), a5, a6, a7, a8] st m := e_1 d149_20 (Or.inl rfl) rfl
theorem s149_20r {a0 a1 a2 a4 a5 a6 a7 a8 : Option AV} {z : Nat × Option Nat} {st : List AV} {m : MM} {x : Int32} : go 149 20 [a0, a1, a2, some (.inr (.inr z)), a4, a5, a6, a7, a8] (.inl x :: st) m = go 149 22 [a0, a1, a2, some (.inr (.inr z)), some (.inl x), a5, a6, a7, a8] st m := e_1 d149_20 (Or.inl rfl) rfl
theorem s149_20n {a0 a1 a2 a4 a5 a6 a7 a8 : Option AV} {st : List AV} {m : MM} {x : Int32} : go 149 20 [a0, a1, a2, none, a4, a5, a6, a7, a8] (.inl x :: st) m = go 149 22 [a0, a1, a2, none, some (.inl x), a5, a6, a7, a8] st m := e_1 d149_20 (Or.inl rfl) rfl
theorem d149_22 : decode (mt 149).2.1 22 = .ok (.aload_n 0, 1) := by decide +kernel
theorem s149_22 {a1 a2 a3 a4 a5 a6 a7 a8 : Option AV} {st : List AV} {m : MM} {x : Nat × Option Nat} : go 149 22 [some (.inr (.inr x)), a1, a2, a3, a4, a5, a6, a7, a8] st m = go 149 23 [some (.inr (.inr x)), a1, a2, a3, a4, a5, a6, a7, a8] (.inr (.inr x) :: st) m := e_1 d149_22 (Or.inl rfl) rfl
theorem d149_23 : decode (mt 149).2.1 23 = .ok (.getfield 97, 3) := by decide +kernel
theorem s149_23 {ls : LV} {st : List AV} {m : MM} {n : Nat} : go 149 23 ls (.inr (.inr (8, some n)) :: st) m = go 149 26 ls (.inr (.inr (46, mR m 8 n 34)) :: st) m := e_1 d149_23 (Or.inl rfl) (by rw [xi, pA, show lk fdL (mt 149).2.2.1 97 = some (8, 34) by decide +kernel]; rfl)
theorem d149_26 : decode (mt 149).2.1 26 = .ok (.iload_n 1, 1) := by decide +kernel
theorem s149_26 {a0 a2 a3 a4 a5 a6 a7 a8 : Option AV} {st : List AV} {m : MM} {x : Int32} : go 149 26 [a0, some (.inl x), a2, a3, a4, a5, a6, a7, a8] st m = go 149 27 [a0, some (.inl x), a2, a3, a4, a5, a6, a7, a8] (.inl x :: st) m := e_1 d149_26 (Or.inl rfl) rfl
theorem d149_27 : decode (mt 149).2.1 27 = .ok (.iaload, 1) := by decide +kernel
theorem s149_27 {ls : LV} {st : List AV} {m : MM} {n : Nat} {i : Int32} : go 149 27 ls (.inl i :: .inr (.inr (46, some n)) :: st) m = ixk (ix i (mN m 46 n)) (fun j => go 149 28 ls (.inl (mI m 46 n j) :: st) m) := e_ald d149_27 (fun j hj => by simp only [xi, pI, pA, hj, Option.bind_some]; rfl) (fun hj => by simp only [xi, pI, pA, hj, Option.bind_none])
theorem d149_28 : decode (mt 149).2.1 28 = .ok (.istore 5, 2) := by decide +kernel
theorem s149_28i {a0 a1 a2 a3 a5 a6 a7 a8 : Option AV} {z : Int32} {st : List AV} {m : MM} {x : Int32} : go 149 28 [a0, a1, a2, a3, some (.inl z), a5, a6, a7, a8] (.inl x :: st) m = go 149 30 [a0, a1, a2, a3, some (.inl z), some (.inl x), a6, a7, a8] st m := e_1 d149_28 (Or.inl rfl) rfl
theorem s149_28r {a0 a1 a2 a3 a5 a6 a7 a8 : Option AV} {z : Nat × Option Nat} {st : List AV} {m : MM} {x : Int32} : go 149 28 [a0, a1, a2, a3, some (.inr (.inr z)), a5, a6, a7, a8] (.inl x :: st) m = go 149 30 [a0, a1, a2, a3, some (.inr (.inr z)), some (.inl x), a6, a7, a8] st m := e_1 d149_28 (Or.inl rfl) rfl
theorem s149_28n {a0 a1 a2 a3 a5 a6 a7 a8 : Option AV} {st : List AV} {m : MM} {x : Int32} : go 149 28 [a0, a1, a2, a3, none, a5, a6, a7, a8] (.inl x :: st) m = go 149 30 [a0, a1, a2, a3, none, some (.inl x), a6, a7, a8] st m := e_1 d149_28 (Or.inl rfl) rfl
theorem d149_30 : decode (mt 149).2.1 30 = .ok (.aload_n 0, 1) := by decide +kernel
theorem s149_30 {a1 a2 a3 a4 a5 a6 a7 a8 : Option AV} {st : List AV} {m : MM} {x : Nat × Option Nat} : go 149 30 [some (.inr (.inr x)), a1, a2, a3, a4, a5, a6, a7, a8] st m = go 149 31 [some (.inr (.inr x)), a1, a2, a3, a4, a5, a6, a7, a8] (.inr (.inr x) :: st) m := e_1 d149_30 (Or.inl rfl) rfl
theorem d149_31 : decode (mt 149).2.1 31 = .ok (.getfield 100, 3) := by decide +kernel
theorem s149_31 {ls : LV} {st : List AV} {m : MM} {n : Nat} : go 149 31 ls (.inr (.inr (8, some n)) :: st) m = go 149 34 ls (.inr (.inr (47, mR m 8 n 35)) :: st) m := e_1 d149_31 (Or.inl rfl) (by rw [xi, pA, show lk fdL (mt 149).2.2.1 100 = some (8, 35) by decide +kernel]; rfl)
theorem d149_34 : decode (mt 149).2.1 34 = .ok (.iload_n 1, 1) := by decide +kernel
theorem s149_34 {a0 a2 a3 a4 a5 a6 a7 a8 : Option AV} {st : List AV} {m : MM} {x : Int32} : go 149 34 [a0, some (.inl x), a2, a3, a4, a5, a6, a7, a8] st m = go 149 35 [a0, some (.inl x), a2, a3, a4, a5, a6, a7, a8] (.inl x :: st) m := e_1 d149_34 (Or.inl rfl) rfl
theorem d149_35 : decode (mt 149).2.1 35 = .ok (.iaload, 1) := by decide +kernel
theorem s149_35 {ls : LV} {st : List AV} {m : MM} {n : Nat} {i : Int32} : go 149 35 ls (.inl i :: .inr (.inr (47, some n)) :: st) m = ixk (ix i (mN m 47 n)) (fun j => go 149 36 ls (.inl (mI m 47 n j) :: st) m) := e_ald d149_35 (fun j hj => by simp only [xi, pI, pA, hj, Option.bind_some]; rfl) (fun hj => by simp only [xi, pI, pA, hj, Option.bind_none])
theorem d149_36 : decode (mt 149).2.1 36 = .ok (.istore 6, 2) := by decide +kernel
theorem s149_36i {a0 a1 a2 a3 a4 a6 a7 a8 : Option AV} {z : Int32} {st : List AV} {m : MM} {x : Int32} : go 149 36 [a0, a1, a2, a3, a4, some (.inl z), a6, a7, a8] (.inl x :: st) m = go 149 38 [a0, a1, a2, a3, a4, some (.inl z), some (.inl x), a7, a8] st m := e_1 d149_36 (Or.inl rfl) rfl
theorem s149_36r {a0 a1 a2 a3 a4 a6 a7 a8 : Option AV} {z : Nat × Option Nat} {st : List AV} {m : MM} {x : Int32} : go 149 36 [a0, a1, a2, a3, a4, some (.inr (.inr z)), a6, a7, a8] (.inl x :: st) m = go 149 38 [a0, a1, a2, a3, a4, some (.inr (.inr z)), some (.inl x), a7, a8] st m := e_1 d149_36 (Or.inl rfl) rfl
theorem s149_36n {a0 a1 a2 a3 a4 a6 a7 a8 : Option AV} {st : List AV} {m : MM} {x : Int32} : go 149 36 [a0, a1, a2, a3, a4, none, a6, a7, a8] (.inl x :: st) m = go 149 38 [a0, a1, a2, a3, a4, none, some (.inl x), a7, a8] st m := e_1 d149_36 (Or.inl rfl) rfl
theorem d149_38 : decode (mt 149).2.1 38 = .ok (.aload_n 0, 1) := by decide +kernel
theorem s149_38 {a1 a2 a3 a4 a5 a6 a7 a8 : Option AV} {st : List AV} {m : MM} {x : Nat × Option Nat} : go 149 38 [some (.inr (.inr x)), a1, a2, a3, a4, a5, a6, a7, a8] st m = go 149 39 [some (.inr (.inr x)), a1, a2, a3, a4, a5, a6, a7, a8] (.inr (.inr x) :: st) m := e_1 d149_38 (Or.inl rfl) rfl
theorem d149_39 : decode (mt 149).2.1 39 = .ok (.getfield 103, 3) := by decide +kernel
theorem s149_39 {ls : LV} {st : List AV} {m : MM} {n : Nat} : go 149 39 ls (.inr (.inr (8, some n)) :: st) m = go 149 42 ls (.inr (.inr (48, mR m 8 n 36)) :: st) m := e_1 d149_39 (Or.inl rfl) (by rw [xi, pA, show lk fdL (mt 149).2.2.1 103 = some (8, 36) by decide +kernel]; rfl)
theorem d149_42 : decode (mt 149).2.1 42 = .ok (.iload_n 1, 1) := by decide +kernel
theorem s149_42 {a0 a2 a3 a4 a5 a6 a7 a8 : Option AV} {st : List AV} {m : MM} {x : Int32} : go 149 42 [a0, some (.inl x), a2, a3, a4, a5, a6, a7, a8] st m = go 149 43 [a0, some (.inl x), a2, a3, a4, a5, a6, a7, a8] (.inl x :: st) m := e_1 d149_42 (Or.inl rfl) rfl
theorem d149_43 : decode (mt 149).2.1 43 = .ok (.iaload, 1) := by decide +kernel
theorem s149_43 {ls : LV} {st : List AV} {m : MM} {n : Nat} {i : Int32} : go 149 43 ls (.inl i :: .inr (.inr (48, some n)) :: st) m = ixk (ix i (mN m 48 n)) (fun j => go 149 44 ls (.inl (mI m 48 n j) :: st) m) := e_ald d149_43 (fun j hj => by simp only [xi, pI, pA, hj, Option.bind_some]; rfl) (fun hj => by simp only [xi, pI, pA, hj, Option.bind_none])
theorem d149_44 : decode (mt 149).2.1 44 = .ok (.istore 7, 2) := by decide +kernel
theorem s149_44i {a0 a1 a2 a3 a4 a5 a7 a8 : Option AV} {z : Int32} {st : List AV} {m : MM} {x : Int32} : go 149 44 [a0, a1, a2, a3, a4, a5, some (.inl z), a7, a8] (.inl x :: st) m = go 149 46 [a0, a1, a2, a3, a4, a5, some (.inl z), some (.inl x), a8] st m := e_1 d149_44 (Or.inl rfl) rfl
theorem s149_44r {a0 a1 a2 a3 a4 a5 a7 a8 : Option AV} {z : Nat × Option Nat} {st : List AV} {m : MM} {x : Int32} : go 149 44 [a0, a1, a2, a3, a4, a5, some (.inr (.inr z)), a7, a8] (.inl x :: st) m = go 149 46 [a0, a1, a2, a3, a4, a5, some (.inr (.inr z)), some (.inl x), a8] st m := e_1 d149_44 (Or.inl rfl) rfl
theorem s149_44n {a0 a1 a2 a3 a4 a5 a7 a8 : Option AV} {st : List AV} {m : MM} {x : Int32} : go 149 44 [a0, a1, a2, a3, a4, a5, none, a7, a8] (.inl x :: st) m = go 149 46 [a0, a1, a2, a3, a4, a5, none, some (.inl x), a8] st m := e_1 d149_44 (Or.inl rfl) rfl
theorem d149_46 : decode (mt 149).2.1 46 = .ok (.aload_n 0, 1) := by decide +kernel
theorem s149_46 {a1 a2 a3 a4 a5 a6 a7 a8 : Option AV} {st : List AV} {m : MM} {x : Nat × Option Nat} : go 149 46 [some (.inr (.inr x)), a1, a2, a3, a4, a5, a6, a7, a8] st m = go 149 47 [some (.inr (.inr x)), a1, a2, a3, a4, a5, a6, a7, a8] (.inr (.inr x) :: st) m := e_1 d149_46 (Or.inl rfl) rfl
theorem d149_47 : decode (mt 149).2.1 47 = .ok (.getfield 106, 3) := by decide +kernel
theorem s149_47 {ls : LV} {st : List AV} {m : MM} {n : Nat} : go 149 47 ls (.inr (.inr (8, some n)) :: st) m = go 149 50 ls (.inr (.inr (49, mR m 8 n 37)) :: st) m := e_1 d149_47 (Or.inl rfl) (by rw [xi, pA, show lk fdL (mt 149).2.2.1 106 = some (8, 37) by decide +kernel]; rfl)
theorem d149_50 : decode (mt 149).2.1 50 = .ok (.iload_n 1, 1) := by decide +kernel
theorem s149_50 {a0 a2 a3 a4 a5 a6 a7 a8 : Option AV} {st : List AV} {m : MM} {x : Int32} : go 149 50 [a0, some (.inl x), a2, a3, a4, a5, a6, a7, a8] st m = go 149 51 [a0, some (.inl x), a2, a3, a4, a5, a6, a7, a8] (.inl x :: st) m := e_1 d149_50 (Or.inl rfl) rfl
theorem d149_51 : decode (mt 149).2.1 51 = .ok (.iaload, 1) := by decide +kernel
theorem s149_51 {ls : LV} {st : List AV} {m : MM} {n : Nat} {i : Int32} : go 149 51 ls (.inl i :: .inr (.inr (49, some n)) :: st) m = ixk (ix i (mN m 49 n)) (fun j => go 149 52 ls (.inl (mI m 49 n j) :: st) m) := e_ald d149_51 (fun j hj => by simp only [xi, pI, pA, hj, Option.bind_some]; rfl) (fun hj => by simp only [xi, pI, pA, hj, Option.bind_none])
theorem d149_52 : decode (mt 149).2.1 52 = .ok (.istore 8, 2) := by decide +kernel
theorem s149_52i {a0 a1 a2 a3 a4 a5 a6 a8 : Option AV} {z : Int32} {st : List AV} {m : MM} {x : Int32} : go 149 52 [a0, a1, a2, a3, a4, a5, a6, some (.inl z), a8] (.inl x :: st) m = go 149 54 [a0, a1, a2, a3, a4, a5, a6, some (.inl z), some (.inl x)] st m := e_1 d149_52 (Or.inl rfl) rfl
theorem s149_52r {a0 a1 a2 a3 a4 a5 a6 a8 : Option AV} {z : Nat × Option Nat} {st : List AV} {m : MM} {x : Int32} : go 149 52 [a0, a1, a2, a3, a4, a5, a6, some (.inr (.inr z)), a8] (.inl x :: st) m = go 149 54 [a0, a1, a2, a3, a4, a5, a6, some (.inr (.inr z)), some (.inl x)] st m := e_1 d149_52 (Or.inl rfl) rfl
theorem s149_52n {a0 a1 a2 a3 a4 a5 a6 a8 : Option AV} {st : List AV} {m : MM} {x : Int32} : go 149 52 [a0, a1, a2, a3, a4, a5, a6, none, a8] (.inl x :: st) m = go 149 54 [a0, a1, a2, a3, a4, a5, a6, none, some (.inl x)] st m := e_1 d149_52 (Or.inl rfl) rfl
theorem d149_54 : decode (mt 149).2.1 54 = .ok (.aload_n 0, 1) := by decide +kernel
theorem s149_54 {a1 a2 a3 a4 a5 a6 a7 a8 : Option AV} {st : List AV} {m : MM} {x : Nat × Option Nat} : go 149 54 [some (.inr (.inr x)), a1, a2, a3, a4, a5, a6, a7, a8] st m = go 149 55 [some (.inr (.inr x)), a1, a2, a3, a4, a5, a6, a7, a8] (.inr (.inr x) :: st) m := e_1 d149_54 (Or.inl rfl) rfl
theorem d149_55 : decode (mt 149).2.1 55 = .ok (.iload_n 1, 1) := by decide +kernel
theorem s149_55 {a0 a2 a3 a4 a5 a6 a7 a8 : Option AV} {st : List AV} {m : MM} {x : Int32} : go 149 55 [a0, some (.inl x), a2, a3, a4, a5, a6, a7, a8] st m = go 149 56 [a0, some (.inl x), a2, a3, a4, a5, a6, a7, a8] (.inl x :: st) m := e_1 d149_55 (Or.inl rfl) rfl
theorem d149_56 : decode (mt 149).2.1 56 = .ok (.invokevirtual 234, 3) := by decide +kernel
theorem s149_56 {ls : LV} {m : MM} {x0 : Int32} {n : Nat} : go 149 56 ls [.inl x0, .inr (.inr (8, some n))] m = bd (go 120 0 [some (.inr (.inr (8, some n))), some (.inl x0), none] [] m) (fun v m2 => go 149 59 ls (v.toList ++ []) m2) := e_virt (y1 := 120) (na := 1) (as := [.inl x0]) (rest := []) d149_56 (by decide +kernel) rfl (by decide +kernel) (show (ent [.inr (.inr (8, some n)), .inl x0]).length ≤ (mt 120).2.2.2.1 from Nat.le_of_ble_eq_true rfl) (cats_le (Nat.le_of_ble_eq_true rfl)) (by decide +kernel)
theorem d149_59 : decode (mt 149).2.1 59 = .ok (.aload_n 0, 1) := by decide +kernel
theorem s149_59 {a1 a2 a3 a4 a5 a6 a7 a8 : Option AV} {st : List AV} {m : MM} {x : Nat × Option Nat} : go 149 59 [some (.inr (.inr x)), a1, a2, a3, a4, a5, a6, a7, a8] st m = go 149 60 [some (.inr (.inr x)), a1, a2, a3, a4, a5, a6, a7, a8] (.inr (.inr x) :: st) m := e_1 d149_59 (Or.inl rfl) rfl
theorem d149_60 : decode (mt 149).2.1 60 = .ok (.getfield 23, 3) := by decide +kernel
theorem s149_60 {ls : LV} {st : List AV} {m : MM} {n : Nat} : go 149 60 ls (.inr (.inr (8, some n)) :: st) m = go 149 63 ls (.inr (.inr (22, mR m 8 n 5)) :: st) m := e_1 d149_60 (Or.inl rfl) (by rw [xi, pA, show lk fdL (mt 149).2.2.1 23 = some (8, 5) by decide +kernel]; rfl)
theorem d149_63 : decode (mt 149).2.1 63 = .ok (.iload_n 3, 1) := by decide +kernel
theorem s149_63 {a0 a1 a2 a4 a5 a6 a7 a8 : Option AV} {st : List AV} {m : MM} {x : Int32} : go 149 63 [a0, a1, a2, some (.inl x), a4, a5, a6, a7, a8] st m = go 149 64 [a0, a1, a2, some (.inl x), a4, a5, a6, a7, a8] (.inl x :: st) m := e_1 d149_63 (Or.inl rfl) rfl
theorem d149_64 : decode (mt 149).2.1 64 = .ok (.dup2, 1) := by decide +kernel
theorem s149_64 {ls : LV} {st : List AV} {m : MM} {i : Int32} {x : Nat × Option Nat} : go 149 64 ls (.inl i :: .inr (.inr x) :: st) m = go 149 65 ls (.inl i :: .inr (.inr x) :: .inl i :: .inr (.inr x) :: st) m := e_1 d149_64 (Or.inl rfl) rfl
theorem d149_65 : decode (mt 149).2.1 65 = .ok (.iaload, 1) := by decide +kernel
theorem s149_65 {ls : LV} {st : List AV} {m : MM} {n : Nat} {i : Int32} : go 149 65 ls (.inl i :: .inr (.inr (22, some n)) :: st) m = ixk (ix i (mN m 22 n)) (fun j => go 149 66 ls (.inl (mI m 22 n j) :: st) m) := e_ald d149_65 (fun j hj => by simp only [xi, pI, pA, hj, Option.bind_some]; rfl) (fun hj => by simp only [xi, pI, pA, hj, Option.bind_none])
theorem d149_66 : decode (mt 149).2.1 66 = .ok (.iconst 1, 1) := by decide +kernel
theorem s149_66 {ls : LV} {st : List AV} {m : MM} : go 149 66 ls st m = go 149 67 ls (.inl 1 :: st) m := e_1 d149_66 (Or.inl rfl) rfl
theorem d149_67 : decode (mt 149).2.1 67 = .ok (.iadd, 1) := by decide +kernel
theorem s149_67 {ls : LV} {st : List AV} {m : MM} {a b : Int32} : go 149 67 ls (.inl b :: .inl a :: st) m = go 149 68 ls (.inl (a + b) :: st) m := e_1 d149_67 (Or.inl rfl) rfl
theorem d149_68 : decode (mt 149).2.1 68 = .ok (.iastore, 1) := by decide +kernel
theorem s149_68 {ls : LV} {st : List AV} {m : MM} {n : Nat} {i : Int32} {x : Int32} : go 149 68 ls (.inl x :: .inl i :: .inr (.inr (22, some n)) :: st) m = ixk (ix i (mN m 22 n)) (fun j => go 149 69 ls st (sI m 22 n j x)) := e_ald d149_68 (fun j hj => by simp only [xi, pI, pL, pR, pA, hj, Option.bind_some]; exact if_pos ⟨rfl, by decide⟩) (fun hj => by simp only [xi, pI, pL, pR, pA, hj, Option.bind_none])
theorem d149_69 : decode (mt 149).2.1 69 = .ok (.iload_n 2, 1) := by decide +kernel
theorem s149_69 {a0 a1 a3 a4 a5 a6 a7 a8 : Option AV} {st : List AV} {m : MM} {x : Int32} : go 149 69 [a0, a1, some (.inl x), a3, a4, a5, a6, a7, a8] st m = go 149 70 [a0, a1, some (.inl x), a3, a4, a5, a6, a7, a8] (.inl x :: st) m := e_1 d149_69 (Or.inl rfl) rfl
theorem d149_70 : decode (mt 149).2.1 70 = .ok (.tableswitch 149 5 10 #[38, 48, 92, 106, 120, 141], 38) := by decide +kernel
theorem s149_70_5 {ls : LV} {st : List AV} {m : MM} : go 149 70 ls (.inl 5 :: st) m = go 149 108 ls st m := e_1 d149_70 (Or.inr rfl) (by rw [xi]; rfl)
theorem s149_70_6 {ls : LV} {st : List AV} {m : MM} : go 149 70 ls (.inl 6 :: st) m = go 149 118 ls st m := e_1 d149_70 (Or.inr rfl) (by rw [xi]; rfl)
theorem s149_70_7 {ls : LV} {st : List AV} {m : MM} : go 149 70 ls (.inl 7 :: st) m = go 149 162 ls st m := e_1 d149_70 (Or.inr rfl) (by rw [xi]; rfl)
theorem s149_70_8 {ls : LV} {st : List AV} {m : MM} : go 149 70 ls (.inl 8 :: st) m = go 149 176 ls st m := e_1 d149_70 (Or.inr rfl) (by rw [xi]; rfl)
theorem s149_70_9 {ls : LV} {st : List AV} {m : MM} : go 149 70 ls (.inl 9 :: st) m = go 149 190 ls st m := e_1 d149_70 (Or.inr rfl) (by rw [xi]; rfl)
theorem s149_70_10 {ls : LV} {st : List AV} {m : MM} : go 149 70 ls (.inl 10 :: st) m = go 149 211 ls st m := e_1 d149_70 (Or.inr rfl) (by rw [xi]; rfl)
theorem s149_70_d {ls : LV} {st : List AV} {m : MM} {a : Int32} (h : a.toInt < 5 ∨ 10 < a.toInt) : go 149 70 ls (.inl a :: st) m = go 149 219 ls st m := e_1 d149_70 (Or.inr rfl) (by simp only [xi, pI, if_pos h, jm_some (t := 219) (show ((70 : Nat) : Int) + 149 = ((219 : Nat) : Int) by decide), Option.bind_some]; rw [if_pos (by omega)])
theorem d149_108 : decode (mt 149).2.1 108 = .ok (.aload_n 0, 1) := by decide +kernel
theorem s149_108 {a1 a2 a3 a4 a5 a6 a7 a8 : Option AV} {st : List AV} {m : MM} {x : Nat × Option Nat} : go 149 108 [some (.inr (.inr x)), a1, a2, a3, a4, a5, a6, a7, a8] st m = go 149 109 [some (.inr (.inr x)), a1, a2, a3, a4, a5, a6, a7, a8] (.inr (.inr x) :: st) m := e_1 d149_108 (Or.inl rfl) rfl
theorem d149_109 : decode (mt 149).2.1 109 = .ok (.iload_n 3, 1) := by decide +kernel
theorem s149_109 {a0 a1 a2 a4 a5 a6 a7 a8 : Option AV} {st : List AV} {m : MM} {x : Int32} : go 149 109 [a0, a1, a2, some (.inl x), a4, a5, a6, a7, a8] st m = go 149 110 [a0, a1, a2, some (.inl x), a4, a5, a6, a7, a8] (.inl x :: st) m := e_1 d149_109 (Or.inl rfl) rfl
theorem d149_110 : decode (mt 149).2.1 110 = .ok (.iload 7, 2) := by decide +kernel
theorem s149_110 {a0 a1 a2 a3 a4 a5 a6 a8 : Option AV} {st : List AV} {m : MM} {x : Int32} : go 149 110 [a0, a1, a2, a3, a4, a5, a6, some (.inl x), a8] st m = go 149 112 [a0, a1, a2, a3, a4, a5, a6, some (.inl x), a8] (.inl x :: st) m := e_1 d149_110 (Or.inl rfl) rfl
theorem d149_112 : decode (mt 149).2.1 112 = .ok (.invokevirtual 238, 3) := by decide +kernel
theorem s149_112 {ls : LV} {m : MM} {x0 : Int32} {x1 : Int32} {n : Nat} : go 149 112 ls [.inl x1, .inl x0, .inr (.inr (8, some n))] m = bd (go 128 0 [some (.inr (.inr (8, some n))), some (.inl x0), some (.inl x1), none, none, none, none] [] m) (fun v m2 => go 149 115 ls (v.toList ++ []) m2) := e_virt (y1 := 128) (na := 2) (as := [.inl x0, .inl x1]) (rest := []) d149_112 (by decide +kernel) rfl (by decide +kernel) (show (ent [.inr (.inr (8, some n)), .inl x0, .inl x1]).length ≤ (mt 128).2.2.2.1 from Nat.le_of_ble_eq_true rfl) (cats_le (Nat.le_of_ble_eq_true rfl)) (by decide +kernel)
theorem d149_115 : decode (mt 149).2.1 115 = .ok (.goto 111, 3) := by decide +kernel
theorem s149_115 {ls : LV} {st : List AV} {m : MM} : go 149 115 ls st m = go 149 226 ls st m := e_1 d149_115 (Or.inl rfl) (by rw [xi, jm_some (t := 226) (by decide)]; rfl)
theorem d149_118 : decode (mt 149).2.1 118 = .ok (.aload_n 0, 1) := by decide +kernel
theorem s149_118 {a1 a2 a3 a4 a5 a6 a7 a8 : Option AV} {st : List AV} {m : MM} {x : Nat × Option Nat} : go 149 118 [some (.inr (.inr x)), a1, a2, a3, a4, a5, a6, a7, a8] st m = go 149 119 [some (.inr (.inr x)), a1, a2, a3, a4, a5, a6, a7, a8] (.inr (.inr x) :: st) m := e_1 d149_118 (Or.inl rfl) rfl
theorem d149_119 : decode (mt 149).2.1 119 = .ok (.getfield 20, 3) := by decide +kernel
theorem s149_119 {ls : LV} {st : List AV} {m : MM} {n : Nat} : go 149 119 ls (.inr (.inr (8, some n)) :: st) m = go 149 122 ls (.inr (.inr (21, mR m 8 n 4)) :: st) m := e_1 d149_119 (Or.inl rfl) (by rw [xi, pA, show lk fdL (mt 149).2.2.1 20 = some (8, 4) by decide +kernel]; rfl)
theorem d149_122 : decode (mt 149).2.1 122 = .ok (.iload_n 3, 1) := by decide +kernel
theorem s149_122 {a0 a1 a2 a4 a5 a6 a7 a8 : Option AV} {st : List AV} {m : MM} {x : Int32} : go 149 122 [a0, a1, a2, some (.inl x), a4, a5, a6, a7, a8] st m = go 149 123 [a0, a1, a2, some (.inl x), a4, a5, a6, a7, a8] (.inl x :: st) m := e_1 d149_122 (Or.inl rfl) rfl
theorem d149_123 : decode (mt 149).2.1 123 = .ok (.iconst 2, 1) := by decide +kernel
theorem s149_123 {ls : LV} {st : List AV} {m : MM} : go 149 123 ls st m = go 149 124 ls (.inl 2 :: st) m := e_1 d149_123 (Or.inl rfl) rfl
theorem d149_124 : decode (mt 149).2.1 124 = .ok (.iastore, 1) := by decide +kernel
theorem s149_124 {ls : LV} {st : List AV} {m : MM} {n : Nat} {i : Int32} {x : Int32} : go 149 124 ls (.inl x :: .inl i :: .inr (.inr (21, some n)) :: st) m = ixk (ix i (mN m 21 n)) (fun j => go 149 125 ls st (sI m 21 n j x)) := e_ald d149_124 (fun j hj => by simp only [xi, pI, pL, pR, pA, hj, Option.bind_some]; exact if_pos ⟨rfl, by decide⟩) (fun hj => by simp only [xi, pI, pL, pR, pA, hj, Option.bind_none])
theorem d149_125 : decode (mt 149).2.1 125 = .ok (.aload_n 0, 1) := by decide +kernel
theorem s149_125 {a1 a2 a3 a4 a5 a6 a7 a8 : Option AV} {st : List AV} {m : MM} {x : Nat × Option Nat} : go 149 125 [some (.inr (.inr x)), a1, a2, a3, a4, a5, a6, a7, a8] st m = go 149 126 [some (.inr (.inr x)), a1, a2, a3, a4, a5, a6, a7, a8] (.inr (.inr x) :: st) m := e_1 d149_125 (Or.inl rfl) rfl
theorem d149_126 : decode (mt 149).2.1 126 = .ok (.iload_n 3, 1) := by decide +kernel
theorem s149_126 {a0 a1 a2 a4 a5 a6 a7 a8 : Option AV} {st : List AV} {m : MM} {x : Int32} : go 149 126 [a0, a1, a2, some (.inl x), a4, a5, a6, a7, a8] st m = go 149 127 [a0, a1, a2, some (.inl x), a4, a5, a6, a7, a8] (.inl x :: st) m := e_1 d149_126 (Or.inl rfl) rfl
theorem d149_127 : decode (mt 149).2.1 127 = .ok (.iconst 0, 1) := by decide +kernel
theorem s149_127 {ls : LV} {st : List AV} {m : MM} : go 149 127 ls st m = go 149 128 ls (.inl 0 :: st) m := e_1 d149_127 (Or.inl rfl) rfl
theorem d149_128 : decode (mt 149).2.1 128 = .ok (.invokevirtual 122, 3) := by decide +kernel
theorem s149_128 {ls : LV} {m : MM} {x0 : Int32} {x1 : Int32} {n : Nat} : go 149 128 ls [.inl x1, .inl x0, .inr (.inr (8, some n))] m = bd (go 107 0 [some (.inr (.inr (8, some n))), some (.inl x0), some (.inl x1), none] [] m) (fun v m2 => go 149 131 ls (v.toList ++ []) m2) := e_virt (y1 := 107) (na := 2) (as := [.inl x0, .inl x1]) (rest := []) d149_128 (by decide +kernel) rfl (by decide +kernel) (show (ent [.inr (.inr (8, some n)), .inl x0, .inl x1]).length ≤ (mt 107).2.2.2.1 from Nat.le_of_ble_eq_true rfl) (cats_le (Nat.le_of_ble_eq_true rfl)) (by decide +kernel)
theorem d149_131 : decode (mt 149).2.1 131 = .ok (.aload_n 0, 1) := by decide +kernel
theorem s149_131 {a1 a2 a3 a4 a5 a6 a7 a8 : Option AV} {st : List AV} {m : MM} {x : Nat × Option Nat} : go 149 131 [some (.inr (.inr x)), a1, a2, a3, a4, a5, a6, a7, a8] st m = go 149 132 [some (.inr (.inr x)), a1, a2, a3, a4, a5, a6, a7, a8] (.inr (.inr x) :: st) m := e_1 d149_131 (Or.inl rfl) rfl
theorem d149_132 : decode (mt 149).2.1 132 = .ok (.iload_n 3, 1) := by decide +kernel
theorem s149_132 {a0 a1 a2 a4 a5 a6 a7 a8 : Option AV} {st : List AV} {m : MM} {x : Int32} : go 149 132 [a0, a1, a2, some (.inl x), a4, a5, a6, a7, a8] st m = go 149 133 [a0, a1, a2, some (.inl x), a4, a5, a6, a7, a8] (.inl x :: st) m := e_1 d149_132 (Or.inl rfl) rfl
theorem d149_133 : decode (mt 149).2.1 133 = .ok (.iconst 0, 1) := by decide +kernel
theorem s149_133 {ls : LV} {st : List AV} {m : MM} : go 149 133 ls st m = go 149 134 ls (.inl 0 :: st) m := e_1 d149_133 (Or.inl rfl) rfl
theorem d149_134 : decode (mt 149).2.1 134 = .ok (.iload 7, 2) := by decide +kernel
theorem s149_134 {a0 a1 a2 a3 a4 a5 a6 a8 : Option AV} {st : List AV} {m : MM} {x : Int32} : go 149 134 [a0, a1, a2, a3, a4, a5, a6, some (.inl x), a8] st m = go 149 136 [a0, a1, a2, a3, a4, a5, a6, some (.inl x), a8] (.inl x :: st) m := e_1 d149_134 (Or.inl rfl) rfl
theorem d149_136 : decode (mt 149).2.1 136 = .ok (.iload 8, 2) := by decide +kernel
theorem s149_136 {a0 a1 a2 a3 a4 a5 a6 a7 : Option AV} {st : List AV} {m : MM} {x : Int32} : go 149 136 [a0, a1, a2, a3, a4, a5, a6, a7, some (.inl x)] st m = go 149 138 [a0, a1, a2, a3, a4, a5, a6, a7, some (.inl x)] (.inl x :: st) m := e_1 d149_136 (Or.inl rfl) rfl
theorem d149_138 : decode (mt 149).2.1 138 = .ok (.invokevirtual 209, 3) := by decide +kernel
theorem s149_138 {ls : LV} {m : MM} {x0 : Int32} {x1 : Int32} {x2 : Int32} {x3 : Int32} {n : Nat} : go 149 138 ls [.inl x3, .inl x2, .inl x1, .inl x0, .inr (.inr (8, some n))] m = bd (go 108 0 [some (.inr (.inr (8, some n))), some (.inl x0), some (.inl x1), some (.inl x2), some (.inl x3)] [] m) (fun v m2 => go 149 141 ls (v.toList ++ []) m2) := e_virt (y1 := 108) (na := 4) (as := [.inl x0, .inl x1, .inl x2, .inl x3]) (rest := []) d149_138 (by decide +kernel) rfl (by decide +kernel) (show (ent [.inr (.inr (8, some n)), .inl x0, .inl x1, .inl x2, .inl x3]).length ≤ (mt 108).2.2.2.1 from Nat.le_of_ble_eq_true rfl) (cats_le (Nat.le_of_ble_eq_true rfl)) (by decide +kernel)
theorem d149_141 : decode (mt 149).2.1 141 = .ok (.aload_n 0, 1) := by decide +kernel
theorem s149_141 {a1 a2 a3 a4 a5 a6 a7 a8 : Option AV} {st : List AV} {m : MM} {x : Nat × Option Nat} : go 149 141 [some (.inr (.inr x)), a1, a2, a3, a4, a5, a6, a7, a8] st m = go 149 142 [some (.inr (.inr x)), a1, a2, a3, a4, a5, a6, a7, a8] (.inr (.inr x) :: st) m := e_1 d149_141 (Or.inl rfl) rfl
theorem d149_142 : decode (mt 149).2.1 142 = .ok (.getfield 42, 3) := by decide +kernel
theorem s149_142 {ls : LV} {st : List AV} {m : MM} {n : Nat} : go 149 142 ls (.inr (.inr (8, some n)) :: st) m = go 149 145 ls (.inr (.inr (28, mR m 8 n 11)) :: st) m := e_1 d149_142 (Or.inl rfl) (by rw [xi, pA, show lk fdL (mt 149).2.2.1 42 = some (8, 11) by decide +kernel]; rfl)
theorem d149_145 : decode (mt 149).2.1 145 = .ok (.iload_n 3, 1) := by decide +kernel
theorem s149_145 {a0 a1 a2 a4 a5 a6 a7 a8 : Option AV} {st : List AV} {m : MM} {x : Int32} : go 149 145 [a0, a1, a2, some (.inl x), a4, a5, a6, a7, a8] st m = go 149 146 [a0, a1, a2, some (.inl x), a4, a5, a6, a7, a8] (.inl x :: st) m := e_1 d149_145 (Or.inl rfl) rfl
theorem d149_146 : decode (mt 149).2.1 146 = .ok (.iconst 0, 1) := by decide +kernel
theorem s149_146 {ls : LV} {st : List AV} {m : MM} : go 149 146 ls st m = go 149 147 ls (.inl 0 :: st) m := e_1 d149_146 (Or.inl rfl) rfl
theorem d149_147 : decode (mt 149).2.1 147 = .ok (.iastore, 1) := by decide +kernel
theorem s149_147 {ls : LV} {st : List AV} {m : MM} {n : Nat} {i : Int32} {x : Int32} : go 149 147 ls (.inl x :: .inl i :: .inr (.inr (28, some n)) :: st) m = ixk (ix i (mN m 28 n)) (fun j => go 149 148 ls st (sI m 28 n j x)) := e_ald d149_147 (fun j hj => by simp only [xi, pI, pL, pR, pA, hj, Option.bind_some]; exact if_pos ⟨rfl, by decide⟩) (fun hj => by simp only [xi, pI, pL, pR, pA, hj, Option.bind_none])
theorem d149_148 : decode (mt 149).2.1 148 = .ok (.aload_n 0, 1) := by decide +kernel
theorem s149_148 {a1 a2 a3 a4 a5 a6 a7 a8 : Option AV} {st : List AV} {m : MM} {x : Nat × Option Nat} : go 149 148 [some (.inr (.inr x)), a1, a2, a3, a4, a5, a6, a7, a8] st m = go 149 149 [some (.inr (.inr x)), a1, a2, a3, a4, a5, a6, a7, a8] (.inr (.inr x) :: st) m := e_1 d149_148 (Or.inl rfl) rfl
theorem d149_149 : decode (mt 149).2.1 149 = .ok (.iload_n 3, 1) := by decide +kernel
theorem s149_149 {a0 a1 a2 a4 a5 a6 a7 a8 : Option AV} {st : List AV} {m : MM} {x : Int32} : go 149 149 [a0, a1, a2, some (.inl x), a4, a5, a6, a7, a8] st m = go 149 150 [a0, a1, a2, some (.inl x), a4, a5, a6, a7, a8] (.inl x :: st) m := e_1 d149_149 (Or.inl rfl) rfl
theorem d149_150 : decode (mt 149).2.1 150 = .ok (.invokevirtual 241, 3) := by decide +kernel
theorem s149_150 {ls : LV} {m : MM} {x0 : Int32} {n : Nat} : go 149 150 ls [.inl x0, .inr (.inr (8, some n))] m = bd (go 129 0 [some (.inr (.inr (8, some n))), some (.inl x0), none] [] m) (fun v m2 => go 149 153 ls (v.toList ++ []) m2) := e_virt (y1 := 129) (na := 1) (as := [.inl x0]) (rest := []) d149_150 (by decide +kernel) rfl (by decide +kernel) (show (ent [.inr (.inr (8, some n)), .inl x0]).length ≤ (mt 129).2.2.2.1 from Nat.le_of_ble_eq_true rfl) (cats_le (Nat.le_of_ble_eq_true rfl)) (by decide +kernel)
theorem d149_153 : decode (mt 149).2.1 153 = .ok (.aload_n 0, 1) := by decide +kernel
theorem s149_153 {a1 a2 a3 a4 a5 a6 a7 a8 : Option AV} {st : List AV} {m : MM} {x : Nat × Option Nat} : go 149 153 [some (.inr (.inr x)), a1, a2, a3, a4, a5, a6, a7, a8] st m = go 149 154 [some (.inr (.inr x)), a1, a2, a3, a4, a5, a6, a7, a8] (.inr (.inr x) :: st) m := e_1 d149_153 (Or.inl rfl) rfl
theorem d149_154 : decode (mt 149).2.1 154 = .ok (.iload_n 3, 1) := by decide +kernel
theorem s149_154 {a0 a1 a2 a4 a5 a6 a7 a8 : Option AV} {st : List AV} {m : MM} {x : Int32} : go 149 154 [a0, a1, a2, some (.inl x), a4, a5, a6, a7, a8] st m = go 149 155 [a0, a1, a2, some (.inl x), a4, a5, a6, a7, a8] (.inl x :: st) m := e_1 d149_154 (Or.inl rfl) rfl
theorem d149_155 : decode (mt 149).2.1 155 = .ok (.iconst 0, 1) := by decide +kernel
theorem s149_155 {ls : LV} {st : List AV} {m : MM} : go 149 155 ls st m = go 149 156 ls (.inl 0 :: st) m := e_1 d149_155 (Or.inl rfl) rfl
theorem d149_156 : decode (mt 149).2.1 156 = .ok (.invokevirtual 244, 3) := by decide +kernel
theorem s149_156 {ls : LV} {m : MM} {x0 : Int32} {x1 : Int32} {n : Nat} : go 149 156 ls [.inl x1, .inl x0, .inr (.inr (8, some n))] m = bd (go 126 0 [some (.inr (.inr (8, some n))), some (.inl x0), some (.inl x1), none, none] [] m) (fun v m2 => go 149 159 ls (v.toList ++ []) m2) := e_virt (y1 := 126) (na := 2) (as := [.inl x0, .inl x1]) (rest := []) d149_156 (by decide +kernel) rfl (by decide +kernel) (show (ent [.inr (.inr (8, some n)), .inl x0, .inl x1]).length ≤ (mt 126).2.2.2.1 from Nat.le_of_ble_eq_true rfl) (cats_le (Nat.le_of_ble_eq_true rfl)) (by decide +kernel)
theorem d149_159 : decode (mt 149).2.1 159 = .ok (.goto 67, 3) := by decide +kernel
theorem s149_159 {ls : LV} {st : List AV} {m : MM} : go 149 159 ls st m = go 149 226 ls st m := e_1 d149_159 (Or.inl rfl) (by rw [xi, jm_some (t := 226) (by decide)]; rfl)
theorem d149_162 : decode (mt 149).2.1 162 = .ok (.aload_n 0, 1) := by decide +kernel
theorem s149_162 {a1 a2 a3 a4 a5 a6 a7 a8 : Option AV} {st : List AV} {m : MM} {x : Nat × Option Nat} : go 149 162 [some (.inr (.inr x)), a1, a2, a3, a4, a5, a6, a7, a8] st m = go 149 163 [some (.inr (.inr x)), a1, a2, a3, a4, a5, a6, a7, a8] (.inr (.inr x) :: st) m := e_1 d149_162 (Or.inl rfl) rfl
theorem d149_163 : decode (mt 149).2.1 163 = .ok (.iload_n 3, 1) := by decide +kernel
theorem s149_163 {a0 a1 a2 a4 a5 a6 a7 a8 : Option AV} {st : List AV} {m : MM} {x : Int32} : go 149 163 [a0, a1, a2, some (.inl x), a4, a5, a6, a7, a8] st m = go 149 164 [a0, a1, a2, some (.inl x), a4, a5, a6, a7, a8] (.inl x :: st) m := e_1 d149_163 (Or.inl rfl) rfl
theorem d149_164 : decode (mt 149).2.1 164 = .ok (.iload 5, 2) := by decide +kernel
theorem s149_164 {a0 a1 a2 a3 a4 a6 a7 a8 : Option AV} {st : List AV} {m : MM} {x : Int32} : go 149 164 [a0, a1, a2, a3, a4, some (.inl x), a6, a7, a8] st m = go 149 166 [a0, a1, a2, a3, a4, some (.inl x), a6, a7, a8] (.inl x :: st) m := e_1 d149_164 (Or.inl rfl) rfl
theorem d149_166 : decode (mt 149).2.1 166 = .ok (.iload 6, 2) := by decide +kernel
theorem s149_166 {a0 a1 a2 a3 a4 a5 a7 a8 : Option AV} {st : List AV} {m : MM} {x : Int32} : go 149 166 [a0, a1, a2, a3, a4, a5, some (.inl x), a7, a8] st m = go 149 168 [a0, a1, a2, a3, a4, a5, some (.inl x), a7, a8] (.inl x :: st) m := e_1 d149_166 (Or.inl rfl) rfl
theorem d149_168 : decode (mt 149).2.1 168 = .ok (.iload 7, 2) := by decide +kernel
theorem s149_168 {a0 a1 a2 a3 a4 a5 a6 a8 : Option AV} {st : List AV} {m : MM} {x : Int32} : go 149 168 [a0, a1, a2, a3, a4, a5, a6, some (.inl x), a8] st m = go 149 170 [a0, a1, a2, a3, a4, a5, a6, some (.inl x), a8] (.inl x :: st) m := e_1 d149_168 (Or.inl rfl) rfl
theorem d149_170 : decode (mt 149).2.1 170 = .ok (.invokevirtual 247, 3) := by decide +kernel
theorem s149_170 {ls : LV} {m : MM} {x0 : Int32} {x1 : Int32} {x2 : Int32} {x3 : Int32} {n : Nat} : go 149 170 ls [.inl x3, .inl x2, .inl x1, .inl x0, .inr (.inr (8, some n))] m = bd (go 130 0 [some (.inr (.inr (8, some n))), some (.inl x0), some (.inl x1), some (.inl x2), some (.inl x3), none, none, none] [] m) (fun v m2 => go 149 173 ls (v.toList ++ []) m2) := e_virt (y1 := 130) (na := 4) (as := [.inl x0, .inl x1, .inl x2, .inl x3]) (rest := []) d149_170 (by decide +kernel) rfl (by decide +kernel) (show (ent [.inr (.inr (8, some n)), .inl x0, .inl x1, .inl x2, .inl x3]).length ≤ (mt 130).2.2.2.1 from Nat.le_of_ble_eq_true rfl) (cats_le (Nat.le_of_ble_eq_true rfl)) (by decide +kernel)
theorem d149_173 : decode (mt 149).2.1 173 = .ok (.goto 53, 3) := by decide +kernel
theorem s149_173 {ls : LV} {st : List AV} {m : MM} : go 149 173 ls st m = go 149 226 ls st m := e_1 d149_173 (Or.inl rfl) (by rw [xi, jm_some (t := 226) (by decide)]; rfl)
theorem d149_176 : decode (mt 149).2.1 176 = .ok (.aload_n 0, 1) := by decide +kernel
theorem s149_176 {a1 a2 a3 a4 a5 a6 a7 a8 : Option AV} {st : List AV} {m : MM} {x : Nat × Option Nat} : go 149 176 [some (.inr (.inr x)), a1, a2, a3, a4, a5, a6, a7, a8] st m = go 149 177 [some (.inr (.inr x)), a1, a2, a3, a4, a5, a6, a7, a8] (.inr (.inr x) :: st) m := e_1 d149_176 (Or.inl rfl) rfl
theorem d149_177 : decode (mt 149).2.1 177 = .ok (.iload_n 3, 1) := by decide +kernel
theorem s149_177 {a0 a1 a2 a4 a5 a6 a7 a8 : Option AV} {st : List AV} {m : MM} {x : Int32} : go 149 177 [a0, a1, a2, some (.inl x), a4, a5, a6, a7, a8] st m = go 149 178 [a0, a1, a2, some (.inl x), a4, a5, a6, a7, a8] (.inl x :: st) m := e_1 d149_177 (Or.inl rfl) rfl
theorem d149_178 : decode (mt 149).2.1 178 = .ok (.iload 5, 2) := by decide +kernel
theorem s149_178 {a0 a1 a2 a3 a4 a6 a7 a8 : Option AV} {st : List AV} {m : MM} {x : Int32} : go 149 178 [a0, a1, a2, a3, a4, some (.inl x), a6, a7, a8] st m = go 149 180 [a0, a1, a2, a3, a4, some (.inl x), a6, a7, a8] (.inl x :: st) m := e_1 d149_178 (Or.inl rfl) rfl
theorem d149_180 : decode (mt 149).2.1 180 = .ok (.iload 6, 2) := by decide +kernel
theorem s149_180 {a0 a1 a2 a3 a4 a5 a7 a8 : Option AV} {st : List AV} {m : MM} {x : Int32} : go 149 180 [a0, a1, a2, a3, a4, a5, some (.inl x), a7, a8] st m = go 149 182 [a0, a1, a2, a3, a4, a5, some (.inl x), a7, a8] (.inl x :: st) m := e_1 d149_180 (Or.inl rfl) rfl
theorem d149_182 : decode (mt 149).2.1 182 = .ok (.iload 7, 2) := by decide +kernel
theorem s149_182 {a0 a1 a2 a3 a4 a5 a6 a8 : Option AV} {st : List AV} {m : MM} {x : Int32} : go 149 182 [a0, a1, a2, a3, a4, a5, a6, some (.inl x), a8] st m = go 149 184 [a0, a1, a2, a3, a4, a5, a6, some (.inl x), a8] (.inl x :: st) m := e_1 d149_182 (Or.inl rfl) rfl
theorem d149_184 : decode (mt 149).2.1 184 = .ok (.invokevirtual 250, 3) := by decide +kernel
theorem s149_184 {ls : LV} {m : MM} {x0 : Int32} {x1 : Int32} {x2 : Int32} {x3 : Int32} {n : Nat} : go 149 184 ls [.inl x3, .inl x2, .inl x1, .inl x0, .inr (.inr (8, some n))] m = bd (go 131 0 [some (.inr (.inr (8, some n))), some (.inl x0), some (.inl x1), some (.inl x2), some (.inl x3), none] [] m) (fun v m2 => go 149 187 ls (v.toList ++ []) m2) := e_virt (y1 := 131) (na := 4) (as := [.inl x0, .inl x1, .inl x2, .inl x3]) (rest := []) d149_184 (by decide +kernel) rfl (by decide +kernel) (show (ent [.inr (.inr (8, some n)), .inl x0, .inl x1, .inl x2, .inl x3]).length ≤ (mt 131).2.2.2.1 from Nat.le_of_ble_eq_true rfl) (cats_le (Nat.le_of_ble_eq_true rfl)) (by decide +kernel)
theorem d149_187 : decode (mt 149).2.1 187 = .ok (.goto 39, 3) := by decide +kernel
theorem s149_187 {ls : LV} {st : List AV} {m : MM} : go 149 187 ls st m = go 149 226 ls st m := e_1 d149_187 (Or.inl rfl) (by rw [xi, jm_some (t := 226) (by decide)]; rfl)
theorem d149_190 : decode (mt 149).2.1 190 = .ok (.aload_n 0, 1) := by decide +kernel
theorem s149_190 {a1 a2 a3 a4 a5 a6 a7 a8 : Option AV} {st : List AV} {m : MM} {x : Nat × Option Nat} : go 149 190 [some (.inr (.inr x)), a1, a2, a3, a4, a5, a6, a7, a8] st m = go 149 191 [some (.inr (.inr x)), a1, a2, a3, a4, a5, a6, a7, a8] (.inr (.inr x) :: st) m := e_1 d149_190 (Or.inl rfl) rfl
theorem d149_191 : decode (mt 149).2.1 191 = .ok (.iload_n 3, 1) := by decide +kernel
theorem s149_191 {a0 a1 a2 a4 a5 a6 a7 a8 : Option AV} {st : List AV} {m : MM} {x : Int32} : go 149 191 [a0, a1, a2, some (.inl x), a4, a5, a6, a7, a8] st m = go 149 192 [a0, a1, a2, some (.inl x), a4, a5, a6, a7, a8] (.inl x :: st) m := e_1 d149_191 (Or.inl rfl) rfl
theorem d149_192 : decode (mt 149).2.1 192 = .ok (.iload 5, 2) := by decide +kernel
theorem s149_192 {a0 a1 a2 a3 a4 a6 a7 a8 : Option AV} {st : List AV} {m : MM} {x : Int32} : go 149 192 [a0, a1, a2, a3, a4, some (.inl x), a6, a7, a8] st m = go 149 194 [a0, a1, a2, a3, a4, some (.inl x), a6, a7, a8] (.inl x :: st) m := e_1 d149_192 (Or.inl rfl) rfl
theorem d149_194 : decode (mt 149).2.1 194 = .ok (.iload 7, 2) := by decide +kernel
theorem s149_194 {a0 a1 a2 a3 a4 a5 a6 a8 : Option AV} {st : List AV} {m : MM} {x : Int32} : go 149 194 [a0, a1, a2, a3, a4, a5, a6, some (.inl x), a8] st m = go 149 196 [a0, a1, a2, a3, a4, a5, a6, some (.inl x), a8] (.inl x :: st) m := e_1 d149_194 (Or.inl rfl) rfl
theorem d149_196 : decode (mt 149).2.1 196 = .ok (.iload 8, 2) := by decide +kernel
theorem s149_196 {a0 a1 a2 a3 a4 a5 a6 a7 : Option AV} {st : List AV} {m : MM} {x : Int32} : go 149 196 [a0, a1, a2, a3, a4, a5, a6, a7, some (.inl x)] st m = go 149 198 [a0, a1, a2, a3, a4, a5, a6, a7, some (.inl x)] (.inl x :: st) m := e_1 d149_196 (Or.inl rfl) rfl
theorem d149_198 : decode (mt 149).2.1 198 = .ok (.invokevirtual 209, 3) := by decide +kernel
theorem s149_198 {ls : LV} {m : MM} {x0 : Int32} {x1 : Int32} {x2 : Int32} {x3 : Int32} {n : Nat} : go 149 198 ls [.inl x3, .inl x2, .inl x1, .inl x0, .inr (.inr (8, some n))] m = bd (go 108 0 [some (.inr (.inr (8, some n))), some (.inl x0), some (.inl x1), some (.inl x2), some (.inl x3)] [] m) (fun v m2 => go 149 201 ls (v.toList ++ []) m2) := e_virt (y1 := 108) (na := 4) (as := [.inl x0, .inl x1, .inl x2, .inl x3]) (rest := []) d149_198 (by decide +kernel) rfl (by decide +kernel) (show (ent [.inr (.inr (8, some n)), .inl x0, .inl x1, .inl x2, .inl x3]).length ≤ (mt 108).2.2.2.1 from Nat.le_of_ble_eq_true rfl) (cats_le (Nat.le_of_ble_eq_true rfl)) (by decide +kernel)
theorem d149_201 : decode (mt 149).2.1 201 = .ok (.aload_n 0, 1) := by decide +kernel
theorem s149_201 {a1 a2 a3 a4 a5 a6 a7 a8 : Option AV} {st : List AV} {m : MM} {x : Nat × Option Nat} : go 149 201 [some (.inr (.inr x)), a1, a2, a3, a4, a5, a6, a7, a8] st m = go 149 202 [some (.inr (.inr x)), a1, a2, a3, a4, a5, a6, a7, a8] (.inr (.inr x) :: st) m := e_1 d149_201 (Or.inl rfl) rfl
theorem d149_202 : decode (mt 149).2.1 202 = .ok (.iload_n 3, 1) := by decide +kernel
theorem s149_202 {a0 a1 a2 a4 a5 a6 a7 a8 : Option AV} {st : List AV} {m : MM} {x : Int32} : go 149 202 [a0, a1, a2, some (.inl x), a4, a5, a6, a7, a8] st m = go 149 203 [a0, a1, a2, some (.inl x), a4, a5, a6, a7, a8] (.inl x :: st) m := e_1 d149_202 (Or.inl rfl) rfl
theorem d149_203 : decode (mt 149).2.1 203 = .ok (.iload 5, 2) := by decide +kernel
theorem s149_203 {a0 a1 a2 a3 a4 a6 a7 a8 : Option AV} {st : List AV} {m : MM} {x : Int32} : go 149 203 [a0, a1, a2, a3, a4, some (.inl x), a6, a7, a8] st m = go 149 205 [a0, a1, a2, a3, a4, some (.inl x), a6, a7, a8] (.inl x :: st) m := e_1 d149_203 (Or.inl rfl) rfl
theorem d149_205 : decode (mt 149).2.1 205 = .ok (.invokevirtual 244, 3) := by decide +kernel
theorem s149_205 {ls : LV} {m : MM} {x0 : Int32} {x1 : Int32} {n : Nat} : go 149 205 ls [.inl x1, .inl x0, .inr (.inr (8, some n))] m = bd (go 126 0 [some (.inr (.inr (8, some n))), some (.inl x0), some (.inl x1), none, none] [] m) (fun v m2 => go 149 208 ls (v.toList ++ []) m2) := e_virt (y1 := 126) (na := 2) (as := [.inl x0, .inl x1]) (rest := []) d149_205 (by decide +kernel) rfl (by decide +kernel) (show (ent [.inr (.inr (8, some n)), .inl x0, .inl x1]).length ≤ (mt 126).2.2.2.1 from Nat.le_of_ble_eq_true rfl) (cats_le (Nat.le_of_ble_eq_true rfl)) (by decide +kernel)
theorem d149_208 : decode (mt 149).2.1 208 = .ok (.goto 18, 3) := by decide +kernel
theorem s149_208 {ls : LV} {st : List AV} {m : MM} : go 149 208 ls st m = go 149 226 ls st m := e_1 d149_208 (Or.inl rfl) (by rw [xi, jm_some (t := 226) (by decide)]; rfl)
theorem d149_211 : decode (mt 149).2.1 211 = .ok (.aload_n 0, 1) := by decide +kernel
theorem s149_211 {a1 a2 a3 a4 a5 a6 a7 a8 : Option AV} {st : List AV} {m : MM} {x : Nat × Option Nat} : go 149 211 [some (.inr (.inr x)), a1, a2, a3, a4, a5, a6, a7, a8] st m = go 149 212 [some (.inr (.inr x)), a1, a2, a3, a4, a5, a6, a7, a8] (.inr (.inr x) :: st) m := e_1 d149_211 (Or.inl rfl) rfl
theorem d149_212 : decode (mt 149).2.1 212 = .ok (.iload_n 3, 1) := by decide +kernel
theorem s149_212 {a0 a1 a2 a4 a5 a6 a7 a8 : Option AV} {st : List AV} {m : MM} {x : Int32} : go 149 212 [a0, a1, a2, some (.inl x), a4, a5, a6, a7, a8] st m = go 149 213 [a0, a1, a2, some (.inl x), a4, a5, a6, a7, a8] (.inl x :: st) m := e_1 d149_212 (Or.inl rfl) rfl
theorem d149_213 : decode (mt 149).2.1 213 = .ok (.invokevirtual 241, 3) := by decide +kernel
theorem s149_213 {ls : LV} {m : MM} {x0 : Int32} {n : Nat} : go 149 213 ls [.inl x0, .inr (.inr (8, some n))] m = bd (go 129 0 [some (.inr (.inr (8, some n))), some (.inl x0), none] [] m) (fun v m2 => go 149 216 ls (v.toList ++ []) m2) := e_virt (y1 := 129) (na := 1) (as := [.inl x0]) (rest := []) d149_213 (by decide +kernel) rfl (by decide +kernel) (show (ent [.inr (.inr (8, some n)), .inl x0]).length ≤ (mt 129).2.2.2.1 from Nat.le_of_ble_eq_true rfl) (cats_le (Nat.le_of_ble_eq_true rfl)) (by decide +kernel)
theorem d149_216 : decode (mt 149).2.1 216 = .ok (.goto 10, 3) := by decide +kernel
theorem s149_216 {ls : LV} {st : List AV} {m : MM} : go 149 216 ls st m = go 149 226 ls st m := e_1 d149_216 (Or.inl rfl) (by rw [xi, jm_some (t := 226) (by decide)]; rfl)
theorem d149_219 : decode (mt 149).2.1 219 = .ok (.aload_n 0, 1) := by decide +kernel
theorem s149_219 {a1 a2 a3 a4 a5 a6 a7 a8 : Option AV} {st : List AV} {m : MM} {x : Nat × Option Nat} : go 149 219 [some (.inr (.inr x)), a1, a2, a3, a4, a5, a6, a7, a8] st m = go 149 220 [some (.inr (.inr x)), a1, a2, a3, a4, a5, a6, a7, a8] (.inr (.inr x) :: st) m := e_1 d149_219 (Or.inl rfl) rfl
theorem d149_220 : decode (mt 149).2.1 220 = .ok (.iload 4, 2) := by decide +kernel
theorem s149_220 {a0 a1 a2 a3 a5 a6 a7 a8 : Option AV} {st : List AV} {m : MM} {x : Int32} : go 149 220 [a0, a1, a2, a3, some (.inl x), a5, a6, a7, a8] st m = go 149 222 [a0, a1, a2, a3, some (.inl x), a5, a6, a7, a8] (.inl x :: st) m := e_1 d149_220 (Or.inl rfl) rfl
theorem d149_222 : decode (mt 149).2.1 222 = .ok (.iload_n 3, 1) := by decide +kernel
theorem s149_222 {a0 a1 a2 a4 a5 a6 a7 a8 : Option AV} {st : List AV} {m : MM} {x : Int32} : go 149 222 [a0, a1, a2, some (.inl x), a4, a5, a6, a7, a8] st m = go 149 223 [a0, a1, a2, some (.inl x), a4, a5, a6, a7, a8] (.inl x :: st) m := e_1 d149_222 (Or.inl rfl) rfl
theorem d149_223 : decode (mt 149).2.1 223 = .ok (.invokevirtual 253, 3) := by decide +kernel
theorem s149_223 {ls : LV} {m : MM} {x0 : Int32} {x1 : Int32} {n : Nat} : go 149 223 ls [.inl x1, .inl x0, .inr (.inr (8, some n))] m = bd (go 122 0 [some (.inr (.inr (8, some n))), some (.inl x0), some (.inl x1), none] [] m) (fun v m2 => go 149 226 ls (v.toList ++ []) m2) := e_virt (y1 := 122) (na := 2) (as := [.inl x0, .inl x1]) (rest := []) d149_223 (by decide +kernel) rfl (by decide +kernel) (show (ent [.inr (.inr (8, some n)), .inl x0, .inl x1]).length ≤ (mt 122).2.2.2.1 from Nat.le_of_ble_eq_true rfl) (cats_le (Nat.le_of_ble_eq_true rfl)) (by decide +kernel)
theorem d149_226 : decode (mt 149).2.1 226 = .ok (.aload_n 0, 1) := by decide +kernel
theorem s149_226 {a1 a2 a3 a4 a5 a6 a7 a8 : Option AV} {st : List AV} {m : MM} {x : Nat × Option Nat} : go 149 226 [some (.inr (.inr x)), a1, a2, a3, a4, a5, a6, a7, a8] st m = go 149 227 [some (.inr (.inr x)), a1, a2, a3, a4, a5, a6, a7, a8] (.inr (.inr x) :: st) m := e_1 d149_226 (Or.inl rfl) rfl
theorem d149_227 : decode (mt 149).2.1 227 = .ok (.invokevirtual 216, 3) := by decide +kernel
theorem s149_227 {ls : LV} {m : MM} {n : Nat} : go 149 227 ls [.inr (.inr (8, some n))] m = bd (go 132 0 [some (.inr (.inr (8, some n)))] [] m) (fun v m2 => go 149 230 ls (v.toList ++ []) m2) := e_virt (y1 := 132) (na := 0) (as := []) (rest := []) d149_227 (by decide +kernel) rfl (by decide +kernel) (show (ent [.inr (.inr (8, some n))]).length ≤ (mt 132).2.2.2.1 from Nat.le_of_ble_eq_true rfl) (cats_le (Nat.le_of_ble_eq_true rfl)) (by decide +kernel)
theorem d149_230 : decode (mt 149).2.1 230 = .ok (.return_, 1) := by decide +kernel
theorem s149_230 {ls : LV} {m : MM} : go 149 230 ls [] m = some (none, m) := e_void d149_230 (by decide +kernel)
/-! X7_deliver: 150 -/
theorem d150_0 : decode (mt 150).2.1 0 = .ok (.iload_n 1, 1) := by decide +kernel
theorem s150_0 {a0 a2 : Option AV} {st : List AV} {m : MM} {x : Int32} : go 150 0 [a0, some (.inl x), a2] st m = go 150 1 [a0, some (.inl x), a2] (.inl x :: st) m := e_1 d150_0 (Or.inl rfl) rfl
theorem d150_1 : decode (mt 150).2.1 1 = .ok (.i2l, 1) := by decide +kernel
theorem s150_1 {ls : LV} {st : List AV} {m : MM} {a : Int32} : go 150 1 ls (.inl a :: st) m = go 150 2 ls (.inr (.inl a.toInt64) :: st) m := e_1 d150_1 (Or.inl rfl) rfl
theorem d150_2 : decode (mt 150).2.1 2 = .ok (.lconst 0, 1) := by decide +kernel
theorem s150_2 {ls : LV} {st : List AV} {m : MM} : go 150 2 ls st m = go 150 3 ls (.inr (.inl 0) :: st) m := e_1 d150_2 (Or.inl rfl) rfl
theorem d150_3 : decode (mt 150).2.1 3 = .ok (.aload_n 0, 1) := by decide +kernel
theorem s150_3 {a1 a2 : Option AV} {st : List AV} {m : MM} {x : Nat × Option Nat} : go 150 3 [some (.inr (.inr x)), a1, a2] st m = go 150 4 [some (.inr (.inr x)), a1, a2] (.inr (.inr x) :: st) m := e_1 d150_3 (Or.inl rfl) rfl
theorem d150_4 : decode (mt 150).2.1 4 = .ok (.getfield 140, 3) := by decide +kernel
theorem s150_4 {ls : LV} {st : List AV} {m : MM} {n : Nat} : go 150 4 ls (.inr (.inr (8, some n)) :: st) m = go 150 7 ls (.inl (mI m 8 n 30) :: st) m := e_1 d150_4 (Or.inl rfl) (by rw [xi, pA, show lk fdL (mt 150).2.2.1 140 = some (8, 30) by decide +kernel]; rfl)
theorem d150_7 : decode (mt 150).2.1 7 = .ok (.iconst 1, 1) := by decide +kernel
theorem s150_7 {ls : LV} {st : List AV} {m : MM} : go 150 7 ls st m = go 150 8 ls (.inl 1 :: st) m := e_1 d150_7 (Or.inl rfl) rfl
theorem d150_8 : decode (mt 150).2.1 8 = .ok (.isub, 1) := by decide +kernel
theorem s150_8 {ls : LV} {st : List AV} {m : MM} {a b : Int32} : go 150 8 ls (.inl b :: .inl a :: st) m = go 150 9 ls (.inl (a - b) :: st) m := e_1 d150_8 (Or.inl rfl) rfl
theorem d150_9 : decode (mt 150).2.1 9 = .ok (.i2l, 1) := by decide +kernel
theorem s150_9 {ls : LV} {st : List AV} {m : MM} {a : Int32} : go 150 9 ls (.inl a :: st) m = go 150 10 ls (.inr (.inl a.toInt64) :: st) m := e_1 d150_9 (Or.inl rfl) rfl
theorem d150_10 : decode (mt 150).2.1 10 = .ok (.invokestatic 118, 3) := by decide +kernel
theorem s150_10 {ls : LV} {m : MM} {x0 : Int64} {x1 : Int64} {x2 : Int64} : go 150 10 ls [.inr (.inl x2), .inr (.inl x1), .inr (.inl x0)] m = bd (go 103 0 [some (.inr (.inl x0)), none, some (.inr (.inl x1)), none, some (.inr (.inl x2)), none] [] m) (fun v m2 => go 150 13 ls (v.toList ++ []) m2) := e_stat (y1 := 103) (na := 3) (as := [.inr (.inl x0), .inr (.inl x1), .inr (.inl x2)]) (rest := []) d150_10 (by decide +kernel) rfl (by decide +kernel) (show (ent [.inr (.inl x0), .inr (.inl x1), .inr (.inl x2)]).length ≤ (mt 103).2.2.2.1 from Nat.le_of_ble_eq_true rfl) (cats_le (Nat.le_of_ble_eq_true rfl)) (by decide +kernel)
theorem d150_13 : decode (mt 150).2.1 13 = .ok (.ifCond .ne 5, 3) := by decide +kernel
theorem s150_13 {ls : LV} {st : List AV} {m : MM} {a : Int32} : go 150 13 ls (.inl a :: st) m = if ¬ a = 0 then go 150 18 ls st m else go 150 16 ls st m := e_if (t := 18) (b := hc .ne a 0) d150_13 (Or.inl rfl) (by simp only [xi, pI, jm_some (t := 18) (show ((13 : Nat) : Int) + 5 = ((18 : Nat) : Int) by decide), Option.bind_some]) (by simp [hc])
theorem d150_16 : decode (mt 150).2.1 16 = .ok (.iconst (-1), 1) := by decide +kernel
theorem s150_16 {ls : LV} {st : List AV} {m : MM} : go 150 16 ls st m = go 150 17 ls (.inl (-1) :: st) m := e_1 d150_16 (Or.inl rfl) rfl
theorem d150_17 : decode (mt 150).2.1 17 = .ok (.ireturn, 1) := by decide +kernel
theorem s150_17 {ls : LV} {m : MM} {x : Int32} : go 150 17 ls [.inl x] m = some (some (.inl x), m) := e_int d150_17 (by decide +kernel)
theorem d150_18 : decode (mt 150).2.1 18 = .ok (.aload_n 0, 1) := by decide +kernel
theorem s150_18 {a1 a2 : Option AV} {st : List AV} {m : MM} {x : Nat × Option Nat} : go 150 18 [some (.inr (.inr x)), a1, a2] st m = go 150 19 [some (.inr (.inr x)), a1, a2] (.inr (.inr x) :: st) m := e_1 d150_18 (Or.inl rfl) rfl
theorem d150_19 : decode (mt 150).2.1 19 = .ok (.iload_n 1, 1) := by decide +kernel
theorem s150_19 {a0 a2 : Option AV} {st : List AV} {m : MM} {x : Int32} : go 150 19 [a0, some (.inl x), a2] st m = go 150 20 [a0, some (.inl x), a2] (.inl x :: st) m := e_1 d150_19 (Or.inl rfl) rfl
theorem d150_20 : decode (mt 150).2.1 20 = .ok (.invokevirtual 256, 3) := by decide +kernel
theorem s150_20 {ls : LV} {m : MM} {x0 : Int32} {n : Nat} : go 150 20 ls [.inl x0, .inr (.inr (8, some n))] m = bd (go 148 0 [some (.inr (.inr (8, some n))), some (.inl x0)] [] m) (fun v m2 => go 150 23 ls (v.toList ++ []) m2) := e_virt (y1 := 148) (na := 1) (as := [.inl x0]) (rest := []) d150_20 (by decide +kernel) rfl (by decide +kernel) (show (ent [.inr (.inr (8, some n)), .inl x0]).length ≤ (mt 148).2.2.2.1 from Nat.le_of_ble_eq_true rfl) (cats_le (Nat.le_of_ble_eq_true rfl)) (by decide +kernel)
theorem d150_23 : decode (mt 150).2.1 23 = .ok (.ifCond .ne 6, 3) := by decide +kernel
theorem s150_23 {ls : LV} {st : List AV} {m : MM} {a : Int32} : go 150 23 ls (.inl a :: st) m = if ¬ a = 0 then go 150 29 ls st m else go 150 26 ls st m := e_if (t := 29) (b := hc .ne a 0) d150_23 (Or.inl rfl) (by simp only [xi, pI, jm_some (t := 29) (show ((23 : Nat) : Int) + 6 = ((29 : Nat) : Int) by decide), Option.bind_some]) (by simp [hc])
theorem d150_26 : decode (mt 150).2.1 26 = .ok (.bipush (-2), 2) := by decide +kernel
theorem s150_26 {ls : LV} {st : List AV} {m : MM} : go 150 26 ls st m = go 150 28 ls (.inl (-2) :: st) m := e_1 d150_26 (Or.inl rfl) rfl
theorem d150_28 : decode (mt 150).2.1 28 = .ok (.ireturn, 1) := by decide +kernel
theorem s150_28 {ls : LV} {m : MM} {x : Int32} : go 150 28 ls [.inl x] m = some (some (.inl x), m) := e_int d150_28 (by decide +kernel)
theorem d150_29 : decode (mt 150).2.1 29 = .ok (.aload_n 0, 1) := by decide +kernel
theorem s150_29 {a1 a2 : Option AV} {st : List AV} {m : MM} {x : Nat × Option Nat} : go 150 29 [some (.inr (.inr x)), a1, a2] st m = go 150 30 [some (.inr (.inr x)), a1, a2] (.inr (.inr x) :: st) m := e_1 d150_29 (Or.inl rfl) rfl
theorem d150_30 : decode (mt 150).2.1 30 = .ok (.getfield 88, 3) := by decide +kernel
theorem s150_30 {ls : LV} {st : List AV} {m : MM} {n : Nat} : go 150 30 ls (.inr (.inr (8, some n)) :: st) m = go 150 33 ls (.inr (.inr (43, mR m 8 n 31)) :: st) m := e_1 d150_30 (Or.inl rfl) (by rw [xi, pA, show lk fdL (mt 150).2.2.1 88 = some (8, 31) by decide +kernel]; rfl)
theorem d150_33 : decode (mt 150).2.1 33 = .ok (.iload_n 1, 1) := by decide +kernel
theorem s150_33 {a0 a2 : Option AV} {st : List AV} {m : MM} {x : Int32} : go 150 33 [a0, some (.inl x), a2] st m = go 150 34 [a0, some (.inl x), a2] (.inl x :: st) m := e_1 d150_33 (Or.inl rfl) rfl
theorem d150_34 : decode (mt 150).2.1 34 = .ok (.iaload, 1) := by decide +kernel
theorem s150_34 {ls : LV} {st : List AV} {m : MM} {n : Nat} {i : Int32} : go 150 34 ls (.inl i :: .inr (.inr (43, some n)) :: st) m = ixk (ix i (mN m 43 n)) (fun j => go 150 35 ls (.inl (mI m 43 n j) :: st) m) := e_ald d150_34 (fun j hj => by simp only [xi, pI, pA, hj, Option.bind_some]; rfl) (fun hj => by simp only [xi, pI, pA, hj, Option.bind_none])
theorem d150_35 : decode (mt 150).2.1 35 = .ok (.istore_n 2, 1) := by decide +kernel
theorem s150_35i {a0 a2 : Option AV} {z : Int32} {st : List AV} {m : MM} {x : Int32} : go 150 35 [a0, some (.inl z), a2] (.inl x :: st) m = go 150 36 [a0, some (.inl z), some (.inl x)] st m := e_1 d150_35 (Or.inl rfl) rfl
theorem s150_35r {a0 a2 : Option AV} {z : Nat × Option Nat} {st : List AV} {m : MM} {x : Int32} : go 150 35 [a0, some (.inr (.inr z)), a2] (.inl x :: st) m = go 150 36 [a0, some (.inr (.inr z)), some (.inl x)] st m := e_1 d150_35 (Or.inl rfl) rfl
theorem s150_35n {a0 a2 : Option AV} {st : List AV} {m : MM} {x : Int32} : go 150 35 [a0, none, a2] (.inl x :: st) m = go 150 36 [a0, none, some (.inl x)] st m := e_1 d150_35 (Or.inl rfl) rfl
theorem d150_36 : decode (mt 150).2.1 36 = .ok (.aload_n 0, 1) := by decide +kernel
theorem s150_36 {a1 a2 : Option AV} {st : List AV} {m : MM} {x : Nat × Option Nat} : go 150 36 [some (.inr (.inr x)), a1, a2] st m = go 150 37 [some (.inr (.inr x)), a1, a2] (.inr (.inr x) :: st) m := e_1 d150_36 (Or.inl rfl) rfl
theorem d150_37 : decode (mt 150).2.1 37 = .ok (.iload_n 1, 1) := by decide +kernel
theorem s150_37 {a0 a2 : Option AV} {st : List AV} {m : MM} {x : Int32} : go 150 37 [a0, some (.inl x), a2] st m = go 150 38 [a0, some (.inl x), a2] (.inl x :: st) m := e_1 d150_37 (Or.inl rfl) rfl
theorem d150_38 : decode (mt 150).2.1 38 = .ok (.invokevirtual 259, 3) := by decide +kernel
theorem s150_38 {ls : LV} {m : MM} {x0 : Int32} {n : Nat} : go 150 38 ls [.inl x0, .inr (.inr (8, some n))] m = bd (go 149 0 [some (.inr (.inr (8, some n))), some (.inl x0), none, none, none, none, none, none, none] [] m) (fun v m2 => go 150 41 ls (v.toList ++ []) m2) := e_virt (y1 := 149) (na := 1) (as := [.inl x0]) (rest := []) d150_38 (by decide +kernel) rfl (by decide +kernel) (show (ent [.inr (.inr (8, some n)), .inl x0]).length ≤ (mt 149).2.2.2.1 from Nat.le_of_ble_eq_true rfl) (cats_le (Nat.le_of_ble_eq_true rfl)) (by decide +kernel)
theorem d150_41 : decode (mt 150).2.1 41 = .ok (.iload_n 2, 1) := by decide +kernel
theorem s150_41 {a0 a1 : Option AV} {st : List AV} {m : MM} {x : Int32} : go 150 41 [a0, a1, some (.inl x)] st m = go 150 42 [a0, a1, some (.inl x)] (.inl x :: st) m := e_1 d150_41 (Or.inl rfl) rfl
theorem d150_42 : decode (mt 150).2.1 42 = .ok (.ireturn, 1) := by decide +kernel
theorem s150_42 {ls : LV} {m : MM} {x : Int32} : go 150 42 ls [.inl x] m = some (some (.inl x), m) := e_int d150_42 (by decide +kernel)
/-! X7_firstThatMay: 151 -/
theorem d151_0 : decode (mt 151).2.1 0 = .ok (.iconst 0, 1) := by decide +kernel
theorem s151_0 {ls : LV} {st : List AV} {m : MM} : go 151 0 ls st m = go 151 1 ls (.inl 0 :: st) m := e_1 d151_0 (Or.inl rfl) rfl
theorem d151_1 : decode (mt 151).2.1 1 = .ok (.istore_n 1, 1) := by decide +kernel
theorem s151_1i {a1 : Option AV} {z : Int32} {st : List AV} {m : MM} {x : Int32} : go 151 1 [some (.inl z), a1] (.inl x :: st) m = go 151 2 [some (.inl z), some (.inl x)] st m := e_1 d151_1 (Or.inl rfl) rfl
theorem s151_1r {a1 : Option AV} {z : Nat × Option Nat} {st : List AV} {m : MM} {x : Int32} : go 151 1 [some (.inr (.inr z)), a1] (.inl x :: st) m = go 151 2 [some (.inr (.inr z)), some (.inl x)] st m := e_1 d151_1 (Or.inl rfl) rfl
theorem s151_1n {a1 : Option AV} {st : List AV} {m : MM} {x : Int32} : go 151 1 [none, a1] (.inl x :: st) m = go 151 2 [none, some (.inl x)] st m := e_1 d151_1 (Or.inl rfl) rfl
theorem d151_2 : decode (mt 151).2.1 2 = .ok (.iload_n 1, 1) := by decide +kernel
theorem s151_2 {a0 : Option AV} {st : List AV} {m : MM} {x : Int32} : go 151 2 [a0, some (.inl x)] st m = go 151 3 [a0, some (.inl x)] (.inl x :: st) m := e_1 d151_2 (Or.inl rfl) rfl
theorem d151_3 : decode (mt 151).2.1 3 = .ok (.aload_n 0, 1) := by decide +kernel
theorem s151_3 {a1 : Option AV} {st : List AV} {m : MM} {x : Nat × Option Nat} : go 151 3 [some (.inr (.inr x)), a1] st m = go 151 4 [some (.inr (.inr x)), a1] (.inr (.inr x) :: st) m := e_1 d151_3 (Or.inl rfl) rfl
theorem d151_4 : decode (mt 151).2.1 4 = .ok (.getfield 140, 3) := by decide +kernel
theorem s151_4 {ls : LV} {st : List AV} {m : MM} {n : Nat} : go 151 4 ls (.inr (.inr (8, some n)) :: st) m = go 151 7 ls (.inl (mI m 8 n 30) :: st) m := e_1 d151_4 (Or.inl rfl) (by rw [xi, pA, show lk fdL (mt 151).2.2.1 140 = some (8, 30) by decide +kernel]; rfl)
theorem d151_7 : decode (mt 151).2.1 7 = .ok (.if_icmp .ge 19, 3) := by decide +kernel
theorem s151_7 {ls : LV} {st : List AV} {m : MM} {a b : Int32} : go 151 7 ls (.inl b :: .inl a :: st) m = if b ≤ a then go 151 26 ls st m else go 151 10 ls st m := e_if (t := 26) (b := hc .ge a b) d151_7 (Or.inl rfl) (by simp only [xi, pI, jm_some (t := 26) (show ((7 : Nat) : Int) + 19 = ((26 : Nat) : Int) by decide), Option.bind_some]) (by simp [hc])
theorem d151_10 : decode (mt 151).2.1 10 = .ok (.aload_n 0, 1) := by decide +kernel
theorem s151_10 {a1 : Option AV} {st : List AV} {m : MM} {x : Nat × Option Nat} : go 151 10 [some (.inr (.inr x)), a1] st m = go 151 11 [some (.inr (.inr x)), a1] (.inr (.inr x) :: st) m := e_1 d151_10 (Or.inl rfl) rfl
theorem d151_11 : decode (mt 151).2.1 11 = .ok (.iload_n 1, 1) := by decide +kernel
theorem s151_11 {a0 : Option AV} {st : List AV} {m : MM} {x : Int32} : go 151 11 [a0, some (.inl x)] st m = go 151 12 [a0, some (.inl x)] (.inl x :: st) m := e_1 d151_11 (Or.inl rfl) rfl
theorem d151_12 : decode (mt 151).2.1 12 = .ok (.invokevirtual 256, 3) := by decide +kernel
theorem s151_12 {ls : LV} {m : MM} {x0 : Int32} {n : Nat} : go 151 12 ls [.inl x0, .inr (.inr (8, some n))] m = bd (go 148 0 [some (.inr (.inr (8, some n))), some (.inl x0)] [] m) (fun v m2 => go 151 15 ls (v.toList ++ []) m2) := e_virt (y1 := 148) (na := 1) (as := [.inl x0]) (rest := []) d151_12 (by decide +kernel) rfl (by decide +kernel) (show (ent [.inr (.inr (8, some n)), .inl x0]).length ≤ (mt 148).2.2.2.1 from Nat.le_of_ble_eq_true rfl) (cats_le (Nat.le_of_ble_eq_true rfl)) (by decide +kernel)
theorem d151_15 : decode (mt 151).2.1 15 = .ok (.ifCond .eq 5, 3) := by decide +kernel
theorem s151_15 {ls : LV} {st : List AV} {m : MM} {a : Int32} : go 151 15 ls (.inl a :: st) m = if a = 0 then go 151 20 ls st m else go 151 18 ls st m := e_if (t := 20) (b := hc .eq a 0) d151_15 (Or.inl rfl) (by simp only [xi, pI, jm_some (t := 20) (show ((15 : Nat) : Int) + 5 = ((20 : Nat) : Int) by decide), Option.bind_some]) (by simp [hc])
theorem d151_18 : decode (mt 151).2.1 18 = .ok (.iload_n 1, 1) := by decide +kernel
theorem s151_18 {a0 : Option AV} {st : List AV} {m : MM} {x : Int32} : go 151 18 [a0, some (.inl x)] st m = go 151 19 [a0, some (.inl x)] (.inl x :: st) m := e_1 d151_18 (Or.inl rfl) rfl
theorem d151_19 : decode (mt 151).2.1 19 = .ok (.ireturn, 1) := by decide +kernel
theorem s151_19 {ls : LV} {m : MM} {x : Int32} : go 151 19 ls [.inl x] m = some (some (.inl x), m) := e_int d151_19 (by decide +kernel)
theorem d151_20 : decode (mt 151).2.1 20 = .ok (.iinc 1 1, 3) := by decide +kernel
theorem s151_20i {z : Int32} {st : List AV} {m : MM} {x : Int32} : go 151 20 [some (.inl z), some (.inl x)] st m = go 151 23 [some (.inl z), some (.inl (x + 1))] st m := e_1 d151_20 (Or.inl rfl) rfl
theorem s151_20r {z : Nat × Option Nat} {st : List AV} {m : MM} {x : Int32} : go 151 20 [some (.inr (.inr z)), some (.inl x)] st m = go 151 23 [some (.inr (.inr z)), some (.inl (x + 1))] st m := e_1 d151_20 (Or.inl rfl) rfl
theorem s151_20n {st : List AV} {m : MM} {x : Int32} : go 151 20 [none, some (.inl x)] st m = go 151 23 [none, some (.inl (x + 1))] st m := e_1 d151_20 (Or.inl rfl) rfl
theorem d151_23 : decode (mt 151).2.1 23 = .ok (.goto (-21), 3) := by decide +kernel
theorem s151_23 {ls : LV} {st : List AV} {m : MM} : go 151 23 ls st m = go 151 2 ls st m := e_1 d151_23 (Or.inl rfl) (by rw [xi, jm_some (t := 2) (by decide)]; rfl)
theorem d151_26 : decode (mt 151).2.1 26 = .ok (.bipush (-4), 2) := by decide +kernel
theorem s151_26 {ls : LV} {st : List AV} {m : MM} : go 151 26 ls st m = go 151 28 ls (.inl (-4) :: st) m := e_1 d151_26 (Or.inl rfl) rfl
theorem d151_28 : decode (mt 151).2.1 28 = .ok (.ireturn, 1) := by decide +kernel
theorem s151_28 {ls : LV} {m : MM} {x : Int32} : go 151 28 ls [.inl x] m = some (some (.inl x), m) := e_int d151_28 (by decide +kernel)
/-! X7_all: 152 -/
theorem d152_0 : decode (mt 152).2.1 0 = .ok (.iload_n 1, 1) := by decide +kernel
theorem s152_0 {a0 a2 : Option AV} {st : List AV} {m : MM} {x : Int32} : go 152 0 [a0, some (.inl x), a2] st m = go 152 1 [a0, some (.inl x), a2] (.inl x :: st) m := e_1 d152_0 (Or.inl rfl) rfl
theorem d152_1 : decode (mt 152).2.1 1 = .ok (.i2l, 1) := by decide +kernel
theorem s152_1 {ls : LV} {st : List AV} {m : MM} {a : Int32} : go 152 1 ls (.inl a :: st) m = go 152 2 ls (.inr (.inl a.toInt64) :: st) m := e_1 d152_1 (Or.inl rfl) rfl
theorem d152_2 : decode (mt 152).2.1 2 = .ok (.lconst 0, 1) := by decide +kernel
theorem s152_2 {ls : LV} {st : List AV} {m : MM} : go 152 2 ls st m = go 152 3 ls (.inr (.inl 0) :: st) m := e_1 d152_2 (Or.inl rfl) rfl
theorem d152_3 : decode (mt 152).2.1 3 = .ok (.ldc2_w 262, 3) := by decide +kernel
theorem s152_3 {ls : LV} {st : List AV} {m : MM} : go 152 3 ls st m = go 152 6 ls (.inr (.inl 1000) :: st) m := e_1 d152_3 (Or.inl rfl) (by rw [xi, show lk c2L (mt 152).2.2.1 262 = some 1000 by decide +kernel]; rfl)
theorem d152_6 : decode (mt 152).2.1 6 = .ok (.invokestatic 118, 3) := by decide +kernel
theorem s152_6 {ls : LV} {m : MM} {x0 : Int64} {x1 : Int64} {x2 : Int64} : go 152 6 ls [.inr (.inl x2), .inr (.inl x1), .inr (.inl x0)] m = bd (go 103 0 [some (.inr (.inl x0)), none, some (.inr (.inl x1)), none, some (.inr (.inl x2)), none] [] m) (fun v m2 => go 152 9 ls (v.toList ++ []) m2) := e_stat (y1 := 103) (na := 3) (as := [.inr (.inl x0), .inr (.inl x1), .inr (.inl x2)]) (rest := []) d152_6 (by decide +kernel) rfl (by decide +kernel) (show (ent [.inr (.inl x0), .inr (.inl x1), .inr (.inl x2)]).length ≤ (mt 103).2.2.2.1 from Nat.le_of_ble_eq_true rfl) (cats_le (Nat.le_of_ble_eq_true rfl)) (by decide +kernel)
theorem d152_9 : decode (mt 152).2.1 9 = .ok (.ifCond .ne 5, 3) := by decide +kernel
theorem s152_9 {ls : LV} {st : List AV} {m : MM} {a : Int32} : go 152 9 ls (.inl a :: st) m = if ¬ a = 0 then go 152 14 ls st m else go 152 12 ls st m := e_if (t := 14) (b := hc .ne a 0) d152_9 (Or.inl rfl) (by simp only [xi, pI, jm_some (t := 14) (show ((9 : Nat) : Int) + 5 = ((14 : Nat) : Int) by decide), Option.bind_some]) (by simp [hc])
theorem d152_12 : decode (mt 152).2.1 12 = .ok (.iconst (-1), 1) := by decide +kernel
theorem s152_12 {ls : LV} {st : List AV} {m : MM} : go 152 12 ls st m = go 152 13 ls (.inl (-1) :: st) m := e_1 d152_12 (Or.inl rfl) rfl
theorem d152_13 : decode (mt 152).2.1 13 = .ok (.ireturn, 1) := by decide +kernel
theorem s152_13 {ls : LV} {m : MM} {x : Int32} : go 152 13 ls [.inl x] m = some (some (.inl x), m) := e_int d152_13 (by decide +kernel)
theorem d152_14 : decode (mt 152).2.1 14 = .ok (.iconst 0, 1) := by decide +kernel
theorem s152_14 {ls : LV} {st : List AV} {m : MM} : go 152 14 ls st m = go 152 15 ls (.inl 0 :: st) m := e_1 d152_14 (Or.inl rfl) rfl
theorem d152_15 : decode (mt 152).2.1 15 = .ok (.istore_n 2, 1) := by decide +kernel
theorem s152_15i {a0 a2 : Option AV} {z : Int32} {st : List AV} {m : MM} {x : Int32} : go 152 15 [a0, some (.inl z), a2] (.inl x :: st) m = go 152 16 [a0, some (.inl z), some (.inl x)] st m := e_1 d152_15 (Or.inl rfl) rfl
theorem s152_15r {a0 a2 : Option AV} {z : Nat × Option Nat} {st : List AV} {m : MM} {x : Int32} : go 152 15 [a0, some (.inr (.inr z)), a2] (.inl x :: st) m = go 152 16 [a0, some (.inr (.inr z)), some (.inl x)] st m := e_1 d152_15 (Or.inl rfl) rfl
theorem s152_15n {a0 a2 : Option AV} {st : List AV} {m : MM} {x : Int32} : go 152 15 [a0, none, a2] (.inl x :: st) m = go 152 16 [a0, none, some (.inl x)] st m := e_1 d152_15 (Or.inl rfl) rfl
theorem d152_16 : decode (mt 152).2.1 16 = .ok (.iload_n 2, 1) := by decide +kernel
theorem s152_16 {a0 a1 : Option AV} {st : List AV} {m : MM} {x : Int32} : go 152 16 [a0, a1, some (.inl x)] st m = go 152 17 [a0, a1, some (.inl x)] (.inl x :: st) m := e_1 d152_16 (Or.inl rfl) rfl
theorem d152_17 : decode (mt 152).2.1 17 = .ok (.iload_n 1, 1) := by decide +kernel
theorem s152_17 {a0 a2 : Option AV} {st : List AV} {m : MM} {x : Int32} : go 152 17 [a0, some (.inl x), a2] st m = go 152 18 [a0, some (.inl x), a2] (.inl x :: st) m := e_1 d152_17 (Or.inl rfl) rfl
theorem d152_18 : decode (mt 152).2.1 18 = .ok (.if_icmp .ge 26, 3) := by decide +kernel
theorem s152_18 {ls : LV} {st : List AV} {m : MM} {a b : Int32} : go 152 18 ls (.inl b :: .inl a :: st) m = if b ≤ a then go 152 44 ls st m else go 152 21 ls st m := e_if (t := 44) (b := hc .ge a b) d152_18 (Or.inl rfl) (by simp only [xi, pI, jm_some (t := 44) (show ((18 : Nat) : Int) + 26 = ((44 : Nat) : Int) by decide), Option.bind_some]) (by simp [hc])
theorem d152_21 : decode (mt 152).2.1 21 = .ok (.aload_n 0, 1) := by decide +kernel
theorem s152_21 {a1 a2 : Option AV} {st : List AV} {m : MM} {x : Nat × Option Nat} : go 152 21 [some (.inr (.inr x)), a1, a2] st m = go 152 22 [some (.inr (.inr x)), a1, a2] (.inr (.inr x) :: st) m := e_1 d152_21 (Or.inl rfl) rfl
theorem d152_22 : decode (mt 152).2.1 22 = .ok (.invokevirtual 264, 3) := by decide +kernel
theorem s152_22 {ls : LV} {m : MM} {n : Nat} : go 152 22 ls [.inr (.inr (8, some n))] m = bd (go 151 0 [some (.inr (.inr (8, some n))), none] [] m) (fun v m2 => go 152 25 ls (v.toList ++ []) m2) := e_virt (y1 := 151) (na := 0) (as := []) (rest := []) d152_22 (by decide +kernel) rfl (by decide +kernel) (show (ent [.inr (.inr (8, some n))]).length ≤ (mt 151).2.2.2.1 from Nat.le_of_ble_eq_true rfl) (cats_le (Nat.le_of_ble_eq_true rfl)) (by decide +kernel)
theorem d152_25 : decode (mt 152).2.1 25 = .ok (.bipush (-4), 2) := by decide +kernel
theorem s152_25 {ls : LV} {st : List AV} {m : MM} : go 152 25 ls st m = go 152 27 ls (.inl (-4) :: st) m := e_1 d152_25 (Or.inl rfl) rfl
theorem d152_27 : decode (mt 152).2.1 27 = .ok (.if_icmp .eq 17, 3) := by decide +kernel
theorem s152_27 {ls : LV} {st : List AV} {m : MM} {a b : Int32} : go 152 27 ls (.inl b :: .inl a :: st) m = if a = b then go 152 44 ls st m else go 152 30 ls st m := e_if (t := 44) (b := hc .eq a b) d152_27 (Or.inl rfl) (by simp only [xi, pI, jm_some (t := 44) (show ((27 : Nat) : Int) + 17 = ((44 : Nat) : Int) by decide), Option.bind_some]) (by simp [hc])
theorem d152_30 : decode (mt 152).2.1 30 = .ok (.aload_n 0, 1) := by decide +kernel
theorem s152_30 {a1 a2 : Option AV} {st : List AV} {m : MM} {x : Nat × Option Nat} : go 152 30 [some (.inr (.inr x)), a1, a2] st m = go 152 31 [some (.inr (.inr x)), a1, a2] (.inr (.inr x) :: st) m := e_1 d152_30 (Or.inl rfl) rfl
theorem d152_31 : decode (mt 152).2.1 31 = .ok (.aload_n 0, 1) := by decide +kernel
theorem s152_31 {a1 a2 : Option AV} {st : List AV} {m : MM} {x : Nat × Option Nat} : go 152 31 [some (.inr (.inr x)), a1, a2] st m = go 152 32 [some (.inr (.inr x)), a1, a2] (.inr (.inr x) :: st) m := e_1 d152_31 (Or.inl rfl) rfl
theorem d152_32 : decode (mt 152).2.1 32 = .ok (.invokevirtual 264, 3) := by decide +kernel
theorem s152_32 {ls : LV} {m : MM} {w0 : AV} {n : Nat} : go 152 32 ls [.inr (.inr (8, some n)), w0] m = bd (go 151 0 [some (.inr (.inr (8, some n))), none] [] m) (fun v m2 => go 152 35 ls (v.toList ++ [w0]) m2) := e_virt (y1 := 151) (na := 0) (as := []) (rest := [w0]) d152_32 (by decide +kernel) rfl (by decide +kernel) (show (ent [.inr (.inr (8, some n))]).length ≤ (mt 151).2.2.2.1 from Nat.le_of_ble_eq_true rfl) (cats_le (Nat.le_of_ble_eq_true rfl)) (by decide +kernel)
theorem d152_35 : decode (mt 152).2.1 35 = .ok (.invokevirtual 259, 3) := by decide +kernel
theorem s152_35 {ls : LV} {m : MM} {x0 : Int32} {n : Nat} : go 152 35 ls [.inl x0, .inr (.inr (8, some n))] m = bd (go 149 0 [some (.inr (.inr (8, some n))), some (.inl x0), none, none, none, none, none, none, none] [] m) (fun v m2 => go 152 38 ls (v.toList ++ []) m2) := e_virt (y1 := 149) (na := 1) (as := [.inl x0]) (rest := []) d152_35 (by decide +kernel) rfl (by decide +kernel) (show (ent [.inr (.inr (8, some n)), .inl x0]).length ≤ (mt 149).2.2.2.1 from Nat.le_of_ble_eq_true rfl) (cats_le (Nat.le_of_ble_eq_true rfl)) (by decide +kernel)
theorem d152_38 : decode (mt 152).2.1 38 = .ok (.iinc 2 1, 3) := by decide +kernel
theorem s152_38i {a0 : Option AV} {z : Int32} {st : List AV} {m : MM} {x : Int32} : go 152 38 [a0, some (.inl z), some (.inl x)] st m = go 152 41 [a0, some (.inl z), some (.inl (x + 1))] st m := e_1 d152_38 (Or.inl rfl) rfl
theorem s152_38r {a0 : Option AV} {z : Nat × Option Nat} {st : List AV} {m : MM} {x : Int32} : go 152 38 [a0, some (.inr (.inr z)), some (.inl x)] st m = go 152 41 [a0, some (.inr (.inr z)), some (.inl (x + 1))] st m := e_1 d152_38 (Or.inl rfl) rfl
theorem s152_38n {a0 : Option AV} {st : List AV} {m : MM} {x : Int32} : go 152 38 [a0, none, some (.inl x)] st m = go 152 41 [a0, none, some (.inl (x + 1))] st m := e_1 d152_38 (Or.inl rfl) rfl
theorem d152_41 : decode (mt 152).2.1 41 = .ok (.goto (-25), 3) := by decide +kernel
theorem s152_41 {ls : LV} {st : List AV} {m : MM} : go 152 41 ls st m = go 152 16 ls st m := e_1 d152_41 (Or.inl rfl) (by rw [xi, jm_some (t := 16) (by decide)]; rfl)
theorem d152_44 : decode (mt 152).2.1 44 = .ok (.iload_n 2, 1) := by decide +kernel
theorem s152_44 {a0 a1 : Option AV} {st : List AV} {m : MM} {x : Int32} : go 152 44 [a0, a1, some (.inl x)] st m = go 152 45 [a0, a1, some (.inl x)] (.inl x :: st) m := e_1 d152_44 (Or.inl rfl) rfl
theorem d152_45 : decode (mt 152).2.1 45 = .ok (.ireturn, 1) := by decide +kernel
theorem s152_45 {ls : LV} {m : MM} {x : Int32} : go 152 45 ls [.inl x] m = some (some (.inl x), m) := e_int d152_45 (by decide +kernel)
/-! X7_message: 153 -/
theorem d153_0 : decode (mt 153).2.1 0 = .ok (.iload_n 1, 1) := by decide +kernel
theorem s153_0 {a0 a2 : Option AV} {st : List AV} {m : MM} {x : Int32} : go 153 0 [a0, some (.inl x), a2] st m = go 153 1 [a0, some (.inl x), a2] (.inl x :: st) m := e_1 d153_0 (Or.inl rfl) rfl
theorem d153_1 : decode (mt 153).2.1 1 = .ok (.i2l, 1) := by decide +kernel
theorem s153_1 {ls : LV} {st : List AV} {m : MM} {a : Int32} : go 153 1 ls (.inl a :: st) m = go 153 2 ls (.inr (.inl a.toInt64) :: st) m := e_1 d153_1 (Or.inl rfl) rfl
theorem d153_2 : decode (mt 153).2.1 2 = .ok (.lconst 0, 1) := by decide +kernel
theorem s153_2 {ls : LV} {st : List AV} {m : MM} : go 153 2 ls st m = go 153 3 ls (.inr (.inl 0) :: st) m := e_1 d153_2 (Or.inl rfl) rfl
theorem d153_3 : decode (mt 153).2.1 3 = .ok (.aload_n 0, 1) := by decide +kernel
theorem s153_3 {a1 a2 : Option AV} {st : List AV} {m : MM} {x : Nat × Option Nat} : go 153 3 [some (.inr (.inr x)), a1, a2] st m = go 153 4 [some (.inr (.inr x)), a1, a2] (.inr (.inr x) :: st) m := e_1 d153_3 (Or.inl rfl) rfl
theorem d153_4 : decode (mt 153).2.1 4 = .ok (.getfield 140, 3) := by decide +kernel
theorem s153_4 {ls : LV} {st : List AV} {m : MM} {n : Nat} : go 153 4 ls (.inr (.inr (8, some n)) :: st) m = go 153 7 ls (.inl (mI m 8 n 30) :: st) m := e_1 d153_4 (Or.inl rfl) (by rw [xi, pA, show lk fdL (mt 153).2.2.1 140 = some (8, 30) by decide +kernel]; rfl)
theorem d153_7 : decode (mt 153).2.1 7 = .ok (.iconst 1, 1) := by decide +kernel
theorem s153_7 {ls : LV} {st : List AV} {m : MM} : go 153 7 ls st m = go 153 8 ls (.inl 1 :: st) m := e_1 d153_7 (Or.inl rfl) rfl
theorem d153_8 : decode (mt 153).2.1 8 = .ok (.isub, 1) := by decide +kernel
theorem s153_8 {ls : LV} {st : List AV} {m : MM} {a b : Int32} : go 153 8 ls (.inl b :: .inl a :: st) m = go 153 9 ls (.inl (a - b) :: st) m := e_1 d153_8 (Or.inl rfl) rfl
theorem d153_9 : decode (mt 153).2.1 9 = .ok (.i2l, 1) := by decide +kernel
theorem s153_9 {ls : LV} {st : List AV} {m : MM} {a : Int32} : go 153 9 ls (.inl a :: st) m = go 153 10 ls (.inr (.inl a.toInt64) :: st) m := e_1 d153_9 (Or.inl rfl) rfl
theorem d153_10 : decode (mt 153).2.1 10 = .ok (.invokestatic 118, 3) := by decide +kernel
theorem s153_10 {ls : LV} {m : MM} {x0 : Int64} {x1 : Int64} {x2 : Int64} : go 153 10 ls [.inr (.inl x2), .inr (.inl x1), .inr (.inl x0)] m = bd (go 103 0 [some (.inr (.inl x0)), none, some (.inr (.inl x1)), none, some (.inr (.inl x2)), none] [] m) (fun v m2 => go 153 13 ls (v.toList ++ []) m2) := e_stat (y1 := 103) (na := 3) (as := [.inr (.inl x0), .inr (.inl x1), .inr (.inl x2)]) (rest := []) d153_10 (by decide +kernel) rfl (by decide +kernel) (show (ent [.inr (.inl x0), .inr (.inl x1), .inr (.inl x2)]).length ≤ (mt 103).2.2.2.1 from Nat.le_of_ble_eq_true rfl) (cats_le (Nat.le_of_ble_eq_true rfl)) (by decide +kernel)
theorem d153_13 : decode (mt 153).2.1 13 = .ok (.ifCond .ne 5, 3) := by decide +kernel
theorem s153_13 {ls : LV} {st : List AV} {m : MM} {a : Int32} : go 153 13 ls (.inl a :: st) m = if ¬ a = 0 then go 153 18 ls st m else go 153 16 ls st m := e_if (t := 18) (b := hc .ne a 0) d153_13 (Or.inl rfl) (by simp only [xi, pI, jm_some (t := 18) (show ((13 : Nat) : Int) + 5 = ((18 : Nat) : Int) by decide), Option.bind_some]) (by simp [hc])
theorem d153_16 : decode (mt 153).2.1 16 = .ok (.iconst (-1), 1) := by decide +kernel
theorem s153_16 {ls : LV} {st : List AV} {m : MM} : go 153 16 ls st m = go 153 17 ls (.inl (-1) :: st) m := e_1 d153_16 (Or.inl rfl) rfl
theorem d153_17 : decode (mt 153).2.1 17 = .ok (.ireturn, 1) := by decide +kernel
theorem s153_17 {ls : LV} {m : MM} {x : Int32} : go 153 17 ls [.inl x] m = some (some (.inl x), m) := e_int d153_17 (by decide +kernel)
theorem d153_18 : decode (mt 153).2.1 18 = .ok (.iload_n 2, 1) := by decide +kernel
theorem s153_18 {a0 a1 : Option AV} {st : List AV} {m : MM} {x : Int32} : go 153 18 [a0, a1, some (.inl x)] st m = go 153 19 [a0, a1, some (.inl x)] (.inl x :: st) m := e_1 d153_18 (Or.inl rfl) rfl
theorem d153_19 : decode (mt 153).2.1 19 = .ok (.tableswitch 57 0 3 #[29, 36, 43, 50], 29) := by decide +kernel
theorem s153_19_0 {ls : LV} {st : List AV} {m : MM} : go 153 19 ls (.inl 0 :: st) m = go 153 48 ls st m := e_1 d153_19 (Or.inr rfl) (by rw [xi]; rfl)
theorem s153_19_1 {ls : LV} {st : List AV} {m : MM} : go 153 19 ls (.inl 1 :: st) m = go 153 55 ls st m := e_1 d153_19 (Or.inr rfl) (by rw [xi]; rfl)
theorem s153_19_2 {ls : LV} {st : List AV} {m : MM} : go 153 19 ls (.inl 2 :: st) m = go 153 62 ls st m := e_1 d153_19 (Or.inr rfl) (by rw [xi]; rfl)
theorem s153_19_3 {ls : LV} {st : List AV} {m : MM} : go 153 19 ls (.inl 3 :: st) m = go 153 69 ls st m := e_1 d153_19 (Or.inr rfl) (by rw [xi]; rfl)
theorem s153_19_d {ls : LV} {st : List AV} {m : MM} {a : Int32} (h : a.toInt < 0 ∨ 3 < a.toInt) : go 153 19 ls (.inl a :: st) m = go 153 76 ls st m := e_1 d153_19 (Or.inr rfl) (by simp only [xi, pI, if_pos h, jm_some (t := 76) (show ((19 : Nat) : Int) + 57 = ((76 : Nat) : Int) by decide), Option.bind_some]; rw [if_pos (by omega)])
theorem d153_48 : decode (mt 153).2.1 48 = .ok (.aload_n 0, 1) := by decide +kernel
theorem s153_48 {a1 a2 : Option AV} {st : List AV} {m : MM} {x : Nat × Option Nat} : go 153 48 [some (.inr (.inr x)), a1, a2] st m = go 153 49 [some (.inr (.inr x)), a1, a2] (.inr (.inr x) :: st) m := e_1 d153_48 (Or.inl rfl) rfl
theorem d153_49 : decode (mt 153).2.1 49 = .ok (.getfield 88, 3) := by decide +kernel
theorem s153_49 {ls : LV} {st : List AV} {m : MM} {n : Nat} : go 153 49 ls (.inr (.inr (8, some n)) :: st) m = go 153 52 ls (.inr (.inr (43, mR m 8 n 31)) :: st) m := e_1 d153_49 (Or.inl rfl) (by rw [xi, pA, show lk fdL (mt 153).2.2.1 88 = some (8, 31) by decide +kernel]; rfl)
theorem d153_52 : decode (mt 153).2.1 52 = .ok (.iload_n 1, 1) := by decide +kernel
theorem s153_52 {a0 a2 : Option AV} {st : List AV} {m : MM} {x : Int32} : go 153 52 [a0, some (.inl x), a2] st m = go 153 53 [a0, some (.inl x), a2] (.inl x :: st) m := e_1 d153_52 (Or.inl rfl) rfl
theorem d153_53 : decode (mt 153).2.1 53 = .ok (.iaload, 1) := by decide +kernel
theorem s153_53 {ls : LV} {st : List AV} {m : MM} {n : Nat} {i : Int32} : go 153 53 ls (.inl i :: .inr (.inr (43, some n)) :: st) m = ixk (ix i (mN m 43 n)) (fun j => go 153 54 ls (.inl (mI m 43 n j) :: st) m) := e_ald d153_53 (fun j hj => by simp only [xi, pI, pA, hj, Option.bind_some]; rfl) (fun hj => by simp only [xi, pI, pA, hj, Option.bind_none])
theorem d153_54 : decode (mt 153).2.1 54 = .ok (.ireturn, 1) := by decide +kernel
theorem s153_54 {ls : LV} {m : MM} {x : Int32} : go 153 54 ls [.inl x] m = some (some (.inl x), m) := e_int d153_54 (by decide +kernel)
theorem d153_55 : decode (mt 153).2.1 55 = .ok (.aload_n 0, 1) := by decide +kernel
theorem s153_55 {a1 a2 : Option AV} {st : List AV} {m : MM} {x : Nat × Option Nat} : go 153 55 [some (.inr (.inr x)), a1, a2] st m = go 153 56 [some (.inr (.inr x)), a1, a2] (.inr (.inr x) :: st) m := e_1 d153_55 (Or.inl rfl) rfl
theorem d153_56 : decode (mt 153).2.1 56 = .ok (.getfield 91, 3) := by decide +kernel
theorem s153_56 {ls : LV} {st : List AV} {m : MM} {n : Nat} : go 153 56 ls (.inr (.inr (8, some n)) :: st) m = go 153 59 ls (.inr (.inr (44, mR m 8 n 32)) :: st) m := e_1 d153_56 (Or.inl rfl) (by rw [xi, pA, show lk fdL (mt 153).2.2.1 91 = some (8, 32) by decide +kernel]; rfl)
theorem d153_59 : decode (mt 153).2.1 59 = .ok (.iload_n 1, 1) := by decide +kernel
theorem s153_59 {a0 a2 : Option AV} {st : List AV} {m : MM} {x : Int32} : go 153 59 [a0, some (.inl x), a2] st m = go 153 60 [a0, some (.inl x), a2] (.inl x :: st) m := e_1 d153_59 (Or.inl rfl) rfl
theorem d153_60 : decode (mt 153).2.1 60 = .ok (.iaload, 1) := by decide +kernel
theorem s153_60 {ls : LV} {st : List AV} {m : MM} {n : Nat} {i : Int32} : go 153 60 ls (.inl i :: .inr (.inr (44, some n)) :: st) m = ixk (ix i (mN m 44 n)) (fun j => go 153 61 ls (.inl (mI m 44 n j) :: st) m) := e_ald d153_60 (fun j hj => by simp only [xi, pI, pA, hj, Option.bind_some]; rfl) (fun hj => by simp only [xi, pI, pA, hj, Option.bind_none])
theorem d153_61 : decode (mt 153).2.1 61 = .ok (.ireturn, 1) := by decide +kernel
theorem s153_61 {ls : LV} {m : MM} {x : Int32} : go 153 61 ls [.inl x] m = some (some (.inl x), m) := e_int d153_61 (by decide +kernel)
theorem d153_62 : decode (mt 153).2.1 62 = .ok (.aload_n 0, 1) := by decide +kernel
theorem s153_62 {a1 a2 : Option AV} {st : List AV} {m : MM} {x : Nat × Option Nat} : go 153 62 [some (.inr (.inr x)), a1, a2] st m = go 153 63 [some (.inr (.inr x)), a1, a2] (.inr (.inr x) :: st) m := e_1 d153_62 (Or.inl rfl) rfl
theorem d153_63 : decode (mt 153).2.1 63 = .ok (.getfield 94, 3) := by decide +kernel
theorem s153_63 {ls : LV} {st : List AV} {m : MM} {n : Nat} : go 153 63 ls (.inr (.inr (8, some n)) :: st) m = go 153 66 ls (.inr (.inr (45, mR m 8 n 33)) :: st) m := e_1 d153_63 (Or.inl rfl) (by rw [xi, pA, show lk fdL (mt 153).2.2.1 94 = some (8, 33) by decide +kernel]; rfl)
theorem d153_66 : decode (mt 153).2.1 66 = .ok (.iload_n 1, 1) := by decide +kernel
theorem s153_66 {a0 a2 : Option AV} {st : List AV} {m : MM} {x : Int32} : go 153 66 [a0, some (.inl x), a2] st m = go 153 67 [a0, some (.inl x), a2] (.inl x :: st) m := e_1 d153_66 (Or.inl rfl) rfl
theorem d153_67 : decode (mt 153).2.1 67 = .ok (.iaload, 1) := by decide +kernel
theorem s153_67 {ls : LV} {st : List AV} {m : MM} {n : Nat} {i : Int32} : go 153 67 ls (.inl i :: .inr (.inr (45, some n)) :: st) m = ixk (ix i (mN m 45 n)) (fun j => go 153 68 ls (.inl (mI m 45 n j) :: st) m) := e_ald d153_67 (fun j hj => by simp only [xi, pI, pA, hj, Option.bind_some]; rfl) (fun hj => by simp only [xi, pI, pA, hj, Option.bind_none])
theorem d153_68 : decode (mt 153).2.1 68 = .ok (.ireturn, 1) := by decide +kernel
theorem s153_68 {ls : LV} {m : MM} {x : Int32} : go 153 68 ls [.inl x] m = some (some (.inl x), m) := e_int d153_68 (by decide +kernel)
theorem d153_69 : decode (mt 153).2.1 69 = .ok (.aload_n 0, 1) := by decide +kernel
theorem s153_69 {a1 a2 : Option AV} {st : List AV} {m : MM} {x : Nat × Option Nat} : go 153 69 [some (.inr (.inr x)), a1, a2] st m = go 153 70 [some (.inr (.inr x)), a1, a2] (.inr (.inr x) :: st) m := e_1 d153_69 (Or.inl rfl) rfl
theorem d153_70 : decode (mt 153).2.1 70 = .ok (.getfield 97, 3) := by decide +kernel
theorem s153_70 {ls : LV} {st : List AV} {m : MM} {n : Nat} : go 153 70 ls (.inr (.inr (8, some n)) :: st) m = go 153 73 ls (.inr (.inr (46, mR m 8 n 34)) :: st) m := e_1 d153_70 (Or.inl rfl) (by rw [xi, pA, show lk fdL (mt 153).2.2.1 97 = some (8, 34) by decide +kernel]; rfl)
theorem d153_73 : decode (mt 153).2.1 73 = .ok (.iload_n 1, 1) := by decide +kernel
theorem s153_73 {a0 a2 : Option AV} {st : List AV} {m : MM} {x : Int32} : go 153 73 [a0, some (.inl x), a2] st m = go 153 74 [a0, some (.inl x), a2] (.inl x :: st) m := e_1 d153_73 (Or.inl rfl) rfl
theorem d153_74 : decode (mt 153).2.1 74 = .ok (.iaload, 1) := by decide +kernel
theorem s153_74 {ls : LV} {st : List AV} {m : MM} {n : Nat} {i : Int32} : go 153 74 ls (.inl i :: .inr (.inr (46, some n)) :: st) m = ixk (ix i (mN m 46 n)) (fun j => go 153 75 ls (.inl (mI m 46 n j) :: st) m) := e_ald d153_74 (fun j hj => by simp only [xi, pI, pA, hj, Option.bind_some]; rfl) (fun hj => by simp only [xi, pI, pA, hj, Option.bind_none])
theorem d153_75 : decode (mt 153).2.1 75 = .ok (.ireturn, 1) := by decide +kernel
theorem s153_75 {ls : LV} {m : MM} {x : Int32} : go 153 75 ls [.inl x] m = some (some (.inl x), m) := e_int d153_75 (by decide +kernel)
theorem d153_76 : decode (mt 153).2.1 76 = .ok (.iconst (-1), 1) := by decide +kernel
theorem s153_76 {ls : LV} {st : List AV} {m : MM} : go 153 76 ls st m = go 153 77 ls (.inl (-1) :: st) m := e_1 d153_76 (Or.inl rfl) rfl
theorem d153_77 : decode (mt 153).2.1 77 = .ok (.ireturn, 1) := by decide +kernel
theorem s153_77 {ls : LV} {m : MM} {x : Int32} : go 153 77 ls [.inl x] m = some (some (.inl x), m) := e_int d153_77 (by decide +kernel)
/-! X7_told: 154 -/
theorem d154_0 : decode (mt 154).2.1 0 = .ok (.aload_n 0, 1) := by decide +kernel
theorem s154_0 {a1 a2 a3 a4 : Option AV} {st : List AV} {m : MM} {x : Nat × Option Nat} : go 154 0 [some (.inr (.inr x)), a1, a2, a3, a4] st m = go 154 1 [some (.inr (.inr x)), a1, a2, a3, a4] (.inr (.inr x) :: st) m := e_1 d154_0 (Or.inl rfl) rfl
theorem d154_1 : decode (mt 154).2.1 1 = .ok (.iload_n 1, 1) := by decide +kernel
theorem s154_1 {a0 a2 a3 a4 : Option AV} {st : List AV} {m : MM} {x : Int32} : go 154 1 [a0, some (.inl x), a2, a3, a4] st m = go 154 2 [a0, some (.inl x), a2, a3, a4] (.inl x :: st) m := e_1 d154_1 (Or.inl rfl) rfl
theorem d154_2 : decode (mt 154).2.1 2 = .ok (.invokevirtual 203, 3) := by decide +kernel
theorem s154_2 {ls : LV} {m : MM} {x0 : Int32} {n : Nat} : go 154 2 ls [.inl x0, .inr (.inr (8, some n))] m = bd (go 104 0 [some (.inr (.inr (8, some n))), some (.inl x0)] [] m) (fun v m2 => go 154 5 ls (v.toList ++ []) m2) := e_virt (y1 := 104) (na := 1) (as := [.inl x0]) (rest := []) d154_2 (by decide +kernel) rfl (by decide +kernel) (show (ent [.inr (.inr (8, some n)), .inl x0]).length ≤ (mt 104).2.2.2.1 from Nat.le_of_ble_eq_true rfl) (cats_le (Nat.le_of_ble_eq_true rfl)) (by decide +kernel)
theorem d154_5 : decode (mt 154).2.1 5 = .ok (.ifCond .ne 5, 3) := by decide +kernel
theorem s154_5 {ls : LV} {st : List AV} {m : MM} {a : Int32} : go 154 5 ls (.inl a :: st) m = if ¬ a = 0 then go 154 10 ls st m else go 154 8 ls st m := e_if (t := 10) (b := hc .ne a 0) d154_5 (Or.inl rfl) (by simp only [xi, pI, jm_some (t := 10) (show ((5 : Nat) : Int) + 5 = ((10 : Nat) : Int) by decide), Option.bind_some]) (by simp [hc])
theorem d154_8 : decode (mt 154).2.1 8 = .ok (.iconst (-1), 1) := by decide +kernel
theorem s154_8 {ls : LV} {st : List AV} {m : MM} : go 154 8 ls st m = go 154 9 ls (.inl (-1) :: st) m := e_1 d154_8 (Or.inl rfl) rfl
theorem d154_9 : decode (mt 154).2.1 9 = .ok (.ireturn, 1) := by decide +kernel
theorem s154_9 {ls : LV} {m : MM} {x : Int32} : go 154 9 ls [.inl x] m = some (some (.inl x), m) := e_int d154_9 (by decide +kernel)
theorem d154_10 : decode (mt 154).2.1 10 = .ok (.iload_n 2, 1) := by decide +kernel
theorem s154_10 {a0 a1 a3 a4 : Option AV} {st : List AV} {m : MM} {x : Int32} : go 154 10 [a0, a1, some (.inl x), a3, a4] st m = go 154 11 [a0, a1, some (.inl x), a3, a4] (.inl x :: st) m := e_1 d154_10 (Or.inl rfl) rfl
theorem d154_11 : decode (mt 154).2.1 11 = .ok (.tableswitch 104 0 4 #[33, 40, 47, 90, 97], 33) := by decide +kernel
theorem s154_11_0 {ls : LV} {st : List AV} {m : MM} : go 154 11 ls (.inl 0 :: st) m = go 154 44 ls st m := e_1 d154_11 (Or.inr rfl) (by rw [xi]; rfl)
theorem s154_11_1 {ls : LV} {st : List AV} {m : MM} : go 154 11 ls (.inl 1 :: st) m = go 154 51 ls st m := e_1 d154_11 (Or.inr rfl) (by rw [xi]; rfl)
theorem s154_11_2 {ls : LV} {st : List AV} {m : MM} : go 154 11 ls (.inl 2 :: st) m = go 154 58 ls st m := e_1 d154_11 (Or.inr rfl) (by rw [xi]; rfl)
theorem s154_11_3 {ls : LV} {st : List AV} {m : MM} : go 154 11 ls (.inl 3 :: st) m = go 154 101 ls st m := e_1 d154_11 (Or.inr rfl) (by rw [xi]; rfl)
theorem s154_11_4 {ls : LV} {st : List AV} {m : MM} : go 154 11 ls (.inl 4 :: st) m = go 154 108 ls st m := e_1 d154_11 (Or.inr rfl) (by rw [xi]; rfl)
theorem s154_11_d {ls : LV} {st : List AV} {m : MM} {a : Int32} (h : a.toInt < 0 ∨ 4 < a.toInt) : go 154 11 ls (.inl a :: st) m = go 154 115 ls st m := e_1 d154_11 (Or.inr rfl) (by simp only [xi, pI, if_pos h, jm_some (t := 115) (show ((11 : Nat) : Int) + 104 = ((115 : Nat) : Int) by decide), Option.bind_some]; rw [if_pos (by omega)])
theorem d154_44 : decode (mt 154).2.1 44 = .ok (.aload_n 0, 1) := by decide +kernel
theorem s154_44 {a1 a2 a3 a4 : Option AV} {st : List AV} {m : MM} {x : Nat × Option Nat} : go 154 44 [some (.inr (.inr x)), a1, a2, a3, a4] st m = go 154 45 [some (.inr (.inr x)), a1, a2, a3, a4] (.inr (.inr x) :: st) m := e_1 d154_44 (Or.inl rfl) rfl
theorem d154_45 : decode (mt 154).2.1 45 = .ok (.getfield 20, 3) := by decide +kernel
theorem s154_45 {ls : LV} {st : List AV} {m : MM} {n : Nat} : go 154 45 ls (.inr (.inr (8, some n)) :: st) m = go 154 48 ls (.inr (.inr (21, mR m 8 n 4)) :: st) m := e_1 d154_45 (Or.inl rfl) (by rw [xi, pA, show lk fdL (mt 154).2.2.1 20 = some (8, 4) by decide +kernel]; rfl)
theorem d154_48 : decode (mt 154).2.1 48 = .ok (.iload_n 1, 1) := by decide +kernel
theorem s154_48 {a0 a2 a3 a4 : Option AV} {st : List AV} {m : MM} {x : Int32} : go 154 48 [a0, some (.inl x), a2, a3, a4] st m = go 154 49 [a0, some (.inl x), a2, a3, a4] (.inl x :: st) m := e_1 d154_48 (Or.inl rfl) rfl
theorem d154_49 : decode (mt 154).2.1 49 = .ok (.iaload, 1) := by decide +kernel
theorem s154_49 {ls : LV} {st : List AV} {m : MM} {n : Nat} {i : Int32} : go 154 49 ls (.inl i :: .inr (.inr (21, some n)) :: st) m = ixk (ix i (mN m 21 n)) (fun j => go 154 50 ls (.inl (mI m 21 n j) :: st) m) := e_ald d154_49 (fun j hj => by simp only [xi, pI, pA, hj, Option.bind_some]; rfl) (fun hj => by simp only [xi, pI, pA, hj, Option.bind_none])
theorem d154_50 : decode (mt 154).2.1 50 = .ok (.ireturn, 1) := by decide +kernel
theorem s154_50 {ls : LV} {m : MM} {x : Int32} : go 154 50 ls [.inl x] m = some (some (.inl x), m) := e_int d154_50 (by decide +kernel)
theorem d154_51 : decode (mt 154).2.1 51 = .ok (.aload_n 0, 1) := by decide +kernel
theorem s154_51 {a1 a2 a3 a4 : Option AV} {st : List AV} {m : MM} {x : Nat × Option Nat} : go 154 51 [some (.inr (.inr x)), a1, a2, a3, a4] st m = go 154 52 [some (.inr (.inr x)), a1, a2, a3, a4] (.inr (.inr x) :: st) m := e_1 d154_51 (Or.inl rfl) rfl
theorem d154_52 : decode (mt 154).2.1 52 = .ok (.getfield 17, 3) := by decide +kernel
theorem s154_52 {ls : LV} {st : List AV} {m : MM} {n : Nat} : go 154 52 ls (.inr (.inr (8, some n)) :: st) m = go 154 55 ls (.inr (.inr (20, mR m 8 n 3)) :: st) m := e_1 d154_52 (Or.inl rfl) (by rw [xi, pA, show lk fdL (mt 154).2.2.1 17 = some (8, 3) by decide +kernel]; rfl)
theorem d154_55 : decode (mt 154).2.1 55 = .ok (.iload_n 1, 1) := by decide +kernel
theorem s154_55 {a0 a2 a3 a4 : Option AV} {st : List AV} {m : MM} {x : Int32} : go 154 55 [a0, some (.inl x), a2, a3, a4] st m = go 154 56 [a0, some (.inl x), a2, a3, a4] (.inl x :: st) m := e_1 d154_55 (Or.inl rfl) rfl
theorem d154_56 : decode (mt 154).2.1 56 = .ok (.iaload, 1) := by decide +kernel
theorem s154_56 {ls : LV} {st : List AV} {m : MM} {n : Nat} {i : Int32} : go 154 56 ls (.inl i :: .inr (.inr (20, some n)) :: st) m = ixk (ix i (mN m 20 n)) (fun j => go 154 57 ls (.inl (mI m 20 n j) :: st) m) := e_ald d154_56 (fun j hj => by simp only [xi, pI, pA, hj, Option.bind_some]; rfl) (fun hj => by simp only [xi, pI, pA, hj, Option.bind_none])
theorem d154_57 : decode (mt 154).2.1 57 = .ok (.ireturn, 1) := by decide +kernel
theorem s154_57 {ls : LV} {m : MM} {x : Int32} : go 154 57 ls [.inl x] m = some (some (.inl x), m) := e_int d154_57 (by decide +kernel)
theorem d154_58 : decode (mt 154).2.1 58 = .ok (.iconst 0, 1) := by decide +kernel
theorem s154_58 {ls : LV} {st : List AV} {m : MM} : go 154 58 ls st m = go 154 59 ls (.inl 0 :: st) m := e_1 d154_58 (Or.inl rfl) rfl
theorem d154_59 : decode (mt 154).2.1 59 = .ok (.istore_n 3, 1) := by decide +kernel
theorem s154_59i {a0 a1 a3 a4 : Option AV} {z : Int32} {st : List AV} {m : MM} {x : Int32} : go 154 59 [a0, a1, some (.inl z), a3, a4] (.inl x :: st) m = go 154 60 [a0, a1, some (.inl z), some (.inl x), a4] st m := e_1 d154_59 (Or.inl rfl) rfl
theorem s154_59r {a0 a1 a3 a4 : Option AV} {z : Nat × Option Nat} {st : List AV} {m : MM} {x : Int32} : go 154 59 [a0, a1, some (.inr (.inr z)), a3, a4] (.inl x :: st) m = go 154 60 [a0, a1, some (.inr (.inr z)), some (.inl x), a4] st m := e_1 d154_59 (Or.inl rfl) rfl
theorem s154_59n {a0 a1 a3 a4 : Option AV} {st : List AV} {m : MM} {x : Int32} : go 154 59 [a0, a1, none, a3, a4] (.inl x :: st) m = go 154 60 [a0, a1, none, some (.inl x), a4] st m := e_1 d154_59 (Or.inl rfl) rfl
theorem d154_60 : decode (mt 154).2.1 60 = .ok (.iconst 0, 1) := by decide +kernel
theorem s154_60 {ls : LV} {st : List AV} {m : MM} : go 154 60 ls st m = go 154 61 ls (.inl 0 :: st) m := e_1 d154_60 (Or.inl rfl) rfl
theorem d154_61 : decode (mt 154).2.1 61 = .ok (.istore 4, 2) := by decide +kernel
theorem s154_61i {a0 a1 a2 a4 : Option AV} {z : Int32} {st : List AV} {m : MM} {x : Int32} : go 154 61 [a0, a1, a2, some (.inl z), a4] (.inl x :: st) m = go 154 63 [a0, a1, a2, some (.inl z), some (.inl x)] st m := e_1 d154_61 (Or.inl rfl) rfl
theorem s154_61r {a0 a1 a2 a4 : Option AV} {z : Nat × Option Nat} {st : List AV} {m : MM} {x : Int32} : go 154 61 [a0, a1, a2, some (.inr (.inr z)), a4] (.inl x :: st) m = go 154 63 [a0, a1, a2, some (.inr (.inr z)), some (.inl x)] st m := e_1 d154_61 (Or.inl rfl) rfl
theorem s154_61n {a0 a1 a2 a4 : Option AV} {st : List AV} {m : MM} {x : Int32} : go 154 61 [a0, a1, a2, none, a4] (.inl x :: st) m = go 154 63 [a0, a1, a2, none, some (.inl x)] st m := e_1 d154_61 (Or.inl rfl) rfl
theorem d154_63 : decode (mt 154).2.1 63 = .ok (.iload 4, 2) := by decide +kernel
theorem s154_63 {a0 a1 a2 a3 : Option AV} {st : List AV} {m : MM} {x : Int32} : go 154 63 [a0, a1, a2, a3, some (.inl x)] st m = go 154 65 [a0, a1, a2, a3, some (.inl x)] (.inl x :: st) m := e_1 d154_63 (Or.inl rfl) rfl
theorem d154_65 : decode (mt 154).2.1 65 = .ok (.bipush 9, 2) := by decide +kernel
theorem s154_65 {ls : LV} {st : List AV} {m : MM} : go 154 65 ls st m = go 154 67 ls (.inl 9 :: st) m := e_1 d154_65 (Or.inl rfl) rfl
theorem d154_67 : decode (mt 154).2.1 67 = .ok (.if_icmp .ge 32, 3) := by decide +kernel
theorem s154_67 {ls : LV} {st : List AV} {m : MM} {a b : Int32} : go 154 67 ls (.inl b :: .inl a :: st) m = if b ≤ a then go 154 99 ls st m else go 154 70 ls st m := e_if (t := 99) (b := hc .ge a b) d154_67 (Or.inl rfl) (by simp only [xi, pI, jm_some (t := 99) (show ((67 : Nat) : Int) + 32 = ((99 : Nat) : Int) by decide), Option.bind_some]) (by simp [hc])
theorem d154_70 : decode (mt 154).2.1 70 = .ok (.iload_n 3, 1) := by decide +kernel
theorem s154_70 {a0 a1 a2 a4 : Option AV} {st : List AV} {m : MM} {x : Int32} : go 154 70 [a0, a1, a2, some (.inl x), a4] st m = go 154 71 [a0, a1, a2, some (.inl x), a4] (.inl x :: st) m := e_1 d154_70 (Or.inl rfl) rfl
theorem d154_71 : decode (mt 154).2.1 71 = .ok (.aload_n 0, 1) := by decide +kernel
theorem s154_71 {a1 a2 a3 a4 : Option AV} {st : List AV} {m : MM} {x : Nat × Option Nat} : go 154 71 [some (.inr (.inr x)), a1, a2, a3, a4] st m = go 154 72 [some (.inr (.inr x)), a1, a2, a3, a4] (.inr (.inr x) :: st) m := e_1 d154_71 (Or.inl rfl) rfl
theorem d154_72 : decode (mt 154).2.1 72 = .ok (.getfield 26, 3) := by decide +kernel
theorem s154_72 {ls : LV} {st : List AV} {m : MM} {n : Nat} : go 154 72 ls (.inr (.inr (8, some n)) :: st) m = go 154 75 ls (.inr (.inr (23, mR m 8 n 6)) :: st) m := e_1 d154_72 (Or.inl rfl) (by rw [xi, pA, show lk fdL (mt 154).2.2.1 26 = some (8, 6) by decide +kernel]; rfl)
theorem d154_75 : decode (mt 154).2.1 75 = .ok (.bipush 9, 2) := by decide +kernel
theorem s154_75 {ls : LV} {st : List AV} {m : MM} : go 154 75 ls st m = go 154 77 ls (.inl 9 :: st) m := e_1 d154_75 (Or.inl rfl) rfl
theorem d154_77 : decode (mt 154).2.1 77 = .ok (.iload_n 1, 1) := by decide +kernel
theorem s154_77 {a0 a2 a3 a4 : Option AV} {st : List AV} {m : MM} {x : Int32} : go 154 77 [a0, some (.inl x), a2, a3, a4] st m = go 154 78 [a0, some (.inl x), a2, a3, a4] (.inl x :: st) m := e_1 d154_77 (Or.inl rfl) rfl
theorem d154_78 : decode (mt 154).2.1 78 = .ok (.imul, 1) := by decide +kernel
theorem s154_78 {ls : LV} {st : List AV} {m : MM} {a b : Int32} : go 154 78 ls (.inl b :: .inl a :: st) m = go 154 79 ls (.inl (a * b) :: st) m := e_1 d154_78 (Or.inl rfl) rfl
theorem d154_79 : decode (mt 154).2.1 79 = .ok (.iload 4, 2) := by decide +kernel
theorem s154_79 {a0 a1 a2 a3 : Option AV} {st : List AV} {m : MM} {x : Int32} : go 154 79 [a0, a1, a2, a3, some (.inl x)] st m = go 154 81 [a0, a1, a2, a3, some (.inl x)] (.inl x :: st) m := e_1 d154_79 (Or.inl rfl) rfl
theorem d154_81 : decode (mt 154).2.1 81 = .ok (.iadd, 1) := by decide +kernel
theorem s154_81 {ls : LV} {st : List AV} {m : MM} {a b : Int32} : go 154 81 ls (.inl b :: .inl a :: st) m = go 154 82 ls (.inl (a + b) :: st) m := e_1 d154_81 (Or.inl rfl) rfl
theorem d154_82 : decode (mt 154).2.1 82 = .ok (.baload, 1) := by decide +kernel
theorem s154_82 {ls : LV} {st : List AV} {m : MM} {n : Nat} {i : Int32} : go 154 82 ls (.inl i :: .inr (.inr (23, some n)) :: st) m = ixk (ix i (mN m 23 n)) (fun j => go 154 83 ls (.inl (mI m 23 n j) :: st) m) := e_ald d154_82 (fun j hj => by simp only [xi, pI, pA, hj, Option.bind_some]; rfl) (fun hj => by simp only [xi, pI, pA, hj, Option.bind_none])
theorem d154_83 : decode (mt 154).2.1 83 = .ok (.ifCond .eq 7, 3) := by decide +kernel
theorem s154_83 {ls : LV} {st : List AV} {m : MM} {a : Int32} : go 154 83 ls (.inl a :: st) m = if a = 0 then go 154 90 ls st m else go 154 86 ls st m := e_if (t := 90) (b := hc .eq a 0) d154_83 (Or.inl rfl) (by simp only [xi, pI, jm_some (t := 90) (show ((83 : Nat) : Int) + 7 = ((90 : Nat) : Int) by decide), Option.bind_some]) (by simp [hc])
theorem d154_86 : decode (mt 154).2.1 86 = .ok (.iconst 1, 1) := by decide +kernel
theorem s154_86 {ls : LV} {st : List AV} {m : MM} : go 154 86 ls st m = go 154 87 ls (.inl 1 :: st) m := e_1 d154_86 (Or.inl rfl) rfl
theorem d154_87 : decode (mt 154).2.1 87 = .ok (.goto 4, 3) := by decide +kernel
theorem s154_87 {ls : LV} {st : List AV} {m : MM} : go 154 87 ls st m = go 154 91 ls st m := e_1 d154_87 (Or.inl rfl) (by rw [xi, jm_some (t := 91) (by decide)]; rfl)
theorem d154_90 : decode (mt 154).2.1 90 = .ok (.iconst 0, 1) := by decide +kernel
theorem s154_90 {ls : LV} {st : List AV} {m : MM} : go 154 90 ls st m = go 154 91 ls (.inl 0 :: st) m := e_1 d154_90 (Or.inl rfl) rfl
theorem d154_91 : decode (mt 154).2.1 91 = .ok (.iadd, 1) := by decide +kernel
theorem s154_91 {ls : LV} {st : List AV} {m : MM} {a b : Int32} : go 154 91 ls (.inl b :: .inl a :: st) m = go 154 92 ls (.inl (a + b) :: st) m := e_1 d154_91 (Or.inl rfl) rfl
theorem d154_92 : decode (mt 154).2.1 92 = .ok (.istore_n 3, 1) := by decide +kernel
theorem s154_92i {a0 a1 a3 a4 : Option AV} {z : Int32} {st : List AV} {m : MM} {x : Int32} : go 154 92 [a0, a1, some (.inl z), a3, a4] (.inl x :: st) m = go 154 93 [a0, a1, some (.inl z), some (.inl x), a4] st m := e_1 d154_92 (Or.inl rfl) rfl
theorem s154_92r {a0 a1 a3 a4 : Option AV} {z : Nat × Option Nat} {st : List AV} {m : MM} {x : Int32} : go 154 92 [a0, a1, some (.inr (.inr z)), a3, a4] (.inl x :: st) m = go 154 93 [a0, a1, some (.inr (.inr z)), some (.inl x), a4] st m := e_1 d154_92 (Or.inl rfl) rfl
theorem s154_92n {a0 a1 a3 a4 : Option AV} {st : List AV} {m : MM} {x : Int32} : go 154 92 [a0, a1, none, a3, a4] (.inl x :: st) m = go 154 93 [a0, a1, none, some (.inl x), a4] st m := e_1 d154_92 (Or.inl rfl) rfl
theorem d154_93 : decode (mt 154).2.1 93 = .ok (.iinc 4 1, 3) := by decide +kernel
theorem s154_93i {a0 a1 a2 : Option AV} {z : Int32} {st : List AV} {m : MM} {x : Int32} : go 154 93 [a0, a1, a2, some (.inl z), some (.inl x)] st m = go 154 96 [a0, a1, a2, some (.inl z), some (.inl (x + 1))] st m := e_1 d154_93 (Or.inl rfl) rfl
theorem s154_93r {a0 a1 a2 : Option AV} {z : Nat × Option Nat} {st : List AV} {m : MM} {x : Int32} : go 154 93 [a0, a1, a2, some (.inr (.inr z)), some (.inl x)] st m = go 154 96 [a0, a1, a2, some (.inr (.inr z)), some (.inl (x + 1))] st m := e_1 d154_93 (Or.inl rfl) rfl
theorem s154_93n {a0 a1 a2 : Option AV} {st : List AV} {m : MM} {x : Int32} : go 154 93 [a0, a1, a2, none, some (.inl x)] st m = go 154 96 [a0, a1, a2, none, some (.inl (x + 1))] st m := e_1 d154_93 (Or.inl rfl) rfl
theorem d154_96 : decode (mt 154).2.1 96 = .ok (.goto (-33), 3) := by decide +kernel
theorem s154_96 {ls : LV} {st : List AV} {m : MM} : go 154 96 ls st m = go 154 63 ls st m := e_1 d154_96 (Or.inl rfl) (by rw [xi, jm_some (t := 63) (by decide)]; rfl)
theorem d154_99 : decode (mt 154).2.1 99 = .ok (.iload_n 3, 1) := by decide +kernel
theorem s154_99 {a0 a1 a2 a4 : Option AV} {st : List AV} {m : MM} {x : Int32} : go 154 99 [a0, a1, a2, some (.inl x), a4] st m = go 154 100 [a0, a1, a2, some (.inl x), a4] (.inl x :: st) m := e_1 d154_99 (Or.inl rfl) rfl
theorem d154_100 : decode (mt 154).2.1 100 = .ok (.ireturn, 1) := by decide +kernel
theorem s154_100 {ls : LV} {m : MM} {x : Int32} : go 154 100 ls [.inl x] m = some (some (.inl x), m) := e_int d154_100 (by decide +kernel)
theorem d154_101 : decode (mt 154).2.1 101 = .ok (.aload_n 0, 1) := by decide +kernel
theorem s154_101 {a1 a2 a3 a4 : Option AV} {st : List AV} {m : MM} {x : Nat × Option Nat} : go 154 101 [some (.inr (.inr x)), a1, a2, a3, a4] st m = go 154 102 [some (.inr (.inr x)), a1, a2, a3, a4] (.inr (.inr x) :: st) m := e_1 d154_101 (Or.inl rfl) rfl
theorem d154_102 : decode (mt 154).2.1 102 = .ok (.getfield 23, 3) := by decide +kernel
theorem s154_102 {ls : LV} {st : List AV} {m : MM} {n : Nat} : go 154 102 ls (.inr (.inr (8, some n)) :: st) m = go 154 105 ls (.inr (.inr (22, mR m 8 n 5)) :: st) m := e_1 d154_102 (Or.inl rfl) (by rw [xi, pA, show lk fdL (mt 154).2.2.1 23 = some (8, 5) by decide +kernel]; rfl)
theorem d154_105 : decode (mt 154).2.1 105 = .ok (.iload_n 1, 1) := by decide +kernel
theorem s154_105 {a0 a2 a3 a4 : Option AV} {st : List AV} {m : MM} {x : Int32} : go 154 105 [a0, some (.inl x), a2, a3, a4] st m = go 154 106 [a0, some (.inl x), a2, a3, a4] (.inl x :: st) m := e_1 d154_105 (Or.inl rfl) rfl
theorem d154_106 : decode (mt 154).2.1 106 = .ok (.iaload, 1) := by decide +kernel
theorem s154_106 {ls : LV} {st : List AV} {m : MM} {n : Nat} {i : Int32} : go 154 106 ls (.inl i :: .inr (.inr (22, some n)) :: st) m = ixk (ix i (mN m 22 n)) (fun j => go 154 107 ls (.inl (mI m 22 n j) :: st) m) := e_ald d154_106 (fun j hj => by simp only [xi, pI, pA, hj, Option.bind_some]; rfl) (fun hj => by simp only [xi, pI, pA, hj, Option.bind_none])
theorem d154_107 : decode (mt 154).2.1 107 = .ok (.ireturn, 1) := by decide +kernel
theorem s154_107 {ls : LV} {m : MM} {x : Int32} : go 154 107 ls [.inl x] m = some (some (.inl x), m) := e_int d154_107 (by decide +kernel)
theorem d154_108 : decode (mt 154).2.1 108 = .ok (.aload_n 0, 1) := by decide +kernel
theorem s154_108 {a1 a2 a3 a4 : Option AV} {st : List AV} {m : MM} {x : Nat × Option Nat} : go 154 108 [some (.inr (.inr x)), a1, a2, a3, a4] st m = go 154 109 [some (.inr (.inr x)), a1, a2, a3, a4] (.inr (.inr x) :: st) m := e_1 d154_108 (Or.inl rfl) rfl
theorem d154_109 : decode (mt 154).2.1 109 = .ok (.getfield 42, 3) := by decide +kernel
theorem s154_109 {ls : LV} {st : List AV} {m : MM} {n : Nat} : go 154 109 ls (.inr (.inr (8, some n)) :: st) m = go 154 112 ls (.inr (.inr (28, mR m 8 n 11)) :: st) m := e_1 d154_109 (Or.inl rfl) (by rw [xi, pA, show lk fdL (mt 154).2.2.1 42 = some (8, 11) by decide +kernel]; rfl)
theorem d154_112 : decode (mt 154).2.1 112 = .ok (.iload_n 1, 1) := by decide +kernel
theorem s154_112 {a0 a2 a3 a4 : Option AV} {st : List AV} {m : MM} {x : Int32} : go 154 112 [a0, some (.inl x), a2, a3, a4] st m = go 154 113 [a0, some (.inl x), a2, a3, a4] (.inl x :: st) m := e_1 d154_112 (Or.inl rfl) rfl
theorem d154_113 : decode (mt 154).2.1 113 = .ok (.iaload, 1) := by decide +kernel
theorem s154_113 {ls : LV} {st : List AV} {m : MM} {n : Nat} {i : Int32} : go 154 113 ls (.inl i :: .inr (.inr (28, some n)) :: st) m = ixk (ix i (mN m 28 n)) (fun j => go 154 114 ls (.inl (mI m 28 n j) :: st) m) := e_ald d154_113 (fun j hj => by simp only [xi, pI, pA, hj, Option.bind_some]; rfl) (fun hj => by simp only [xi, pI, pA, hj, Option.bind_none])
theorem d154_114 : decode (mt 154).2.1 114 = .ok (.ireturn, 1) := by decide +kernel
theorem s154_114 {ls : LV} {m : MM} {x : Int32} : go 154 114 ls [.inl x] m = some (some (.inl x), m) := e_int d154_114 (by decide +kernel)
theorem d154_115 : decode (mt 154).2.1 115 = .ok (.iconst (-1), 1) := by decide +kernel
theorem s154_115 {ls : LV} {st : List AV} {m : MM} : go 154 115 ls st m = go 154 116 ls (.inl (-1) :: st) m := e_1 d154_115 (Or.inl rfl) rfl
theorem d154_116 : decode (mt 154).2.1 116 = .ok (.ireturn, 1) := by decide +kernel
theorem s154_116 {ls : LV} {m : MM} {x : Int32} : go 154 116 ls [.inl x] m = some (some (.inl x), m) := e_int d154_116 (by decide +kernel)
/-! X7_name: 155 -/
theorem d155_0 : decode (mt 155).2.1 0 = .ok (.aload_n 0, 1) := by decide +kernel
theorem s155_0 {a1 : Option AV} {st : List AV} {m : MM} {x : Nat × Option Nat} : go 155 0 [some (.inr (.inr x)), a1] st m = go 155 1 [some (.inr (.inr x)), a1] (.inr (.inr x) :: st) m := e_1 d155_0 (Or.inl rfl) rfl
theorem d155_1 : decode (mt 155).2.1 1 = .ok (.iload_n 1, 1) := by decide +kernel
theorem s155_1 {a0 : Option AV} {st : List AV} {m : MM} {x : Int32} : go 155 1 [a0, some (.inl x)] st m = go 155 2 [a0, some (.inl x)] (.inl x :: st) m := e_1 d155_1 (Or.inl rfl) rfl
theorem d155_2 : decode (mt 155).2.1 2 = .ok (.invokevirtual 203, 3) := by decide +kernel
theorem s155_2 {ls : LV} {m : MM} {x0 : Int32} {n : Nat} : go 155 2 ls [.inl x0, .inr (.inr (8, some n))] m = bd (go 104 0 [some (.inr (.inr (8, some n))), some (.inl x0)] [] m) (fun v m2 => go 155 5 ls (v.toList ++ []) m2) := e_virt (y1 := 104) (na := 1) (as := [.inl x0]) (rest := []) d155_2 (by decide +kernel) rfl (by decide +kernel) (show (ent [.inr (.inr (8, some n)), .inl x0]).length ≤ (mt 104).2.2.2.1 from Nat.le_of_ble_eq_true rfl) (cats_le (Nat.le_of_ble_eq_true rfl)) (by decide +kernel)
theorem d155_5 : decode (mt 155).2.1 5 = .ok (.ifCond .eq 12, 3) := by decide +kernel
theorem s155_5 {ls : LV} {st : List AV} {m : MM} {a : Int32} : go 155 5 ls (.inl a :: st) m = if a = 0 then go 155 17 ls st m else go 155 8 ls st m := e_if (t := 17) (b := hc .eq a 0) d155_5 (Or.inl rfl) (by simp only [xi, pI, jm_some (t := 17) (show ((5 : Nat) : Int) + 12 = ((17 : Nat) : Int) by decide), Option.bind_some]) (by simp [hc])
theorem d155_8 : decode (mt 155).2.1 8 = .ok (.aload_n 0, 1) := by decide +kernel
theorem s155_8 {a1 : Option AV} {st : List AV} {m : MM} {x : Nat × Option Nat} : go 155 8 [some (.inr (.inr x)), a1] st m = go 155 9 [some (.inr (.inr x)), a1] (.inr (.inr x) :: st) m := e_1 d155_8 (Or.inl rfl) rfl
theorem d155_9 : decode (mt 155).2.1 9 = .ok (.getfield 13, 3) := by decide +kernel
theorem s155_9 {ls : LV} {st : List AV} {m : MM} {n : Nat} : go 155 9 ls (.inr (.inr (8, some n)) :: st) m = go 155 12 ls (.inr (.inr (19, mR m 8 n 2)) :: st) m := e_1 d155_9 (Or.inl rfl) (by rw [xi, pA, show lk fdL (mt 155).2.2.1 13 = some (8, 2) by decide +kernel]; rfl)
theorem d155_12 : decode (mt 155).2.1 12 = .ok (.iload_n 1, 1) := by decide +kernel
theorem s155_12 {a0 : Option AV} {st : List AV} {m : MM} {x : Int32} : go 155 12 [a0, some (.inl x)] st m = go 155 13 [a0, some (.inl x)] (.inl x :: st) m := e_1 d155_12 (Or.inl rfl) rfl
theorem d155_13 : decode (mt 155).2.1 13 = .ok (.iaload, 1) := by decide +kernel
theorem s155_13 {ls : LV} {st : List AV} {m : MM} {n : Nat} {i : Int32} : go 155 13 ls (.inl i :: .inr (.inr (19, some n)) :: st) m = ixk (ix i (mN m 19 n)) (fun j => go 155 14 ls (.inl (mI m 19 n j) :: st) m) := e_ald d155_13 (fun j hj => by simp only [xi, pI, pA, hj, Option.bind_some]; rfl) (fun hj => by simp only [xi, pI, pA, hj, Option.bind_none])
theorem d155_14 : decode (mt 155).2.1 14 = .ok (.goto 4, 3) := by decide +kernel
theorem s155_14 {ls : LV} {st : List AV} {m : MM} : go 155 14 ls st m = go 155 18 ls st m := e_1 d155_14 (Or.inl rfl) (by rw [xi, jm_some (t := 18) (by decide)]; rfl)
theorem d155_17 : decode (mt 155).2.1 17 = .ok (.iconst 0, 1) := by decide +kernel
theorem s155_17 {ls : LV} {st : List AV} {m : MM} : go 155 17 ls st m = go 155 18 ls (.inl 0 :: st) m := e_1 d155_17 (Or.inl rfl) rfl
theorem d155_18 : decode (mt 155).2.1 18 = .ok (.ireturn, 1) := by decide +kernel
theorem s155_18 {ls : LV} {m : MM} {x : Int32} : go 155 18 ls [.inl x] m = some (some (.inl x), m) := e_int d155_18 (by decide +kernel)
/-! X7_beside: 156 -/
theorem d156_0 : decode (mt 156).2.1 0 = .ok (.aload_n 0, 1) := by decide +kernel
theorem s156_0 {a1 a2 a3 : Option AV} {st : List AV} {m : MM} {x : Nat × Option Nat} : go 156 0 [some (.inr (.inr x)), a1, a2, a3] st m = go 156 1 [some (.inr (.inr x)), a1, a2, a3] (.inr (.inr x) :: st) m := e_1 d156_0 (Or.inl rfl) rfl
theorem d156_1 : decode (mt 156).2.1 1 = .ok (.iload_n 1, 1) := by decide +kernel
theorem s156_1 {a0 a2 a3 : Option AV} {st : List AV} {m : MM} {x : Int32} : go 156 1 [a0, some (.inl x), a2, a3] st m = go 156 2 [a0, some (.inl x), a2, a3] (.inl x :: st) m := e_1 d156_1 (Or.inl rfl) rfl
theorem d156_2 : decode (mt 156).2.1 2 = .ok (.invokevirtual 203, 3) := by decide +kernel
theorem s156_2 {ls : LV} {m : MM} {x0 : Int32} {n : Nat} : go 156 2 ls [.inl x0, .inr (.inr (8, some n))] m = bd (go 104 0 [some (.inr (.inr (8, some n))), some (.inl x0)] [] m) (fun v m2 => go 156 5 ls (v.toList ++ []) m2) := e_virt (y1 := 104) (na := 1) (as := [.inl x0]) (rest := []) d156_2 (by decide +kernel) rfl (by decide +kernel) (show (ent [.inr (.inr (8, some n)), .inl x0]).length ≤ (mt 104).2.2.2.1 from Nat.le_of_ble_eq_true rfl) (cats_le (Nat.le_of_ble_eq_true rfl)) (by decide +kernel)
theorem d156_5 : decode (mt 156).2.1 5 = .ok (.ifCond .eq 25, 3) := by decide +kernel
theorem s156_5 {ls : LV} {st : List AV} {m : MM} {a : Int32} : go 156 5 ls (.inl a :: st) m = if a = 0 then go 156 30 ls st m else go 156 8 ls st m := e_if (t := 30) (b := hc .eq a 0) d156_5 (Or.inl rfl) (by simp only [xi, pI, jm_some (t := 30) (show ((5 : Nat) : Int) + 25 = ((30 : Nat) : Int) by decide), Option.bind_some]) (by simp [hc])
theorem d156_8 : decode (mt 156).2.1 8 = .ok (.iload_n 2, 1) := by decide +kernel
theorem s156_8 {a0 a1 a3 : Option AV} {st : List AV} {m : MM} {x : Int32} : go 156 8 [a0, a1, some (.inl x), a3] st m = go 156 9 [a0, a1, some (.inl x), a3] (.inl x :: st) m := e_1 d156_8 (Or.inl rfl) rfl
theorem d156_9 : decode (mt 156).2.1 9 = .ok (.i2l, 1) := by decide +kernel
theorem s156_9 {ls : LV} {st : List AV} {m : MM} {a : Int32} : go 156 9 ls (.inl a :: st) m = go 156 10 ls (.inr (.inl a.toInt64) :: st) m := e_1 d156_9 (Or.inl rfl) rfl
theorem d156_10 : decode (mt 156).2.1 10 = .ok (.lconst 0, 1) := by decide +kernel
theorem s156_10 {ls : LV} {st : List AV} {m : MM} : go 156 10 ls st m = go 156 11 ls (.inr (.inl 0) :: st) m := e_1 d156_10 (Or.inl rfl) rfl
theorem d156_11 : decode (mt 156).2.1 11 = .ok (.ldc2_w 267, 3) := by decide +kernel
theorem s156_11 {ls : LV} {st : List AV} {m : MM} : go 156 11 ls st m = go 156 14 ls (.inr (.inl 8) :: st) m := e_1 d156_11 (Or.inl rfl) (by rw [xi, show lk c2L (mt 156).2.2.1 267 = some 8 by decide +kernel]; rfl)
theorem d156_14 : decode (mt 156).2.1 14 = .ok (.invokestatic 118, 3) := by decide +kernel
theorem s156_14 {ls : LV} {m : MM} {x0 : Int64} {x1 : Int64} {x2 : Int64} : go 156 14 ls [.inr (.inl x2), .inr (.inl x1), .inr (.inl x0)] m = bd (go 103 0 [some (.inr (.inl x0)), none, some (.inr (.inl x1)), none, some (.inr (.inl x2)), none] [] m) (fun v m2 => go 156 17 ls (v.toList ++ []) m2) := e_stat (y1 := 103) (na := 3) (as := [.inr (.inl x0), .inr (.inl x1), .inr (.inl x2)]) (rest := []) d156_14 (by decide +kernel) rfl (by decide +kernel) (show (ent [.inr (.inl x0), .inr (.inl x1), .inr (.inl x2)]).length ≤ (mt 103).2.2.2.1 from Nat.le_of_ble_eq_true rfl) (cats_le (Nat.le_of_ble_eq_true rfl)) (by decide +kernel)
theorem d156_17 : decode (mt 156).2.1 17 = .ok (.ifCond .eq 13, 3) := by decide +kernel
theorem s156_17 {ls : LV} {st : List AV} {m : MM} {a : Int32} : go 156 17 ls (.inl a :: st) m = if a = 0 then go 156 30 ls st m else go 156 20 ls st m := e_if (t := 30) (b := hc .eq a 0) d156_17 (Or.inl rfl) (by simp only [xi, pI, jm_some (t := 30) (show ((17 : Nat) : Int) + 13 = ((30 : Nat) : Int) by decide), Option.bind_some]) (by simp [hc])
theorem d156_20 : decode (mt 156).2.1 20 = .ok (.iload_n 3, 1) := by decide +kernel
theorem s156_20 {a0 a1 a2 : Option AV} {st : List AV} {m : MM} {x : Int32} : go 156 20 [a0, a1, a2, some (.inl x)] st m = go 156 21 [a0, a1, a2, some (.inl x)] (.inl x :: st) m := e_1 d156_20 (Or.inl rfl) rfl
theorem d156_21 : decode (mt 156).2.1 21 = .ok (.i2l, 1) := by decide +kernel
theorem s156_21 {ls : LV} {st : List AV} {m : MM} {a : Int32} : go 156 21 ls (.inl a :: st) m = go 156 22 ls (.inr (.inl a.toInt64) :: st) m := e_1 d156_21 (Or.inl rfl) rfl
theorem d156_22 : decode (mt 156).2.1 22 = .ok (.lconst 0, 1) := by decide +kernel
theorem s156_22 {ls : LV} {st : List AV} {m : MM} : go 156 22 ls st m = go 156 23 ls (.inr (.inl 0) :: st) m := e_1 d156_22 (Or.inl rfl) rfl
theorem d156_23 : decode (mt 156).2.1 23 = .ok (.lconst 1, 1) := by decide +kernel
theorem s156_23 {ls : LV} {st : List AV} {m : MM} : go 156 23 ls st m = go 156 24 ls (.inr (.inl 1) :: st) m := e_1 d156_23 (Or.inl rfl) rfl
theorem d156_24 : decode (mt 156).2.1 24 = .ok (.invokestatic 118, 3) := by decide +kernel
theorem s156_24 {ls : LV} {m : MM} {x0 : Int64} {x1 : Int64} {x2 : Int64} : go 156 24 ls [.inr (.inl x2), .inr (.inl x1), .inr (.inl x0)] m = bd (go 103 0 [some (.inr (.inl x0)), none, some (.inr (.inl x1)), none, some (.inr (.inl x2)), none] [] m) (fun v m2 => go 156 27 ls (v.toList ++ []) m2) := e_stat (y1 := 103) (na := 3) (as := [.inr (.inl x0), .inr (.inl x1), .inr (.inl x2)]) (rest := []) d156_24 (by decide +kernel) rfl (by decide +kernel) (show (ent [.inr (.inl x0), .inr (.inl x1), .inr (.inl x2)]).length ≤ (mt 103).2.2.2.1 from Nat.le_of_ble_eq_true rfl) (cats_le (Nat.le_of_ble_eq_true rfl)) (by decide +kernel)
theorem d156_27 : decode (mt 156).2.1 27 = .ok (.ifCond .ne 5, 3) := by decide +kernel
theorem s156_27 {ls : LV} {st : List AV} {m : MM} {a : Int32} : go 156 27 ls (.inl a :: st) m = if ¬ a = 0 then go 156 32 ls st m else go 156 30 ls st m := e_if (t := 32) (b := hc .ne a 0) d156_27 (Or.inl rfl) (by simp only [xi, pI, jm_some (t := 32) (show ((27 : Nat) : Int) + 5 = ((32 : Nat) : Int) by decide), Option.bind_some]) (by simp [hc])
theorem d156_30 : decode (mt 156).2.1 30 = .ok (.iconst (-1), 1) := by decide +kernel
theorem s156_30 {ls : LV} {st : List AV} {m : MM} : go 156 30 ls st m = go 156 31 ls (.inl (-1) :: st) m := e_1 d156_30 (Or.inl rfl) rfl
theorem d156_31 : decode (mt 156).2.1 31 = .ok (.ireturn, 1) := by decide +kernel
theorem s156_31 {ls : LV} {m : MM} {x : Int32} : go 156 31 ls [.inl x] m = some (some (.inl x), m) := e_int d156_31 (by decide +kernel)
theorem d156_32 : decode (mt 156).2.1 32 = .ok (.aload_n 0, 1) := by decide +kernel
theorem s156_32 {a1 a2 a3 : Option AV} {st : List AV} {m : MM} {x : Nat × Option Nat} : go 156 32 [some (.inr (.inr x)), a1, a2, a3] st m = go 156 33 [some (.inr (.inr x)), a1, a2, a3] (.inr (.inr x) :: st) m := e_1 d156_32 (Or.inl rfl) rfl
theorem d156_33 : decode (mt 156).2.1 33 = .ok (.getfield 26, 3) := by decide +kernel
theorem s156_33 {ls : LV} {st : List AV} {m : MM} {n : Nat} : go 156 33 ls (.inr (.inr (8, some n)) :: st) m = go 156 36 ls (.inr (.inr (23, mR m 8 n 6)) :: st) m := e_1 d156_33 (Or.inl rfl) (by rw [xi, pA, show lk fdL (mt 156).2.2.1 26 = some (8, 6) by decide +kernel]; rfl)
theorem d156_36 : decode (mt 156).2.1 36 = .ok (.bipush 9, 2) := by decide +kernel
theorem s156_36 {ls : LV} {st : List AV} {m : MM} : go 156 36 ls st m = go 156 38 ls (.inl 9 :: st) m := e_1 d156_36 (Or.inl rfl) rfl
theorem d156_38 : decode (mt 156).2.1 38 = .ok (.iload_n 1, 1) := by decide +kernel
theorem s156_38 {a0 a2 a3 : Option AV} {st : List AV} {m : MM} {x : Int32} : go 156 38 [a0, some (.inl x), a2, a3] st m = go 156 39 [a0, some (.inl x), a2, a3] (.inl x :: st) m := e_1 d156_38 (Or.inl rfl) rfl
theorem d156_39 : decode (mt 156).2.1 39 = .ok (.imul, 1) := by decide +kernel
theorem s156_39 {ls : LV} {st : List AV} {m : MM} {a b : Int32} : go 156 39 ls (.inl b :: .inl a :: st) m = go 156 40 ls (.inl (a * b) :: st) m := e_1 d156_39 (Or.inl rfl) rfl
theorem d156_40 : decode (mt 156).2.1 40 = .ok (.iload_n 2, 1) := by decide +kernel
theorem s156_40 {a0 a1 a3 : Option AV} {st : List AV} {m : MM} {x : Int32} : go 156 40 [a0, a1, some (.inl x), a3] st m = go 156 41 [a0, a1, some (.inl x), a3] (.inl x :: st) m := e_1 d156_40 (Or.inl rfl) rfl
theorem d156_41 : decode (mt 156).2.1 41 = .ok (.iadd, 1) := by decide +kernel
theorem s156_41 {ls : LV} {st : List AV} {m : MM} {a b : Int32} : go 156 41 ls (.inl b :: .inl a :: st) m = go 156 42 ls (.inl (a + b) :: st) m := e_1 d156_41 (Or.inl rfl) rfl
theorem d156_42 : decode (mt 156).2.1 42 = .ok (.baload, 1) := by decide +kernel
theorem s156_42 {ls : LV} {st : List AV} {m : MM} {n : Nat} {i : Int32} : go 156 42 ls (.inl i :: .inr (.inr (23, some n)) :: st) m = ixk (ix i (mN m 23 n)) (fun j => go 156 43 ls (.inl (mI m 23 n j) :: st) m) := e_ald d156_42 (fun j hj => by simp only [xi, pI, pA, hj, Option.bind_some]; rfl) (fun hj => by simp only [xi, pI, pA, hj, Option.bind_none])
theorem d156_43 : decode (mt 156).2.1 43 = .ok (.ifCond .ne 6, 3) := by decide +kernel
theorem s156_43 {ls : LV} {st : List AV} {m : MM} {a : Int32} : go 156 43 ls (.inl a :: st) m = if ¬ a = 0 then go 156 49 ls st m else go 156 46 ls st m := e_if (t := 49) (b := hc .ne a 0) d156_43 (Or.inl rfl) (by simp only [xi, pI, jm_some (t := 49) (show ((43 : Nat) : Int) + 6 = ((49 : Nat) : Int) by decide), Option.bind_some]) (by simp [hc])
theorem d156_46 : decode (mt 156).2.1 46 = .ok (.bipush (-2), 2) := by decide +kernel
theorem s156_46 {ls : LV} {st : List AV} {m : MM} : go 156 46 ls st m = go 156 48 ls (.inl (-2) :: st) m := e_1 d156_46 (Or.inl rfl) rfl
theorem d156_48 : decode (mt 156).2.1 48 = .ok (.ireturn, 1) := by decide +kernel
theorem s156_48 {ls : LV} {m : MM} {x : Int32} : go 156 48 ls [.inl x] m = some (some (.inl x), m) := e_int d156_48 (by decide +kernel)
theorem d156_49 : decode (mt 156).2.1 49 = .ok (.iload_n 3, 1) := by decide +kernel
theorem s156_49 {a0 a1 a2 : Option AV} {st : List AV} {m : MM} {x : Int32} : go 156 49 [a0, a1, a2, some (.inl x)] st m = go 156 50 [a0, a1, a2, some (.inl x)] (.inl x :: st) m := e_1 d156_49 (Or.inl rfl) rfl
theorem d156_50 : decode (mt 156).2.1 50 = .ok (.ifCond .ne 17, 3) := by decide +kernel
theorem s156_50 {ls : LV} {st : List AV} {m : MM} {a : Int32} : go 156 50 ls (.inl a :: st) m = if ¬ a = 0 then go 156 67 ls st m else go 156 53 ls st m := e_if (t := 67) (b := hc .ne a 0) d156_50 (Or.inl rfl) (by simp only [xi, pI, jm_some (t := 67) (show ((50 : Nat) : Int) + 17 = ((67 : Nat) : Int) by decide), Option.bind_some]) (by simp [hc])
theorem d156_53 : decode (mt 156).2.1 53 = .ok (.aload_n 0, 1) := by decide +kernel
theorem s156_53 {a1 a2 a3 : Option AV} {st : List AV} {m : MM} {x : Nat × Option Nat} : go 156 53 [some (.inr (.inr x)), a1, a2, a3] st m = go 156 54 [some (.inr (.inr x)), a1, a2, a3] (.inr (.inr x) :: st) m := e_1 d156_53 (Or.inl rfl) rfl
theorem d156_54 : decode (mt 156).2.1 54 = .ok (.getfield 30, 3) := by decide +kernel
theorem s156_54 {ls : LV} {st : List AV} {m : MM} {n : Nat} : go 156 54 ls (.inr (.inr (8, some n)) :: st) m = go 156 57 ls (.inr (.inr (24, mR m 8 n 7)) :: st) m := e_1 d156_54 (Or.inl rfl) (by rw [xi, pA, show lk fdL (mt 156).2.2.1 30 = some (8, 7) by decide +kernel]; rfl)
theorem d156_57 : decode (mt 156).2.1 57 = .ok (.bipush 9, 2) := by decide +kernel
theorem s156_57 {ls : LV} {st : List AV} {m : MM} : go 156 57 ls st m = go 156 59 ls (.inl 9 :: st) m := e_1 d156_57 (Or.inl rfl) rfl
theorem d156_59 : decode (mt 156).2.1 59 = .ok (.iload_n 1, 1) := by decide +kernel
theorem s156_59 {a0 a2 a3 : Option AV} {st : List AV} {m : MM} {x : Int32} : go 156 59 [a0, some (.inl x), a2, a3] st m = go 156 60 [a0, some (.inl x), a2, a3] (.inl x :: st) m := e_1 d156_59 (Or.inl rfl) rfl
theorem d156_60 : decode (mt 156).2.1 60 = .ok (.imul, 1) := by decide +kernel
theorem s156_60 {ls : LV} {st : List AV} {m : MM} {a b : Int32} : go 156 60 ls (.inl b :: .inl a :: st) m = go 156 61 ls (.inl (a * b) :: st) m := e_1 d156_60 (Or.inl rfl) rfl
theorem d156_61 : decode (mt 156).2.1 61 = .ok (.iload_n 2, 1) := by decide +kernel
theorem s156_61 {a0 a1 a3 : Option AV} {st : List AV} {m : MM} {x : Int32} : go 156 61 [a0, a1, some (.inl x), a3] st m = go 156 62 [a0, a1, some (.inl x), a3] (.inl x :: st) m := e_1 d156_61 (Or.inl rfl) rfl
theorem d156_62 : decode (mt 156).2.1 62 = .ok (.iadd, 1) := by decide +kernel
theorem s156_62 {ls : LV} {st : List AV} {m : MM} {a b : Int32} : go 156 62 ls (.inl b :: .inl a :: st) m = go 156 63 ls (.inl (a + b) :: st) m := e_1 d156_62 (Or.inl rfl) rfl
theorem d156_63 : decode (mt 156).2.1 63 = .ok (.iaload, 1) := by decide +kernel
theorem s156_63 {ls : LV} {st : List AV} {m : MM} {n : Nat} {i : Int32} : go 156 63 ls (.inl i :: .inr (.inr (24, some n)) :: st) m = ixk (ix i (mN m 24 n)) (fun j => go 156 64 ls (.inl (mI m 24 n j) :: st) m) := e_ald d156_63 (fun j hj => by simp only [xi, pI, pA, hj, Option.bind_some]; rfl) (fun hj => by simp only [xi, pI, pA, hj, Option.bind_none])
theorem d156_64 : decode (mt 156).2.1 64 = .ok (.goto 14, 3) := by decide +kernel
theorem s156_64 {ls : LV} {st : List AV} {m : MM} : go 156 64 ls st m = go 156 78 ls st m := e_1 d156_64 (Or.inl rfl) (by rw [xi, jm_some (t := 78) (by decide)]; rfl)
theorem d156_67 : decode (mt 156).2.1 67 = .ok (.aload_n 0, 1) := by decide +kernel
theorem s156_67 {a1 a2 a3 : Option AV} {st : List AV} {m : MM} {x : Nat × Option Nat} : go 156 67 [some (.inr (.inr x)), a1, a2, a3] st m = go 156 68 [some (.inr (.inr x)), a1, a2, a3] (.inr (.inr x) :: st) m := e_1 d156_67 (Or.inl rfl) rfl
theorem d156_68 : decode (mt 156).2.1 68 = .ok (.getfield 33, 3) := by decide +kernel
theorem s156_68 {ls : LV} {st : List AV} {m : MM} {n : Nat} : go 156 68 ls (.inr (.inr (8, some n)) :: st) m = go 156 71 ls (.inr (.inr (25, mR m 8 n 8)) :: st) m := e_1 d156_68 (Or.inl rfl) (by rw [xi, pA, show lk fdL (mt 156).2.2.1 33 = some (8, 8) by decide +kernel]; rfl)
theorem d156_71 : decode (mt 156).2.1 71 = .ok (.bipush 9, 2) := by decide +kernel
theorem s156_71 {ls : LV} {st : List AV} {m : MM} : go 156 71 ls st m = go 156 73 ls (.inl 9 :: st) m := e_1 d156_71 (Or.inl rfl) rfl
theorem d156_73 : decode (mt 156).2.1 73 = .ok (.iload_n 1, 1) := by decide +kernel
theorem s156_73 {a0 a2 a3 : Option AV} {st : List AV} {m : MM} {x : Int32} : go 156 73 [a0, some (.inl x), a2, a3] st m = go 156 74 [a0, some (.inl x), a2, a3] (.inl x :: st) m := e_1 d156_73 (Or.inl rfl) rfl
theorem d156_74 : decode (mt 156).2.1 74 = .ok (.imul, 1) := by decide +kernel
theorem s156_74 {ls : LV} {st : List AV} {m : MM} {a b : Int32} : go 156 74 ls (.inl b :: .inl a :: st) m = go 156 75 ls (.inl (a * b) :: st) m := e_1 d156_74 (Or.inl rfl) rfl
theorem d156_75 : decode (mt 156).2.1 75 = .ok (.iload_n 2, 1) := by decide +kernel
theorem s156_75 {a0 a1 a3 : Option AV} {st : List AV} {m : MM} {x : Int32} : go 156 75 [a0, a1, some (.inl x), a3] st m = go 156 76 [a0, a1, some (.inl x), a3] (.inl x :: st) m := e_1 d156_75 (Or.inl rfl) rfl
theorem d156_76 : decode (mt 156).2.1 76 = .ok (.iadd, 1) := by decide +kernel
theorem s156_76 {ls : LV} {st : List AV} {m : MM} {a b : Int32} : go 156 76 ls (.inl b :: .inl a :: st) m = go 156 77 ls (.inl (a + b) :: st) m := e_1 d156_76 (Or.inl rfl) rfl
theorem d156_77 : decode (mt 156).2.1 77 = .ok (.iaload, 1) := by decide +kernel
theorem s156_77 {ls : LV} {st : List AV} {m : MM} {n : Nat} {i : Int32} : go 156 77 ls (.inl i :: .inr (.inr (25, some n)) :: st) m = ixk (ix i (mN m 25 n)) (fun j => go 156 78 ls (.inl (mI m 25 n j) :: st) m) := e_ald d156_77 (fun j hj => by simp only [xi, pI, pA, hj, Option.bind_some]; rfl) (fun hj => by simp only [xi, pI, pA, hj, Option.bind_none])
theorem d156_78 : decode (mt 156).2.1 78 = .ok (.ireturn, 1) := by decide +kernel
theorem s156_78 {ls : LV} {m : MM} {x : Int32} : go 156 78 ls [.inl x] m = some (some (.inl x), m) := e_int d156_78 (by decide +kernel)
/-! X7_key: 157 -/
theorem d157_0 : decode (mt 157).2.1 0 = .ok (.aload_n 0, 1) := by decide +kernel
theorem s157_0 {a1 a2 : Option AV} {st : List AV} {m : MM} {x : Nat × Option Nat} : go 157 0 [some (.inr (.inr x)), a1, a2] st m = go 157 1 [some (.inr (.inr x)), a1, a2] (.inr (.inr x) :: st) m := e_1 d157_0 (Or.inl rfl) rfl
theorem d157_1 : decode (mt 157).2.1 1 = .ok (.iload_n 1, 1) := by decide +kernel
theorem s157_1 {a0 a2 : Option AV} {st : List AV} {m : MM} {x : Int32} : go 157 1 [a0, some (.inl x), a2] st m = go 157 2 [a0, some (.inl x), a2] (.inl x :: st) m := e_1 d157_1 (Or.inl rfl) rfl
theorem d157_2 : decode (mt 157).2.1 2 = .ok (.invokevirtual 203, 3) := by decide +kernel
theorem s157_2 {ls : LV} {m : MM} {x0 : Int32} {n : Nat} : go 157 2 ls [.inl x0, .inr (.inr (8, some n))] m = bd (go 104 0 [some (.inr (.inr (8, some n))), some (.inl x0)] [] m) (fun v m2 => go 157 5 ls (v.toList ++ []) m2) := e_virt (y1 := 104) (na := 1) (as := [.inl x0]) (rest := []) d157_2 (by decide +kernel) rfl (by decide +kernel) (show (ent [.inr (.inr (8, some n)), .inl x0]).length ≤ (mt 104).2.2.2.1 from Nat.le_of_ble_eq_true rfl) (cats_le (Nat.le_of_ble_eq_true rfl)) (by decide +kernel)
theorem d157_5 : decode (mt 157).2.1 5 = .ok (.ifCond .eq 35, 3) := by decide +kernel
theorem s157_5 {ls : LV} {st : List AV} {m : MM} {a : Int32} : go 157 5 ls (.inl a :: st) m = if a = 0 then go 157 40 ls st m else go 157 8 ls st m := e_if (t := 40) (b := hc .eq a 0) d157_5 (Or.inl rfl) (by simp only [xi, pI, jm_some (t := 40) (show ((5 : Nat) : Int) + 35 = ((40 : Nat) : Int) by decide), Option.bind_some]) (by simp [hc])
theorem d157_8 : decode (mt 157).2.1 8 = .ok (.iload_n 2, 1) := by decide +kernel
theorem s157_8 {a0 a1 : Option AV} {st : List AV} {m : MM} {x : Int32} : go 157 8 [a0, a1, some (.inl x)] st m = go 157 9 [a0, a1, some (.inl x)] (.inl x :: st) m := e_1 d157_8 (Or.inl rfl) rfl
theorem d157_9 : decode (mt 157).2.1 9 = .ok (.i2l, 1) := by decide +kernel
theorem s157_9 {ls : LV} {st : List AV} {m : MM} {a : Int32} : go 157 9 ls (.inl a :: st) m = go 157 10 ls (.inr (.inl a.toInt64) :: st) m := e_1 d157_9 (Or.inl rfl) rfl
theorem d157_10 : decode (mt 157).2.1 10 = .ok (.lconst 0, 1) := by decide +kernel
theorem s157_10 {ls : LV} {st : List AV} {m : MM} : go 157 10 ls st m = go 157 11 ls (.inr (.inl 0) :: st) m := e_1 d157_10 (Or.inl rfl) rfl
theorem d157_11 : decode (mt 157).2.1 11 = .ok (.aload_n 0, 1) := by decide +kernel
theorem s157_11 {a1 a2 : Option AV} {st : List AV} {m : MM} {x : Nat × Option Nat} : go 157 11 [some (.inr (.inr x)), a1, a2] st m = go 157 12 [some (.inr (.inr x)), a1, a2] (.inr (.inr x) :: st) m := e_1 d157_11 (Or.inl rfl) rfl
theorem d157_12 : decode (mt 157).2.1 12 = .ok (.getfield 42, 3) := by decide +kernel
theorem s157_12 {ls : LV} {st : List AV} {m : MM} {n : Nat} : go 157 12 ls (.inr (.inr (8, some n)) :: st) m = go 157 15 ls (.inr (.inr (28, mR m 8 n 11)) :: st) m := e_1 d157_12 (Or.inl rfl) (by rw [xi, pA, show lk fdL (mt 157).2.2.1 42 = some (8, 11) by decide +kernel]; rfl)
theorem d157_15 : decode (mt 157).2.1 15 = .ok (.iload_n 1, 1) := by decide +kernel
theorem s157_15 {a0 a2 : Option AV} {st : List AV} {m : MM} {x : Int32} : go 157 15 [a0, some (.inl x), a2] st m = go 157 16 [a0, some (.inl x), a2] (.inl x :: st) m := e_1 d157_15 (Or.inl rfl) rfl
theorem d157_16 : decode (mt 157).2.1 16 = .ok (.iaload, 1) := by decide +kernel
theorem s157_16 {ls : LV} {st : List AV} {m : MM} {n : Nat} {i : Int32} : go 157 16 ls (.inl i :: .inr (.inr (28, some n)) :: st) m = ixk (ix i (mN m 28 n)) (fun j => go 157 17 ls (.inl (mI m 28 n j) :: st) m) := e_ald d157_16 (fun j hj => by simp only [xi, pI, pA, hj, Option.bind_some]; rfl) (fun hj => by simp only [xi, pI, pA, hj, Option.bind_none])
theorem d157_17 : decode (mt 157).2.1 17 = .ok (.iconst 1, 1) := by decide +kernel
theorem s157_17 {ls : LV} {st : List AV} {m : MM} : go 157 17 ls st m = go 157 18 ls (.inl 1 :: st) m := e_1 d157_17 (Or.inl rfl) rfl
theorem d157_18 : decode (mt 157).2.1 18 = .ok (.isub, 1) := by decide +kernel
theorem s157_18 {ls : LV} {st : List AV} {m : MM} {a b : Int32} : go 157 18 ls (.inl b :: .inl a :: st) m = go 157 19 ls (.inl (a - b) :: st) m := e_1 d157_18 (Or.inl rfl) rfl
theorem d157_19 : decode (mt 157).2.1 19 = .ok (.i2l, 1) := by decide +kernel
theorem s157_19 {ls : LV} {st : List AV} {m : MM} {a : Int32} : go 157 19 ls (.inl a :: st) m = go 157 20 ls (.inr (.inl a.toInt64) :: st) m := e_1 d157_19 (Or.inl rfl) rfl
theorem d157_20 : decode (mt 157).2.1 20 = .ok (.invokestatic 118, 3) := by decide +kernel
theorem s157_20 {ls : LV} {m : MM} {x0 : Int64} {x1 : Int64} {x2 : Int64} : go 157 20 ls [.inr (.inl x2), .inr (.inl x1), .inr (.inl x0)] m = bd (go 103 0 [some (.inr (.inl x0)), none, some (.inr (.inl x1)), none, some (.inr (.inl x2)), none] [] m) (fun v m2 => go 157 23 ls (v.toList ++ []) m2) := e_stat (y1 := 103) (na := 3) (as := [.inr (.inl x0), .inr (.inl x1), .inr (.inl x2)]) (rest := []) d157_20 (by decide +kernel) rfl (by decide +kernel) (show (ent [.inr (.inl x0), .inr (.inl x1), .inr (.inl x2)]).length ≤ (mt 103).2.2.2.1 from Nat.le_of_ble_eq_true rfl) (cats_le (Nat.le_of_ble_eq_true rfl)) (by decide +kernel)
theorem d157_23 : decode (mt 157).2.1 23 = .ok (.ifCond .eq 17, 3) := by decide +kernel
theorem s157_23 {ls : LV} {st : List AV} {m : MM} {a : Int32} : go 157 23 ls (.inl a :: st) m = if a = 0 then go 157 40 ls st m else go 157 26 ls st m := e_if (t := 40) (b := hc .eq a 0) d157_23 (Or.inl rfl) (by simp only [xi, pI, jm_some (t := 40) (show ((23 : Nat) : Int) + 17 = ((40 : Nat) : Int) by decide), Option.bind_some]) (by simp [hc])
theorem d157_26 : decode (mt 157).2.1 26 = .ok (.aload_n 0, 1) := by decide +kernel
theorem s157_26 {a1 a2 : Option AV} {st : List AV} {m : MM} {x : Nat × Option Nat} : go 157 26 [some (.inr (.inr x)), a1, a2] st m = go 157 27 [some (.inr (.inr x)), a1, a2] (.inr (.inr x) :: st) m := e_1 d157_26 (Or.inl rfl) rfl
theorem d157_27 : decode (mt 157).2.1 27 = .ok (.getfield 45, 3) := by decide +kernel
theorem s157_27 {ls : LV} {st : List AV} {m : MM} {n : Nat} : go 157 27 ls (.inr (.inr (8, some n)) :: st) m = go 157 30 ls (.inr (.inr (29, mR m 8 n 12)) :: st) m := e_1 d157_27 (Or.inl rfl) (by rw [xi, pA, show lk fdL (mt 157).2.2.1 45 = some (8, 12) by decide +kernel]; rfl)
theorem d157_30 : decode (mt 157).2.1 30 = .ok (.bipush 16, 2) := by decide +kernel
theorem s157_30 {ls : LV} {st : List AV} {m : MM} : go 157 30 ls st m = go 157 32 ls (.inl 16 :: st) m := e_1 d157_30 (Or.inl rfl) rfl
theorem d157_32 : decode (mt 157).2.1 32 = .ok (.iload_n 1, 1) := by decide +kernel
theorem s157_32 {a0 a2 : Option AV} {st : List AV} {m : MM} {x : Int32} : go 157 32 [a0, some (.inl x), a2] st m = go 157 33 [a0, some (.inl x), a2] (.inl x :: st) m := e_1 d157_32 (Or.inl rfl) rfl
theorem d157_33 : decode (mt 157).2.1 33 = .ok (.imul, 1) := by decide +kernel
theorem s157_33 {ls : LV} {st : List AV} {m : MM} {a b : Int32} : go 157 33 ls (.inl b :: .inl a :: st) m = go 157 34 ls (.inl (a * b) :: st) m := e_1 d157_33 (Or.inl rfl) rfl
theorem d157_34 : decode (mt 157).2.1 34 = .ok (.iload_n 2, 1) := by decide +kernel
theorem s157_34 {a0 a1 : Option AV} {st : List AV} {m : MM} {x : Int32} : go 157 34 [a0, a1, some (.inl x)] st m = go 157 35 [a0, a1, some (.inl x)] (.inl x :: st) m := e_1 d157_34 (Or.inl rfl) rfl
theorem d157_35 : decode (mt 157).2.1 35 = .ok (.iadd, 1) := by decide +kernel
theorem s157_35 {ls : LV} {st : List AV} {m : MM} {a b : Int32} : go 157 35 ls (.inl b :: .inl a :: st) m = go 157 36 ls (.inl (a + b) :: st) m := e_1 d157_35 (Or.inl rfl) rfl
theorem d157_36 : decode (mt 157).2.1 36 = .ok (.iaload, 1) := by decide +kernel
theorem s157_36 {ls : LV} {st : List AV} {m : MM} {n : Nat} {i : Int32} : go 157 36 ls (.inl i :: .inr (.inr (29, some n)) :: st) m = ixk (ix i (mN m 29 n)) (fun j => go 157 37 ls (.inl (mI m 29 n j) :: st) m) := e_ald d157_36 (fun j hj => by simp only [xi, pI, pA, hj, Option.bind_some]; rfl) (fun hj => by simp only [xi, pI, pA, hj, Option.bind_none])
theorem d157_37 : decode (mt 157).2.1 37 = .ok (.goto 4, 3) := by decide +kernel
theorem s157_37 {ls : LV} {st : List AV} {m : MM} : go 157 37 ls st m = go 157 41 ls st m := e_1 d157_37 (Or.inl rfl) (by rw [xi, jm_some (t := 41) (by decide)]; rfl)
theorem d157_40 : decode (mt 157).2.1 40 = .ok (.iconst 0, 1) := by decide +kernel
theorem s157_40 {ls : LV} {st : List AV} {m : MM} : go 157 40 ls st m = go 157 41 ls (.inl 0 :: st) m := e_1 d157_40 (Or.inl rfl) rfl
theorem d157_41 : decode (mt 157).2.1 41 = .ok (.ireturn, 1) := by decide +kernel
theorem s157_41 {ls : LV} {m : MM} {x : Int32} : go 157 41 ls [.inl x] m = some (some (.inl x), m) := e_int d157_41 (by decide +kernel)
/-! X7_kept: 158 -/
theorem d158_0 : decode (mt 158).2.1 0 = .ok (.aload_n 0, 1) := by decide +kernel
theorem s158_0 {a1 a2 : Option AV} {st : List AV} {m : MM} {x : Nat × Option Nat} : go 158 0 [some (.inr (.inr x)), a1, a2] st m = go 158 1 [some (.inr (.inr x)), a1, a2] (.inr (.inr x) :: st) m := e_1 d158_0 (Or.inl rfl) rfl
theorem d158_1 : decode (mt 158).2.1 1 = .ok (.iload_n 1, 1) := by decide +kernel
theorem s158_1 {a0 a2 : Option AV} {st : List AV} {m : MM} {x : Int32} : go 158 1 [a0, some (.inl x), a2] st m = go 158 2 [a0, some (.inl x), a2] (.inl x :: st) m := e_1 d158_1 (Or.inl rfl) rfl
theorem d158_2 : decode (mt 158).2.1 2 = .ok (.invokevirtual 203, 3) := by decide +kernel
theorem s158_2 {ls : LV} {m : MM} {x0 : Int32} {n : Nat} : go 158 2 ls [.inl x0, .inr (.inr (8, some n))] m = bd (go 104 0 [some (.inr (.inr (8, some n))), some (.inl x0)] [] m) (fun v m2 => go 158 5 ls (v.toList ++ []) m2) := e_virt (y1 := 104) (na := 1) (as := [.inl x0]) (rest := []) d158_2 (by decide +kernel) rfl (by decide +kernel) (show (ent [.inr (.inr (8, some n)), .inl x0]).length ≤ (mt 104).2.2.2.1 from Nat.le_of_ble_eq_true rfl) (cats_le (Nat.le_of_ble_eq_true rfl)) (by decide +kernel)
theorem d158_5 : decode (mt 158).2.1 5 = .ok (.ifCond .eq 35, 3) := by decide +kernel
theorem s158_5 {ls : LV} {st : List AV} {m : MM} {a : Int32} : go 158 5 ls (.inl a :: st) m = if a = 0 then go 158 40 ls st m else go 158 8 ls st m := e_if (t := 40) (b := hc .eq a 0) d158_5 (Or.inl rfl) (by simp only [xi, pI, jm_some (t := 40) (show ((5 : Nat) : Int) + 35 = ((40 : Nat) : Int) by decide), Option.bind_some]) (by simp [hc])
theorem d158_8 : decode (mt 158).2.1 8 = .ok (.iload_n 2, 1) := by decide +kernel
theorem s158_8 {a0 a1 : Option AV} {st : List AV} {m : MM} {x : Int32} : go 158 8 [a0, a1, some (.inl x)] st m = go 158 9 [a0, a1, some (.inl x)] (.inl x :: st) m := e_1 d158_8 (Or.inl rfl) rfl
theorem d158_9 : decode (mt 158).2.1 9 = .ok (.i2l, 1) := by decide +kernel
theorem s158_9 {ls : LV} {st : List AV} {m : MM} {a : Int32} : go 158 9 ls (.inl a :: st) m = go 158 10 ls (.inr (.inl a.toInt64) :: st) m := e_1 d158_9 (Or.inl rfl) rfl
theorem d158_10 : decode (mt 158).2.1 10 = .ok (.lconst 0, 1) := by decide +kernel
theorem s158_10 {ls : LV} {st : List AV} {m : MM} : go 158 10 ls st m = go 158 11 ls (.inr (.inl 0) :: st) m := e_1 d158_10 (Or.inl rfl) rfl
theorem d158_11 : decode (mt 158).2.1 11 = .ok (.aload_n 0, 1) := by decide +kernel
theorem s158_11 {a1 a2 : Option AV} {st : List AV} {m : MM} {x : Nat × Option Nat} : go 158 11 [some (.inr (.inr x)), a1, a2] st m = go 158 12 [some (.inr (.inr x)), a1, a2] (.inr (.inr x) :: st) m := e_1 d158_11 (Or.inl rfl) rfl
theorem d158_12 : decode (mt 158).2.1 12 = .ok (.getfield 42, 3) := by decide +kernel
theorem s158_12 {ls : LV} {st : List AV} {m : MM} {n : Nat} : go 158 12 ls (.inr (.inr (8, some n)) :: st) m = go 158 15 ls (.inr (.inr (28, mR m 8 n 11)) :: st) m := e_1 d158_12 (Or.inl rfl) (by rw [xi, pA, show lk fdL (mt 158).2.2.1 42 = some (8, 11) by decide +kernel]; rfl)
theorem d158_15 : decode (mt 158).2.1 15 = .ok (.iload_n 1, 1) := by decide +kernel
theorem s158_15 {a0 a2 : Option AV} {st : List AV} {m : MM} {x : Int32} : go 158 15 [a0, some (.inl x), a2] st m = go 158 16 [a0, some (.inl x), a2] (.inl x :: st) m := e_1 d158_15 (Or.inl rfl) rfl
theorem d158_16 : decode (mt 158).2.1 16 = .ok (.iaload, 1) := by decide +kernel
theorem s158_16 {ls : LV} {st : List AV} {m : MM} {n : Nat} {i : Int32} : go 158 16 ls (.inl i :: .inr (.inr (28, some n)) :: st) m = ixk (ix i (mN m 28 n)) (fun j => go 158 17 ls (.inl (mI m 28 n j) :: st) m) := e_ald d158_16 (fun j hj => by simp only [xi, pI, pA, hj, Option.bind_some]; rfl) (fun hj => by simp only [xi, pI, pA, hj, Option.bind_none])
theorem d158_17 : decode (mt 158).2.1 17 = .ok (.iconst 1, 1) := by decide +kernel
theorem s158_17 {ls : LV} {st : List AV} {m : MM} : go 158 17 ls st m = go 158 18 ls (.inl 1 :: st) m := e_1 d158_17 (Or.inl rfl) rfl
theorem d158_18 : decode (mt 158).2.1 18 = .ok (.isub, 1) := by decide +kernel
theorem s158_18 {ls : LV} {st : List AV} {m : MM} {a b : Int32} : go 158 18 ls (.inl b :: .inl a :: st) m = go 158 19 ls (.inl (a - b) :: st) m := e_1 d158_18 (Or.inl rfl) rfl
theorem d158_19 : decode (mt 158).2.1 19 = .ok (.i2l, 1) := by decide +kernel
theorem s158_19 {ls : LV} {st : List AV} {m : MM} {a : Int32} : go 158 19 ls (.inl a :: st) m = go 158 20 ls (.inr (.inl a.toInt64) :: st) m := e_1 d158_19 (Or.inl rfl) rfl
theorem d158_20 : decode (mt 158).2.1 20 = .ok (.invokestatic 118, 3) := by decide +kernel
theorem s158_20 {ls : LV} {m : MM} {x0 : Int64} {x1 : Int64} {x2 : Int64} : go 158 20 ls [.inr (.inl x2), .inr (.inl x1), .inr (.inl x0)] m = bd (go 103 0 [some (.inr (.inl x0)), none, some (.inr (.inl x1)), none, some (.inr (.inl x2)), none] [] m) (fun v m2 => go 158 23 ls (v.toList ++ []) m2) := e_stat (y1 := 103) (na := 3) (as := [.inr (.inl x0), .inr (.inl x1), .inr (.inl x2)]) (rest := []) d158_20 (by decide +kernel) rfl (by decide +kernel) (show (ent [.inr (.inl x0), .inr (.inl x1), .inr (.inl x2)]).length ≤ (mt 103).2.2.2.1 from Nat.le_of_ble_eq_true rfl) (cats_le (Nat.le_of_ble_eq_true rfl)) (by decide +kernel)
theorem d158_23 : decode (mt 158).2.1 23 = .ok (.ifCond .eq 17, 3) := by decide +kernel
theorem s158_23 {ls : LV} {st : List AV} {m : MM} {a : Int32} : go 158 23 ls (.inl a :: st) m = if a = 0 then go 158 40 ls st m else go 158 26 ls st m := e_if (t := 40) (b := hc .eq a 0) d158_23 (Or.inl rfl) (by simp only [xi, pI, jm_some (t := 40) (show ((23 : Nat) : Int) + 17 = ((40 : Nat) : Int) by decide), Option.bind_some]) (by simp [hc])
theorem d158_26 : decode (mt 158).2.1 26 = .ok (.aload_n 0, 1) := by decide +kernel
theorem s158_26 {a1 a2 : Option AV} {st : List AV} {m : MM} {x : Nat × Option Nat} : go 158 26 [some (.inr (.inr x)), a1, a2] st m = go 158 27 [some (.inr (.inr x)), a1, a2] (.inr (.inr x) :: st) m := e_1 d158_26 (Or.inl rfl) rfl
theorem d158_27 : decode (mt 158).2.1 27 = .ok (.getfield 48, 3) := by decide +kernel
theorem s158_27 {ls : LV} {st : List AV} {m : MM} {n : Nat} : go 158 27 ls (.inr (.inr (8, some n)) :: st) m = go 158 30 ls (.inr (.inr (30, mR m 8 n 13)) :: st) m := e_1 d158_27 (Or.inl rfl) (by rw [xi, pA, show lk fdL (mt 158).2.2.1 48 = some (8, 13) by decide +kernel]; rfl)
theorem d158_30 : decode (mt 158).2.1 30 = .ok (.bipush 16, 2) := by decide +kernel
theorem s158_30 {ls : LV} {st : List AV} {m : MM} : go 158 30 ls st m = go 158 32 ls (.inl 16 :: st) m := e_1 d158_30 (Or.inl rfl) rfl
theorem d158_32 : decode (mt 158).2.1 32 = .ok (.iload_n 1, 1) := by decide +kernel
theorem s158_32 {a0 a2 : Option AV} {st : List AV} {m : MM} {x : Int32} : go 158 32 [a0, some (.inl x), a2] st m = go 158 33 [a0, some (.inl x), a2] (.inl x :: st) m := e_1 d158_32 (Or.inl rfl) rfl
theorem d158_33 : decode (mt 158).2.1 33 = .ok (.imul, 1) := by decide +kernel
theorem s158_33 {ls : LV} {st : List AV} {m : MM} {a b : Int32} : go 158 33 ls (.inl b :: .inl a :: st) m = go 158 34 ls (.inl (a * b) :: st) m := e_1 d158_33 (Or.inl rfl) rfl
theorem d158_34 : decode (mt 158).2.1 34 = .ok (.iload_n 2, 1) := by decide +kernel
theorem s158_34 {a0 a1 : Option AV} {st : List AV} {m : MM} {x : Int32} : go 158 34 [a0, a1, some (.inl x)] st m = go 158 35 [a0, a1, some (.inl x)] (.inl x :: st) m := e_1 d158_34 (Or.inl rfl) rfl
theorem d158_35 : decode (mt 158).2.1 35 = .ok (.iadd, 1) := by decide +kernel
theorem s158_35 {ls : LV} {st : List AV} {m : MM} {a b : Int32} : go 158 35 ls (.inl b :: .inl a :: st) m = go 158 36 ls (.inl (a + b) :: st) m := e_1 d158_35 (Or.inl rfl) rfl
theorem d158_36 : decode (mt 158).2.1 36 = .ok (.laload, 1) := by decide +kernel
theorem s158_36 {ls : LV} {st : List AV} {m : MM} {n : Nat} {i : Int32} : go 158 36 ls (.inl i :: .inr (.inr (30, some n)) :: st) m = ixk (ix i (mN m 30 n)) (fun j => go 158 37 ls (.inr (.inl (mL m 30 n j)) :: st) m) := e_ald d158_36 (fun j hj => by simp only [xi, pI, pA, hj, Option.bind_some]; rfl) (fun hj => by simp only [xi, pI, pA, hj, Option.bind_none])
theorem d158_37 : decode (mt 158).2.1 37 = .ok (.goto 4, 3) := by decide +kernel
theorem s158_37 {ls : LV} {st : List AV} {m : MM} : go 158 37 ls st m = go 158 41 ls st m := e_1 d158_37 (Or.inl rfl) (by rw [xi, jm_some (t := 41) (by decide)]; rfl)
theorem d158_40 : decode (mt 158).2.1 40 = .ok (.lconst 0, 1) := by decide +kernel
theorem s158_40 {ls : LV} {st : List AV} {m : MM} : go 158 40 ls st m = go 158 41 ls (.inr (.inl 0) :: st) m := e_1 d158_40 (Or.inl rfl) rfl
theorem d158_41 : decode (mt 158).2.1 41 = .ok (.lreturn, 1) := by decide +kernel
theorem s158_41 {ls : LV} {m : MM} {x : Int64} : go 158 41 ls [.inr (.inl x)] m = some (some (.inr (.inl x)), m) := e_long d158_41 (by decide +kernel)
/-! X7_keeper: 159 -/
theorem d159_0 : decode (mt 159).2.1 0 = .ok (.bipush (-4), 2) := by decide +kernel
theorem s159_0 {ls : LV} {st : List AV} {m : MM} : go 159 0 ls st m = go 159 2 ls (.inl (-4) :: st) m := e_1 d159_0 (Or.inl rfl) rfl
theorem d159_2 : decode (mt 159).2.1 2 = .ok (.istore_n 2, 1) := by decide +kernel
theorem s159_2i {a0 a2 a3 a4 : Option AV} {z : Int32} {st : List AV} {m : MM} {x : Int32} : go 159 2 [a0, some (.inl z), a2, a3, a4] (.inl x :: st) m = go 159 3 [a0, some (.inl z), some (.inl x), a3, a4] st m := e_1 d159_2 (Or.inl rfl) rfl
theorem s159_2r {a0 a2 a3 a4 : Option AV} {z : Nat × Option Nat} {st : List AV} {m : MM} {x : Int32} : go 159 2 [a0, some (.inr (.inr z)), a2, a3, a4] (.inl x :: st) m = go 159 3 [a0, some (.inr (.inr z)), some (.inl x), a3, a4] st m := e_1 d159_2 (Or.inl rfl) rfl
theorem s159_2n {a0 a2 a3 a4 : Option AV} {st : List AV} {m : MM} {x : Int32} : go 159 2 [a0, none, a2, a3, a4] (.inl x :: st) m = go 159 3 [a0, none, some (.inl x), a3, a4] st m := e_1 d159_2 (Or.inl rfl) rfl
theorem d159_3 : decode (mt 159).2.1 3 = .ok (.bipush (-4), 2) := by decide +kernel
theorem s159_3 {ls : LV} {st : List AV} {m : MM} : go 159 3 ls st m = go 159 5 ls (.inl (-4) :: st) m := e_1 d159_3 (Or.inl rfl) rfl
theorem d159_5 : decode (mt 159).2.1 5 = .ok (.istore_n 3, 1) := by decide +kernel
theorem s159_5i {a0 a1 a3 a4 : Option AV} {z : Int32} {st : List AV} {m : MM} {x : Int32} : go 159 5 [a0, a1, some (.inl z), a3, a4] (.inl x :: st) m = go 159 6 [a0, a1, some (.inl z), some (.inl x), a4] st m := e_1 d159_5 (Or.inl rfl) rfl
theorem s159_5r {a0 a1 a3 a4 : Option AV} {z : Nat × Option Nat} {st : List AV} {m : MM} {x : Int32} : go 159 5 [a0, a1, some (.inr (.inr z)), a3, a4] (.inl x :: st) m = go 159 6 [a0, a1, some (.inr (.inr z)), some (.inl x), a4] st m := e_1 d159_5 (Or.inl rfl) rfl
theorem s159_5n {a0 a1 a3 a4 : Option AV} {st : List AV} {m : MM} {x : Int32} : go 159 5 [a0, a1, none, a3, a4] (.inl x :: st) m = go 159 6 [a0, a1, none, some (.inl x), a4] st m := e_1 d159_5 (Or.inl rfl) rfl
theorem d159_6 : decode (mt 159).2.1 6 = .ok (.iconst 0, 1) := by decide +kernel
theorem s159_6 {ls : LV} {st : List AV} {m : MM} : go 159 6 ls st m = go 159 7 ls (.inl 0 :: st) m := e_1 d159_6 (Or.inl rfl) rfl
theorem d159_7 : decode (mt 159).2.1 7 = .ok (.istore 4, 2) := by decide +kernel
theorem s159_7i {a0 a1 a2 a4 : Option AV} {z : Int32} {st : List AV} {m : MM} {x : Int32} : go 159 7 [a0, a1, a2, some (.inl z), a4] (.inl x :: st) m = go 159 9 [a0, a1, a2, some (.inl z), some (.inl x)] st m := e_1 d159_7 (Or.inl rfl) rfl
theorem s159_7r {a0 a1 a2 a4 : Option AV} {z : Nat × Option Nat} {st : List AV} {m : MM} {x : Int32} : go 159 7 [a0, a1, a2, some (.inr (.inr z)), a4] (.inl x :: st) m = go 159 9 [a0, a1, a2, some (.inr (.inr z)), some (.inl x)] st m := e_1 d159_7 (Or.inl rfl) rfl
theorem s159_7n {a0 a1 a2 a4 : Option AV} {st : List AV} {m : MM} {x : Int32} : go 159 7 [a0, a1, a2, none, a4] (.inl x :: st) m = go 159 9 [a0, a1, a2, none, some (.inl x)] st m := e_1 d159_7 (Or.inl rfl) rfl
theorem d159_9 : decode (mt 159).2.1 9 = .ok (.iload 4, 2) := by decide +kernel
theorem s159_9 {a0 a1 a2 a3 : Option AV} {st : List AV} {m : MM} {x : Int32} : go 159 9 [a0, a1, a2, a3, some (.inl x)] st m = go 159 11 [a0, a1, a2, a3, some (.inl x)] (.inl x :: st) m := e_1 d159_9 (Or.inl rfl) rfl
theorem d159_11 : decode (mt 159).2.1 11 = .ok (.aload_n 0, 1) := by decide +kernel
theorem s159_11 {a1 a2 a3 a4 : Option AV} {st : List AV} {m : MM} {x : Nat × Option Nat} : go 159 11 [some (.inr (.inr x)), a1, a2, a3, a4] st m = go 159 12 [some (.inr (.inr x)), a1, a2, a3, a4] (.inr (.inr x) :: st) m := e_1 d159_11 (Or.inl rfl) rfl
theorem d159_12 : decode (mt 159).2.1 12 = .ok (.getfield 115, 3) := by decide +kernel
theorem s159_12 {ls : LV} {st : List AV} {m : MM} {n : Nat} : go 159 12 ls (.inr (.inr (8, some n)) :: st) m = go 159 15 ls (.inl (mI m 8 n 0) :: st) m := e_1 d159_12 (Or.inl rfl) (by rw [xi, pA, show lk fdL (mt 159).2.2.1 115 = some (8, 0) by decide +kernel]; rfl)
theorem d159_15 : decode (mt 159).2.1 15 = .ok (.if_icmp .ge 89, 3) := by decide +kernel
theorem s159_15 {ls : LV} {st : List AV} {m : MM} {a b : Int32} : go 159 15 ls (.inl b :: .inl a :: st) m = if b ≤ a then go 159 104 ls st m else go 159 18 ls st m := e_if (t := 104) (b := hc .ge a b) d159_15 (Or.inl rfl) (by simp only [xi, pI, jm_some (t := 104) (show ((15 : Nat) : Int) + 89 = ((104 : Nat) : Int) by decide), Option.bind_some]) (by simp [hc])
theorem d159_18 : decode (mt 159).2.1 18 = .ok (.aload_n 0, 1) := by decide +kernel
theorem s159_18 {a1 a2 a3 a4 : Option AV} {st : List AV} {m : MM} {x : Nat × Option Nat} : go 159 18 [some (.inr (.inr x)), a1, a2, a3, a4] st m = go 159 19 [some (.inr (.inr x)), a1, a2, a3, a4] (.inr (.inr x) :: st) m := e_1 d159_18 (Or.inl rfl) rfl
theorem d159_19 : decode (mt 159).2.1 19 = .ok (.getfield 20, 3) := by decide +kernel
theorem s159_19 {ls : LV} {st : List AV} {m : MM} {n : Nat} : go 159 19 ls (.inr (.inr (8, some n)) :: st) m = go 159 22 ls (.inr (.inr (21, mR m 8 n 4)) :: st) m := e_1 d159_19 (Or.inl rfl) (by rw [xi, pA, show lk fdL (mt 159).2.2.1 20 = some (8, 4) by decide +kernel]; rfl)
theorem d159_22 : decode (mt 159).2.1 22 = .ok (.iload 4, 2) := by decide +kernel
theorem s159_22 {a0 a1 a2 a3 : Option AV} {st : List AV} {m : MM} {x : Int32} : go 159 22 [a0, a1, a2, a3, some (.inl x)] st m = go 159 24 [a0, a1, a2, a3, some (.inl x)] (.inl x :: st) m := e_1 d159_22 (Or.inl rfl) rfl
theorem d159_24 : decode (mt 159).2.1 24 = .ok (.iaload, 1) := by decide +kernel
theorem s159_24 {ls : LV} {st : List AV} {m : MM} {n : Nat} {i : Int32} : go 159 24 ls (.inl i :: .inr (.inr (21, some n)) :: st) m = ixk (ix i (mN m 21 n)) (fun j => go 159 25 ls (.inl (mI m 21 n j) :: st) m) := e_ald d159_24 (fun j hj => by simp only [xi, pI, pA, hj, Option.bind_some]; rfl) (fun hj => by simp only [xi, pI, pA, hj, Option.bind_none])
theorem d159_25 : decode (mt 159).2.1 25 = .ok (.iconst 2, 1) := by decide +kernel
theorem s159_25 {ls : LV} {st : List AV} {m : MM} : go 159 25 ls st m = go 159 26 ls (.inl 2 :: st) m := e_1 d159_25 (Or.inl rfl) rfl
theorem d159_26 : decode (mt 159).2.1 26 = .ok (.if_icmp .ne 72, 3) := by decide +kernel
theorem s159_26 {ls : LV} {st : List AV} {m : MM} {a b : Int32} : go 159 26 ls (.inl b :: .inl a :: st) m = if ¬ a = b then go 159 98 ls st m else go 159 29 ls st m := e_if (t := 98) (b := hc .ne a b) d159_26 (Or.inl rfl) (by simp only [xi, pI, jm_some (t := 98) (show ((26 : Nat) : Int) + 72 = ((98 : Nat) : Int) by decide), Option.bind_some]) (by simp [hc])
theorem d159_29 : decode (mt 159).2.1 29 = .ok (.aload_n 0, 1) := by decide +kernel
theorem s159_29 {a1 a2 a3 a4 : Option AV} {st : List AV} {m : MM} {x : Nat × Option Nat} : go 159 29 [some (.inr (.inr x)), a1, a2, a3, a4] st m = go 159 30 [some (.inr (.inr x)), a1, a2, a3, a4] (.inr (.inr x) :: st) m := e_1 d159_29 (Or.inl rfl) rfl
theorem d159_30 : decode (mt 159).2.1 30 = .ok (.getfield 13, 3) := by decide +kernel
theorem s159_30 {ls : LV} {st : List AV} {m : MM} {n : Nat} : go 159 30 ls (.inr (.inr (8, some n)) :: st) m = go 159 33 ls (.inr (.inr (19, mR m 8 n 2)) :: st) m := e_1 d159_30 (Or.inl rfl) (by rw [xi, pA, show lk fdL (mt 159).2.2.1 13 = some (8, 2) by decide +kernel]; rfl)
theorem d159_33 : decode (mt 159).2.1 33 = .ok (.iload 4, 2) := by decide +kernel
theorem s159_33 {a0 a1 a2 a3 : Option AV} {st : List AV} {m : MM} {x : Int32} : go 159 33 [a0, a1, a2, a3, some (.inl x)] st m = go 159 35 [a0, a1, a2, a3, some (.inl x)] (.inl x :: st) m := e_1 d159_33 (Or.inl rfl) rfl
theorem d159_35 : decode (mt 159).2.1 35 = .ok (.iaload, 1) := by decide +kernel
theorem s159_35 {ls : LV} {st : List AV} {m : MM} {n : Nat} {i : Int32} : go 159 35 ls (.inl i :: .inr (.inr (19, some n)) :: st) m = ixk (ix i (mN m 19 n)) (fun j => go 159 36 ls (.inl (mI m 19 n j) :: st) m) := e_ald d159_35 (fun j hj => by simp only [xi, pI, pA, hj, Option.bind_some]; rfl) (fun hj => by simp only [xi, pI, pA, hj, Option.bind_none])
theorem d159_36 : decode (mt 159).2.1 36 = .ok (.iload_n 1, 1) := by decide +kernel
theorem s159_36 {a0 a2 a3 a4 : Option AV} {st : List AV} {m : MM} {x : Int32} : go 159 36 [a0, some (.inl x), a2, a3, a4] st m = go 159 37 [a0, some (.inl x), a2, a3, a4] (.inl x :: st) m := e_1 d159_36 (Or.inl rfl) rfl
theorem d159_37 : decode (mt 159).2.1 37 = .ok (.if_icmp .gt 30, 3) := by decide +kernel
theorem s159_37 {ls : LV} {st : List AV} {m : MM} {a b : Int32} : go 159 37 ls (.inl b :: .inl a :: st) m = if b < a then go 159 67 ls st m else go 159 40 ls st m := e_if (t := 67) (b := hc .gt a b) d159_37 (Or.inl rfl) (by simp only [xi, pI, jm_some (t := 67) (show ((37 : Nat) : Int) + 30 = ((67 : Nat) : Int) by decide), Option.bind_some]) (by simp [hc])
theorem d159_40 : decode (mt 159).2.1 40 = .ok (.iload_n 2, 1) := by decide +kernel
theorem s159_40 {a0 a1 a3 a4 : Option AV} {st : List AV} {m : MM} {x : Int32} : go 159 40 [a0, a1, some (.inl x), a3, a4] st m = go 159 41 [a0, a1, some (.inl x), a3, a4] (.inl x :: st) m := e_1 d159_40 (Or.inl rfl) rfl
theorem d159_41 : decode (mt 159).2.1 41 = .ok (.bipush (-4), 2) := by decide +kernel
theorem s159_41 {ls : LV} {st : List AV} {m : MM} : go 159 41 ls st m = go 159 43 ls (.inl (-4) :: st) m := e_1 d159_41 (Or.inl rfl) rfl
theorem d159_43 : decode (mt 159).2.1 43 = .ok (.if_icmp .eq 19, 3) := by decide +kernel
theorem s159_43 {ls : LV} {st : List AV} {m : MM} {a b : Int32} : go 159 43 ls (.inl b :: .inl a :: st) m = if a = b then go 159 62 ls st m else go 159 46 ls st m := e_if (t := 62) (b := hc .eq a b) d159_43 (Or.inl rfl) (by simp only [xi, pI, jm_some (t := 62) (show ((43 : Nat) : Int) + 19 = ((62 : Nat) : Int) by decide), Option.bind_some]) (by simp [hc])
theorem d159_46 : decode (mt 159).2.1 46 = .ok (.aload_n 0, 1) := by decide +kernel
theorem s159_46 {a1 a2 a3 a4 : Option AV} {st : List AV} {m : MM} {x : Nat × Option Nat} : go 159 46 [some (.inr (.inr x)), a1, a2, a3, a4] st m = go 159 47 [some (.inr (.inr x)), a1, a2, a3, a4] (.inr (.inr x) :: st) m := e_1 d159_46 (Or.inl rfl) rfl
theorem d159_47 : decode (mt 159).2.1 47 = .ok (.getfield 13, 3) := by decide +kernel
theorem s159_47 {ls : LV} {st : List AV} {m : MM} {n : Nat} : go 159 47 ls (.inr (.inr (8, some n)) :: st) m = go 159 50 ls (.inr (.inr (19, mR m 8 n 2)) :: st) m := e_1 d159_47 (Or.inl rfl) (by rw [xi, pA, show lk fdL (mt 159).2.2.1 13 = some (8, 2) by decide +kernel]; rfl)
theorem d159_50 : decode (mt 159).2.1 50 = .ok (.iload 4, 2) := by decide +kernel
theorem s159_50 {a0 a1 a2 a3 : Option AV} {st : List AV} {m : MM} {x : Int32} : go 159 50 [a0, a1, a2, a3, some (.inl x)] st m = go 159 52 [a0, a1, a2, a3, some (.inl x)] (.inl x :: st) m := e_1 d159_50 (Or.inl rfl) rfl
theorem d159_52 : decode (mt 159).2.1 52 = .ok (.iaload, 1) := by decide +kernel
theorem s159_52 {ls : LV} {st : List AV} {m : MM} {n : Nat} {i : Int32} : go 159 52 ls (.inl i :: .inr (.inr (19, some n)) :: st) m = ixk (ix i (mN m 19 n)) (fun j => go 159 53 ls (.inl (mI m 19 n j) :: st) m) := e_ald d159_52 (fun j hj => by simp only [xi, pI, pA, hj, Option.bind_some]; rfl) (fun hj => by simp only [xi, pI, pA, hj, Option.bind_none])
theorem d159_53 : decode (mt 159).2.1 53 = .ok (.aload_n 0, 1) := by decide +kernel
theorem s159_53 {a1 a2 a3 a4 : Option AV} {st : List AV} {m : MM} {x : Nat × Option Nat} : go 159 53 [some (.inr (.inr x)), a1, a2, a3, a4] st m = go 159 54 [some (.inr (.inr x)), a1, a2, a3, a4] (.inr (.inr x) :: st) m := e_1 d159_53 (Or.inl rfl) rfl
theorem d159_54 : decode (mt 159).2.1 54 = .ok (.getfield 13, 3) := by decide +kernel
theorem s159_54 {ls : LV} {st : List AV} {m : MM} {n : Nat} : go 159 54 ls (.inr (.inr (8, some n)) :: st) m = go 159 57 ls (.inr (.inr (19, mR m 8 n 2)) :: st) m := e_1 d159_54 (Or.inl rfl) (by rw [xi, pA, show lk fdL (mt 159).2.2.1 13 = some (8, 2) by decide +kernel]; rfl)
theorem d159_57 : decode (mt 159).2.1 57 = .ok (.iload_n 2, 1) := by decide +kernel
theorem s159_57 {a0 a1 a3 a4 : Option AV} {st : List AV} {m : MM} {x : Int32} : go 159 57 [a0, a1, some (.inl x), a3, a4] st m = go 159 58 [a0, a1, some (.inl x), a3, a4] (.inl x :: st) m := e_1 d159_57 (Or.inl rfl) rfl
theorem d159_58 : decode (mt 159).2.1 58 = .ok (.iaload, 1) := by decide +kernel
theorem s159_58 {ls : LV} {st : List AV} {m : MM} {n : Nat} {i : Int32} : go 159 58 ls (.inl i :: .inr (.inr (19, some n)) :: st) m = ixk (ix i (mN m 19 n)) (fun j => go 159 59 ls (.inl (mI m 19 n j) :: st) m) := e_ald d159_58 (fun j hj => by simp only [xi, pI, pA, hj, Option.bind_some]; rfl) (fun hj => by simp only [xi, pI, pA, hj, Option.bind_none])
theorem d159_59 : decode (mt 159).2.1 59 = .ok (.if_icmp .le 8, 3) := by decide +kernel
theorem s159_59 {ls : LV} {st : List AV} {m : MM} {a b : Int32} : go 159 59 ls (.inl b :: .inl a :: st) m = if a ≤ b then go 159 67 ls st m else go 159 62 ls st m := e_if (t := 67) (b := hc .le a b) d159_59 (Or.inl rfl) (by simp only [xi, pI, jm_some (t := 67) (show ((59 : Nat) : Int) + 8 = ((67 : Nat) : Int) by decide), Option.bind_some]) (by simp [hc])
theorem d159_62 : decode (mt 159).2.1 62 = .ok (.iload 4, 2) := by decide +kernel
theorem s159_62 {a0 a1 a2 a3 : Option AV} {st : List AV} {m : MM} {x : Int32} : go 159 62 [a0, a1, a2, a3, some (.inl x)] st m = go 159 64 [a0, a1, a2, a3, some (.inl x)] (.inl x :: st) m := e_1 d159_62 (Or.inl rfl) rfl
theorem d159_64 : decode (mt 159).2.1 64 = .ok (.goto 4, 3) := by decide +kernel
theorem s159_64 {ls : LV} {st : List AV} {m : MM} : go 159 64 ls st m = go 159 68 ls st m := e_1 d159_64 (Or.inl rfl) (by rw [xi, jm_some (t := 68) (by decide)]; rfl)
theorem d159_67 : decode (mt 159).2.1 67 = .ok (.iload_n 2, 1) := by decide +kernel
theorem s159_67 {a0 a1 a3 a4 : Option AV} {st : List AV} {m : MM} {x : Int32} : go 159 67 [a0, a1, some (.inl x), a3, a4] st m = go 159 68 [a0, a1, some (.inl x), a3, a4] (.inl x :: st) m := e_1 d159_67 (Or.inl rfl) rfl
theorem d159_68 : decode (mt 159).2.1 68 = .ok (.istore_n 2, 1) := by decide +kernel
theorem s159_68i {a0 a2 a3 a4 : Option AV} {z : Int32} {st : List AV} {m : MM} {x : Int32} : go 159 68 [a0, some (.inl z), a2, a3, a4] (.inl x :: st) m = go 159 69 [a0, some (.inl z), some (.inl x), a3, a4] st m := e_1 d159_68 (Or.inl rfl) rfl
theorem s159_68r {a0 a2 a3 a4 : Option AV} {z : Nat × Option Nat} {st : List AV} {m : MM} {x : Int32} : go 159 68 [a0, some (.inr (.inr z)), a2, a3, a4] (.inl x :: st) m = go 159 69 [a0, some (.inr (.inr z)), some (.inl x), a3, a4] st m := e_1 d159_68 (Or.inl rfl) rfl
theorem s159_68n {a0 a2 a3 a4 : Option AV} {st : List AV} {m : MM} {x : Int32} : go 159 68 [a0, none, a2, a3, a4] (.inl x :: st) m = go 159 69 [a0, none, some (.inl x), a3, a4] st m := e_1 d159_68 (Or.inl rfl) rfl
theorem d159_69 : decode (mt 159).2.1 69 = .ok (.iload_n 3, 1) := by decide +kernel
theorem s159_69 {a0 a1 a2 a4 : Option AV} {st : List AV} {m : MM} {x : Int32} : go 159 69 [a0, a1, a2, some (.inl x), a4] st m = go 159 70 [a0, a1, a2, some (.inl x), a4] (.inl x :: st) m := e_1 d159_69 (Or.inl rfl) rfl
theorem d159_70 : decode (mt 159).2.1 70 = .ok (.bipush (-4), 2) := by decide +kernel
theorem s159_70 {ls : LV} {st : List AV} {m : MM} : go 159 70 ls st m = go 159 72 ls (.inl (-4) :: st) m := e_1 d159_70 (Or.inl rfl) rfl
theorem d159_72 : decode (mt 159).2.1 72 = .ok (.if_icmp .eq 19, 3) := by decide +kernel
theorem s159_72 {ls : LV} {st : List AV} {m : MM} {a b : Int32} : go 159 72 ls (.inl b :: .inl a :: st) m = if a = b then go 159 91 ls st m else go 159 75 ls st m := e_if (t := 91) (b := hc .eq a b) d159_72 (Or.inl rfl) (by simp only [xi, pI, jm_some (t := 91) (show ((72 : Nat) : Int) + 19 = ((91 : Nat) : Int) by decide), Option.bind_some]) (by simp [hc])
theorem d159_75 : decode (mt 159).2.1 75 = .ok (.aload_n 0, 1) := by decide +kernel
theorem s159_75 {a1 a2 a3 a4 : Option AV} {st : List AV} {m : MM} {x : Nat × Option Nat} : go 159 75 [some (.inr (.inr x)), a1, a2, a3, a4] st m = go 159 76 [some (.inr (.inr x)), a1, a2, a3, a4] (.inr (.inr x) :: st) m := e_1 d159_75 (Or.inl rfl) rfl
theorem d159_76 : decode (mt 159).2.1 76 = .ok (.getfield 13, 3) := by decide +kernel
theorem s159_76 {ls : LV} {st : List AV} {m : MM} {n : Nat} : go 159 76 ls (.inr (.inr (8, some n)) :: st) m = go 159 79 ls (.inr (.inr (19, mR m 8 n 2)) :: st) m := e_1 d159_76 (Or.inl rfl) (by rw [xi, pA, show lk fdL (mt 159).2.2.1 13 = some (8, 2) by decide +kernel]; rfl)
theorem d159_79 : decode (mt 159).2.1 79 = .ok (.iload 4, 2) := by decide +kernel
theorem s159_79 {a0 a1 a2 a3 : Option AV} {st : List AV} {m : MM} {x : Int32} : go 159 79 [a0, a1, a2, a3, some (.inl x)] st m = go 159 81 [a0, a1, a2, a3, some (.inl x)] (.inl x :: st) m := e_1 d159_79 (Or.inl rfl) rfl
theorem d159_81 : decode (mt 159).2.1 81 = .ok (.iaload, 1) := by decide +kernel
theorem s159_81 {ls : LV} {st : List AV} {m : MM} {n : Nat} {i : Int32} : go 159 81 ls (.inl i :: .inr (.inr (19, some n)) :: st) m = ixk (ix i (mN m 19 n)) (fun j => go 159 82 ls (.inl (mI m 19 n j) :: st) m) := e_ald d159_81 (fun j hj => by simp only [xi, pI, pA, hj, Option.bind_some]; rfl) (fun hj => by simp only [xi, pI, pA, hj, Option.bind_none])
theorem d159_82 : decode (mt 159).2.1 82 = .ok (.aload_n 0, 1) := by decide +kernel
theorem s159_82 {a1 a2 a3 a4 : Option AV} {st : List AV} {m : MM} {x : Nat × Option Nat} : go 159 82 [some (.inr (.inr x)), a1, a2, a3, a4] st m = go 159 83 [some (.inr (.inr x)), a1, a2, a3, a4] (.inr (.inr x) :: st) m := e_1 d159_82 (Or.inl rfl) rfl
theorem d159_83 : decode (mt 159).2.1 83 = .ok (.getfield 13, 3) := by decide +kernel
theorem s159_83 {ls : LV} {st : List AV} {m : MM} {n : Nat} : go 159 83 ls (.inr (.inr (8, some n)) :: st) m = go 159 86 ls (.inr (.inr (19, mR m 8 n 2)) :: st) m := e_1 d159_83 (Or.inl rfl) (by rw [xi, pA, show lk fdL (mt 159).2.2.1 13 = some (8, 2) by decide +kernel]; rfl)
theorem d159_86 : decode (mt 159).2.1 86 = .ok (.iload_n 3, 1) := by decide +kernel
theorem s159_86 {a0 a1 a2 a4 : Option AV} {st : List AV} {m : MM} {x : Int32} : go 159 86 [a0, a1, a2, some (.inl x), a4] st m = go 159 87 [a0, a1, a2, some (.inl x), a4] (.inl x :: st) m := e_1 d159_86 (Or.inl rfl) rfl
theorem d159_87 : decode (mt 159).2.1 87 = .ok (.iaload, 1) := by decide +kernel
theorem s159_87 {ls : LV} {st : List AV} {m : MM} {n : Nat} {i : Int32} : go 159 87 ls (.inl i :: .inr (.inr (19, some n)) :: st) m = ixk (ix i (mN m 19 n)) (fun j => go 159 88 ls (.inl (mI m 19 n j) :: st) m) := e_ald d159_87 (fun j hj => by simp only [xi, pI, pA, hj, Option.bind_some]; rfl) (fun hj => by simp only [xi, pI, pA, hj, Option.bind_none])
theorem d159_88 : decode (mt 159).2.1 88 = .ok (.if_icmp .ge 8, 3) := by decide +kernel
theorem s159_88 {ls : LV} {st : List AV} {m : MM} {a b : Int32} : go 159 88 ls (.inl b :: .inl a :: st) m = if b ≤ a then go 159 96 ls st m else go 159 91 ls st m := e_if (t := 96) (b := hc .ge a b) d159_88 (Or.inl rfl) (by simp only [xi, pI, jm_some (t := 96) (show ((88 : Nat) : Int) + 8 = ((96 : Nat) : Int) by decide), Option.bind_some]) (by simp [hc])
theorem d159_91 : decode (mt 159).2.1 91 = .ok (.iload 4, 2) := by decide +kernel
theorem s159_91 {a0 a1 a2 a3 : Option AV} {st : List AV} {m : MM} {x : Int32} : go 159 91 [a0, a1, a2, a3, some (.inl x)] st m = go 159 93 [a0, a1, a2, a3, some (.inl x)] (.inl x :: st) m := e_1 d159_91 (Or.inl rfl) rfl
theorem d159_93 : decode (mt 159).2.1 93 = .ok (.goto 4, 3) := by decide +kernel
theorem s159_93 {ls : LV} {st : List AV} {m : MM} : go 159 93 ls st m = go 159 97 ls st m := e_1 d159_93 (Or.inl rfl) (by rw [xi, jm_some (t := 97) (by decide)]; rfl)
theorem d159_96 : decode (mt 159).2.1 96 = .ok (.iload_n 3, 1) := by decide +kernel
theorem s159_96 {a0 a1 a2 a4 : Option AV} {st : List AV} {m : MM} {x : Int32} : go 159 96 [a0, a1, a2, some (.inl x), a4] st m = go 159 97 [a0, a1, a2, some (.inl x), a4] (.inl x :: st) m := e_1 d159_96 (Or.inl rfl) rfl
theorem d159_97 : decode (mt 159).2.1 97 = .ok (.istore_n 3, 1) := by decide +kernel
theorem s159_97i {a0 a1 a3 a4 : Option AV} {z : Int32} {st : List AV} {m : MM} {x : Int32} : go 159 97 [a0, a1, some (.inl z), a3, a4] (.inl x :: st) m = go 159 98 [a0, a1, some (.inl z), some (.inl x), a4] st m := e_1 d159_97 (Or.inl rfl) rfl
theorem s159_97r {a0 a1 a3 a4 : Option AV} {z : Nat × Option Nat} {st : List AV} {m : MM} {x : Int32} : go 159 97 [a0, a1, some (.inr (.inr z)), a3, a4] (.inl x :: st) m = go 159 98 [a0, a1, some (.inr (.inr z)), some (.inl x), a4] st m := e_1 d159_97 (Or.inl rfl) rfl
theorem s159_97n {a0 a1 a3 a4 : Option AV} {st : List AV} {m : MM} {x : Int32} : go 159 97 [a0, a1, none, a3, a4] (.inl x :: st) m = go 159 98 [a0, a1, none, some (.inl x), a4] st m := e_1 d159_97 (Or.inl rfl) rfl
theorem d159_98 : decode (mt 159).2.1 98 = .ok (.iinc 4 1, 3) := by decide +kernel
theorem s159_98i {a0 a1 a2 : Option AV} {z : Int32} {st : List AV} {m : MM} {x : Int32} : go 159 98 [a0, a1, a2, some (.inl z), some (.inl x)] st m = go 159 101 [a0, a1, a2, some (.inl z), some (.inl (x + 1))] st m := e_1 d159_98 (Or.inl rfl) rfl
theorem s159_98r {a0 a1 a2 : Option AV} {z : Nat × Option Nat} {st : List AV} {m : MM} {x : Int32} : go 159 98 [a0, a1, a2, some (.inr (.inr z)), some (.inl x)] st m = go 159 101 [a0, a1, a2, some (.inr (.inr z)), some (.inl (x + 1))] st m := e_1 d159_98 (Or.inl rfl) rfl
theorem s159_98n {a0 a1 a2 : Option AV} {st : List AV} {m : MM} {x : Int32} : go 159 98 [a0, a1, a2, none, some (.inl x)] st m = go 159 101 [a0, a1, a2, none, some (.inl (x + 1))] st m := e_1 d159_98 (Or.inl rfl) rfl
theorem d159_101 : decode (mt 159).2.1 101 = .ok (.goto (-92), 3) := by decide +kernel
theorem s159_101 {ls : LV} {st : List AV} {m : MM} : go 159 101 ls st m = go 159 9 ls st m := e_1 d159_101 (Or.inl rfl) (by rw [xi, jm_some (t := 9) (by decide)]; rfl)
theorem d159_104 : decode (mt 159).2.1 104 = .ok (.iload_n 2, 1) := by decide +kernel
theorem s159_104 {a0 a1 a3 a4 : Option AV} {st : List AV} {m : MM} {x : Int32} : go 159 104 [a0, a1, some (.inl x), a3, a4] st m = go 159 105 [a0, a1, some (.inl x), a3, a4] (.inl x :: st) m := e_1 d159_104 (Or.inl rfl) rfl
theorem d159_105 : decode (mt 159).2.1 105 = .ok (.bipush (-4), 2) := by decide +kernel
theorem s159_105 {ls : LV} {st : List AV} {m : MM} : go 159 105 ls st m = go 159 107 ls (.inl (-4) :: st) m := e_1 d159_105 (Or.inl rfl) rfl
theorem d159_107 : decode (mt 159).2.1 107 = .ok (.if_icmp .ne 7, 3) := by decide +kernel
theorem s159_107 {ls : LV} {st : List AV} {m : MM} {a b : Int32} : go 159 107 ls (.inl b :: .inl a :: st) m = if ¬ a = b then go 159 114 ls st m else go 159 110 ls st m := e_if (t := 114) (b := hc .ne a b) d159_107 (Or.inl rfl) (by simp only [xi, pI, jm_some (t := 114) (show ((107 : Nat) : Int) + 7 = ((114 : Nat) : Int) by decide), Option.bind_some]) (by simp [hc])
theorem d159_110 : decode (mt 159).2.1 110 = .ok (.iload_n 3, 1) := by decide +kernel
theorem s159_110 {a0 a1 a2 a4 : Option AV} {st : List AV} {m : MM} {x : Int32} : go 159 110 [a0, a1, a2, some (.inl x), a4] st m = go 159 111 [a0, a1, a2, some (.inl x), a4] (.inl x :: st) m := e_1 d159_110 (Or.inl rfl) rfl
theorem d159_111 : decode (mt 159).2.1 111 = .ok (.goto 4, 3) := by decide +kernel
theorem s159_111 {ls : LV} {st : List AV} {m : MM} : go 159 111 ls st m = go 159 115 ls st m := e_1 d159_111 (Or.inl rfl) (by rw [xi, jm_some (t := 115) (by decide)]; rfl)
theorem d159_114 : decode (mt 159).2.1 114 = .ok (.iload_n 2, 1) := by decide +kernel
theorem s159_114 {a0 a1 a3 a4 : Option AV} {st : List AV} {m : MM} {x : Int32} : go 159 114 [a0, a1, some (.inl x), a3, a4] st m = go 159 115 [a0, a1, some (.inl x), a3, a4] (.inl x :: st) m := e_1 d159_114 (Or.inl rfl) rfl
theorem d159_115 : decode (mt 159).2.1 115 = .ok (.ireturn, 1) := by decide +kernel
theorem s159_115 {ls : LV} {m : MM} {x : Int32} : go 159 115 ls [.inl x] m = some (some (.inl x), m) := e_int d159_115 (by decide +kernel)
/-! X7_next: 160 -/
theorem d160_0 : decode (mt 160).2.1 0 = .ok (.bipush (-4), 2) := by decide +kernel
theorem s160_0 {ls : LV} {st : List AV} {m : MM} : go 160 0 ls st m = go 160 2 ls (.inl (-4) :: st) m := e_1 d160_0 (Or.inl rfl) rfl
theorem d160_2 : decode (mt 160).2.1 2 = .ok (.istore 4, 2) := by decide +kernel
theorem s160_2i {a0 a1 a2 a4 a5 : Option AV} {z : Int32} {st : List AV} {m : MM} {x : Int32} : go 160 2 [a0, a1, a2, some (.inl z), a4, a5] (.inl x :: st) m = go 160 4 [a0, a1, a2, some (.inl z), some (.inl x), a5] st m := e_1 d160_2 (Or.inl rfl) rfl
theorem s160_2r {a0 a1 a2 a4 a5 : Option AV} {z : Nat × Option Nat} {st : List AV} {m : MM} {x : Int32} : go 160 2 [a0, a1, a2, some (.inr (.inr z)), a4, a5] (.inl x :: st) m = go 160 4 [a0, a1, a2, some (.inr (.inr z)), some (.inl x), a5] st m := e_1 d160_2 (Or.inl rfl) rfl
theorem s160_2n {a0 a1 a2 a4 a5 : Option AV} {st : List AV} {m : MM} {x : Int32} : go 160 2 [a0, a1, a2, none, a4, a5] (.inl x :: st) m = go 160 4 [a0, a1, a2, none, some (.inl x), a5] st m := e_1 d160_2 (Or.inl rfl) rfl
theorem d160_4 : decode (mt 160).2.1 4 = .ok (.iconst 0, 1) := by decide +kernel
theorem s160_4 {ls : LV} {st : List AV} {m : MM} : go 160 4 ls st m = go 160 5 ls (.inl 0 :: st) m := e_1 d160_4 (Or.inl rfl) rfl
theorem d160_5 : decode (mt 160).2.1 5 = .ok (.istore 5, 2) := by decide +kernel
theorem s160_5i {a0 a1 a2 a3 a5 : Option AV} {z : Int32} {st : List AV} {m : MM} {x : Int32} : go 160 5 [a0, a1, a2, a3, some (.inl z), a5] (.inl x :: st) m = go 160 7 [a0, a1, a2, a3, some (.inl z), some (.inl x)] st m := e_1 d160_5 (Or.inl rfl) rfl
theorem s160_5r {a0 a1 a2 a3 a5 : Option AV} {z : Nat × Option Nat} {st : List AV} {m : MM} {x : Int32} : go 160 5 [a0, a1, a2, a3, some (.inr (.inr z)), a5] (.inl x :: st) m = go 160 7 [a0, a1, a2, a3, some (.inr (.inr z)), some (.inl x)] st m := e_1 d160_5 (Or.inl rfl) rfl
theorem s160_5n {a0 a1 a2 a3 a5 : Option AV} {st : List AV} {m : MM} {x : Int32} : go 160 5 [a0, a1, a2, a3, none, a5] (.inl x :: st) m = go 160 7 [a0, a1, a2, a3, none, some (.inl x)] st m := e_1 d160_5 (Or.inl rfl) rfl
theorem d160_7 : decode (mt 160).2.1 7 = .ok (.iload 5, 2) := by decide +kernel
theorem s160_7 {a0 a1 a2 a3 a4 : Option AV} {st : List AV} {m : MM} {x : Int32} : go 160 7 [a0, a1, a2, a3, a4, some (.inl x)] st m = go 160 9 [a0, a1, a2, a3, a4, some (.inl x)] (.inl x :: st) m := e_1 d160_7 (Or.inl rfl) rfl
theorem d160_9 : decode (mt 160).2.1 9 = .ok (.aload_n 0, 1) := by decide +kernel
theorem s160_9 {a1 a2 a3 a4 a5 : Option AV} {st : List AV} {m : MM} {x : Nat × Option Nat} : go 160 9 [some (.inr (.inr x)), a1, a2, a3, a4, a5] st m = go 160 10 [some (.inr (.inr x)), a1, a2, a3, a4, a5] (.inr (.inr x) :: st) m := e_1 d160_9 (Or.inl rfl) rfl
theorem d160_10 : decode (mt 160).2.1 10 = .ok (.getfield 115, 3) := by decide +kernel
theorem s160_10 {ls : LV} {st : List AV} {m : MM} {n : Nat} : go 160 10 ls (.inr (.inr (8, some n)) :: st) m = go 160 13 ls (.inl (mI m 8 n 0) :: st) m := e_1 d160_10 (Or.inl rfl) (by rw [xi, pA, show lk fdL (mt 160).2.2.1 115 = some (8, 0) by decide +kernel]; rfl)
theorem d160_13 : decode (mt 160).2.1 13 = .ok (.if_icmp .ge 128, 3) := by decide +kernel
theorem s160_13 {ls : LV} {st : List AV} {m : MM} {a b : Int32} : go 160 13 ls (.inl b :: .inl a :: st) m = if b ≤ a then go 160 141 ls st m else go 160 16 ls st m := e_if (t := 141) (b := hc .ge a b) d160_13 (Or.inl rfl) (by simp only [xi, pI, jm_some (t := 141) (show ((13 : Nat) : Int) + 128 = ((141 : Nat) : Int) by decide), Option.bind_some]) (by simp [hc])
theorem d160_16 : decode (mt 160).2.1 16 = .ok (.iload 5, 2) := by decide +kernel
theorem s160_16 {a0 a1 a2 a3 a4 : Option AV} {st : List AV} {m : MM} {x : Int32} : go 160 16 [a0, a1, a2, a3, a4, some (.inl x)] st m = go 160 18 [a0, a1, a2, a3, a4, some (.inl x)] (.inl x :: st) m := e_1 d160_16 (Or.inl rfl) rfl
theorem d160_18 : decode (mt 160).2.1 18 = .ok (.iload_n 1, 1) := by decide +kernel
theorem s160_18 {a0 a2 a3 a4 a5 : Option AV} {st : List AV} {m : MM} {x : Int32} : go 160 18 [a0, some (.inl x), a2, a3, a4, a5] st m = go 160 19 [a0, some (.inl x), a2, a3, a4, a5] (.inl x :: st) m := e_1 d160_18 (Or.inl rfl) rfl
theorem d160_19 : decode (mt 160).2.1 19 = .ok (.if_icmp .eq 116, 3) := by decide +kernel
theorem s160_19 {ls : LV} {st : List AV} {m : MM} {a b : Int32} : go 160 19 ls (.inl b :: .inl a :: st) m = if a = b then go 160 135 ls st m else go 160 22 ls st m := e_if (t := 135) (b := hc .eq a b) d160_19 (Or.inl rfl) (by simp only [xi, pI, jm_some (t := 135) (show ((19 : Nat) : Int) + 116 = ((135 : Nat) : Int) by decide), Option.bind_some]) (by simp [hc])
theorem d160_22 : decode (mt 160).2.1 22 = .ok (.aload_n 0, 1) := by decide +kernel
theorem s160_22 {a1 a2 a3 a4 a5 : Option AV} {st : List AV} {m : MM} {x : Nat × Option Nat} : go 160 22 [some (.inr (.inr x)), a1, a2, a3, a4, a5] st m = go 160 23 [some (.inr (.inr x)), a1, a2, a3, a4, a5] (.inr (.inr x) :: st) m := e_1 d160_22 (Or.inl rfl) rfl
theorem d160_23 : decode (mt 160).2.1 23 = .ok (.getfield 20, 3) := by decide +kernel
theorem s160_23 {ls : LV} {st : List AV} {m : MM} {n : Nat} : go 160 23 ls (.inr (.inr (8, some n)) :: st) m = go 160 26 ls (.inr (.inr (21, mR m 8 n 4)) :: st) m := e_1 d160_23 (Or.inl rfl) (by rw [xi, pA, show lk fdL (mt 160).2.2.1 20 = some (8, 4) by decide +kernel]; rfl)
theorem d160_26 : decode (mt 160).2.1 26 = .ok (.iload 5, 2) := by decide +kernel
theorem s160_26 {a0 a1 a2 a3 a4 : Option AV} {st : List AV} {m : MM} {x : Int32} : go 160 26 [a0, a1, a2, a3, a4, some (.inl x)] st m = go 160 28 [a0, a1, a2, a3, a4, some (.inl x)] (.inl x :: st) m := e_1 d160_26 (Or.inl rfl) rfl
theorem d160_28 : decode (mt 160).2.1 28 = .ok (.iaload, 1) := by decide +kernel
theorem s160_28 {ls : LV} {st : List AV} {m : MM} {n : Nat} {i : Int32} : go 160 28 ls (.inl i :: .inr (.inr (21, some n)) :: st) m = ixk (ix i (mN m 21 n)) (fun j => go 160 29 ls (.inl (mI m 21 n j) :: st) m) := e_ald d160_28 (fun j hj => by simp only [xi, pI, pA, hj, Option.bind_some]; rfl) (fun hj => by simp only [xi, pI, pA, hj, Option.bind_none])
theorem d160_29 : decode (mt 160).2.1 29 = .ok (.iconst 2, 1) := by decide +kernel
theorem s160_29 {ls : LV} {st : List AV} {m : MM} : go 160 29 ls st m = go 160 30 ls (.inl 2 :: st) m := e_1 d160_29 (Or.inl rfl) rfl
theorem d160_30 : decode (mt 160).2.1 30 = .ok (.if_icmp .ne 105, 3) := by decide +kernel
theorem s160_30 {ls : LV} {st : List AV} {m : MM} {a b : Int32} : go 160 30 ls (.inl b :: .inl a :: st) m = if ¬ a = b then go 160 135 ls st m else go 160 33 ls st m := e_if (t := 135) (b := hc .ne a b) d160_30 (Or.inl rfl) (by simp only [xi, pI, jm_some (t := 135) (show ((30 : Nat) : Int) + 105 = ((135 : Nat) : Int) by decide), Option.bind_some]) (by simp [hc])
theorem d160_33 : decode (mt 160).2.1 33 = .ok (.aload_n 0, 1) := by decide +kernel
theorem s160_33 {a1 a2 a3 a4 a5 : Option AV} {st : List AV} {m : MM} {x : Nat × Option Nat} : go 160 33 [some (.inr (.inr x)), a1, a2, a3, a4, a5] st m = go 160 34 [some (.inr (.inr x)), a1, a2, a3, a4, a5] (.inr (.inr x) :: st) m := e_1 d160_33 (Or.inl rfl) rfl
theorem d160_34 : decode (mt 160).2.1 34 = .ok (.iload_n 1, 1) := by decide +kernel
theorem s160_34 {a0 a2 a3 a4 a5 : Option AV} {st : List AV} {m : MM} {x : Int32} : go 160 34 [a0, some (.inl x), a2, a3, a4, a5] st m = go 160 35 [a0, some (.inl x), a2, a3, a4, a5] (.inl x :: st) m := e_1 d160_34 (Or.inl rfl) rfl
theorem d160_35 : decode (mt 160).2.1 35 = .ok (.iload 5, 2) := by decide +kernel
theorem s160_35 {a0 a1 a2 a3 a4 : Option AV} {st : List AV} {m : MM} {x : Int32} : go 160 35 [a0, a1, a2, a3, a4, some (.inl x)] st m = go 160 37 [a0, a1, a2, a3, a4, some (.inl x)] (.inl x :: st) m := e_1 d160_35 (Or.inl rfl) rfl
theorem d160_37 : decode (mt 160).2.1 37 = .ok (.iload_n 2, 1) := by decide +kernel
theorem s160_37 {a0 a1 a3 a4 a5 : Option AV} {st : List AV} {m : MM} {x : Int32} : go 160 37 [a0, a1, some (.inl x), a3, a4, a5] st m = go 160 38 [a0, a1, some (.inl x), a3, a4, a5] (.inl x :: st) m := e_1 d160_37 (Or.inl rfl) rfl
theorem d160_38 : decode (mt 160).2.1 38 = .ok (.invokevirtual 182, 3) := by decide +kernel
theorem s160_38 {ls : LV} {m : MM} {x0 : Int32} {x1 : Int32} {x2 : Int32} {n : Nat} : go 160 38 ls [.inl x2, .inl x1, .inl x0, .inr (.inr (8, some n))] m = bd (go 114 0 [some (.inr (.inr (8, some n))), some (.inl x0), some (.inl x1), some (.inl x2)] [] m) (fun v m2 => go 160 41 ls (v.toList ++ []) m2) := e_virt (y1 := 114) (na := 3) (as := [.inl x0, .inl x1, .inl x2]) (rest := []) d160_38 (by decide +kernel) rfl (by decide +kernel) (show (ent [.inr (.inr (8, some n)), .inl x0, .inl x1, .inl x2]).length ≤ (mt 114).2.2.2.1 from Nat.le_of_ble_eq_true rfl) (cats_le (Nat.le_of_ble_eq_true rfl)) (by decide +kernel)
theorem d160_41 : decode (mt 160).2.1 41 = .ok (.ifCond .eq 94, 3) := by decide +kernel
theorem s160_41 {ls : LV} {st : List AV} {m : MM} {a : Int32} : go 160 41 ls (.inl a :: st) m = if a = 0 then go 160 135 ls st m else go 160 44 ls st m := e_if (t := 135) (b := hc .eq a 0) d160_41 (Or.inl rfl) (by simp only [xi, pI, jm_some (t := 135) (show ((41 : Nat) : Int) + 94 = ((135 : Nat) : Int) by decide), Option.bind_some]) (by simp [hc])
theorem d160_44 : decode (mt 160).2.1 44 = .ok (.iload_n 3, 1) := by decide +kernel
theorem s160_44 {a0 a1 a2 a4 a5 : Option AV} {st : List AV} {m : MM} {x : Int32} : go 160 44 [a0, a1, a2, some (.inl x), a4, a5] st m = go 160 45 [a0, a1, a2, some (.inl x), a4, a5] (.inl x :: st) m := e_1 d160_44 (Or.inl rfl) rfl
theorem d160_45 : decode (mt 160).2.1 45 = .ok (.ifCond .ne 46, 3) := by decide +kernel
theorem s160_45 {ls : LV} {st : List AV} {m : MM} {a : Int32} : go 160 45 ls (.inl a :: st) m = if ¬ a = 0 then go 160 91 ls st m else go 160 48 ls st m := e_if (t := 91) (b := hc .ne a 0) d160_45 (Or.inl rfl) (by simp only [xi, pI, jm_some (t := 91) (show ((45 : Nat) : Int) + 46 = ((91 : Nat) : Int) by decide), Option.bind_some]) (by simp [hc])
theorem d160_48 : decode (mt 160).2.1 48 = .ok (.aload_n 0, 1) := by decide +kernel
theorem s160_48 {a1 a2 a3 a4 a5 : Option AV} {st : List AV} {m : MM} {x : Nat × Option Nat} : go 160 48 [some (.inr (.inr x)), a1, a2, a3, a4, a5] st m = go 160 49 [some (.inr (.inr x)), a1, a2, a3, a4, a5] (.inr (.inr x) :: st) m := e_1 d160_48 (Or.inl rfl) rfl
theorem d160_49 : decode (mt 160).2.1 49 = .ok (.getfield 13, 3) := by decide +kernel
theorem s160_49 {ls : LV} {st : List AV} {m : MM} {n : Nat} : go 160 49 ls (.inr (.inr (8, some n)) :: st) m = go 160 52 ls (.inr (.inr (19, mR m 8 n 2)) :: st) m := e_1 d160_49 (Or.inl rfl) (by rw [xi, pA, show lk fdL (mt 160).2.2.1 13 = some (8, 2) by decide +kernel]; rfl)
theorem d160_52 : decode (mt 160).2.1 52 = .ok (.iload 5, 2) := by decide +kernel
theorem s160_52 {a0 a1 a2 a3 a4 : Option AV} {st : List AV} {m : MM} {x : Int32} : go 160 52 [a0, a1, a2, a3, a4, some (.inl x)] st m = go 160 54 [a0, a1, a2, a3, a4, some (.inl x)] (.inl x :: st) m := e_1 d160_52 (Or.inl rfl) rfl
theorem d160_54 : decode (mt 160).2.1 54 = .ok (.iaload, 1) := by decide +kernel
theorem s160_54 {ls : LV} {st : List AV} {m : MM} {n : Nat} {i : Int32} : go 160 54 ls (.inl i :: .inr (.inr (19, some n)) :: st) m = ixk (ix i (mN m 19 n)) (fun j => go 160 55 ls (.inl (mI m 19 n j) :: st) m) := e_ald d160_54 (fun j hj => by simp only [xi, pI, pA, hj, Option.bind_some]; rfl) (fun hj => by simp only [xi, pI, pA, hj, Option.bind_none])
theorem d160_55 : decode (mt 160).2.1 55 = .ok (.aload_n 0, 1) := by decide +kernel
theorem s160_55 {a1 a2 a3 a4 a5 : Option AV} {st : List AV} {m : MM} {x : Nat × Option Nat} : go 160 55 [some (.inr (.inr x)), a1, a2, a3, a4, a5] st m = go 160 56 [some (.inr (.inr x)), a1, a2, a3, a4, a5] (.inr (.inr x) :: st) m := e_1 d160_55 (Or.inl rfl) rfl
theorem d160_56 : decode (mt 160).2.1 56 = .ok (.getfield 13, 3) := by decide +kernel
theorem s160_56 {ls : LV} {st : List AV} {m : MM} {n : Nat} : go 160 56 ls (.inr (.inr (8, some n)) :: st) m = go 160 59 ls (.inr (.inr (19, mR m 8 n 2)) :: st) m := e_1 d160_56 (Or.inl rfl) (by rw [xi, pA, show lk fdL (mt 160).2.2.1 13 = some (8, 2) by decide +kernel]; rfl)
theorem d160_59 : decode (mt 160).2.1 59 = .ok (.iload_n 1, 1) := by decide +kernel
theorem s160_59 {a0 a2 a3 a4 a5 : Option AV} {st : List AV} {m : MM} {x : Int32} : go 160 59 [a0, some (.inl x), a2, a3, a4, a5] st m = go 160 60 [a0, some (.inl x), a2, a3, a4, a5] (.inl x :: st) m := e_1 d160_59 (Or.inl rfl) rfl
theorem d160_60 : decode (mt 160).2.1 60 = .ok (.iaload, 1) := by decide +kernel
theorem s160_60 {ls : LV} {st : List AV} {m : MM} {n : Nat} {i : Int32} : go 160 60 ls (.inl i :: .inr (.inr (19, some n)) :: st) m = ixk (ix i (mN m 19 n)) (fun j => go 160 61 ls (.inl (mI m 19 n j) :: st) m) := e_ald d160_60 (fun j hj => by simp only [xi, pI, pA, hj, Option.bind_some]; rfl) (fun hj => by simp only [xi, pI, pA, hj, Option.bind_none])
theorem d160_61 : decode (mt 160).2.1 61 = .ok (.if_icmp .ge 74, 3) := by decide +kernel
theorem s160_61 {ls : LV} {st : List AV} {m : MM} {a b : Int32} : go 160 61 ls (.inl b :: .inl a :: st) m = if b ≤ a then go 160 135 ls st m else go 160 64 ls st m := e_if (t := 135) (b := hc .ge a b) d160_61 (Or.inl rfl) (by simp only [xi, pI, jm_some (t := 135) (show ((61 : Nat) : Int) + 74 = ((135 : Nat) : Int) by decide), Option.bind_some]) (by simp [hc])
theorem d160_64 : decode (mt 160).2.1 64 = .ok (.iload 4, 2) := by decide +kernel
theorem s160_64 {a0 a1 a2 a3 a5 : Option AV} {st : List AV} {m : MM} {x : Int32} : go 160 64 [a0, a1, a2, a3, some (.inl x), a5] st m = go 160 66 [a0, a1, a2, a3, some (.inl x), a5] (.inl x :: st) m := e_1 d160_64 (Or.inl rfl) rfl
theorem d160_66 : decode (mt 160).2.1 66 = .ok (.bipush (-4), 2) := by decide +kernel
theorem s160_66 {ls : LV} {st : List AV} {m : MM} : go 160 66 ls st m = go 160 68 ls (.inl (-4) :: st) m := e_1 d160_66 (Or.inl rfl) rfl
theorem d160_68 : decode (mt 160).2.1 68 = .ok (.if_icmp .eq 63, 3) := by decide +kernel
theorem s160_68 {ls : LV} {st : List AV} {m : MM} {a b : Int32} : go 160 68 ls (.inl b :: .inl a :: st) m = if a = b then go 160 131 ls st m else go 160 71 ls st m := e_if (t := 131) (b := hc .eq a b) d160_68 (Or.inl rfl) (by simp only [xi, pI, jm_some (t := 131) (show ((68 : Nat) : Int) + 63 = ((131 : Nat) : Int) by decide), Option.bind_some]) (by simp [hc])
theorem d160_71 : decode (mt 160).2.1 71 = .ok (.aload_n 0, 1) := by decide +kernel
theorem s160_71 {a1 a2 a3 a4 a5 : Option AV} {st : List AV} {m : MM} {x : Nat × Option Nat} : go 160 71 [some (.inr (.inr x)), a1, a2, a3, a4, a5] st m = go 160 72 [some (.inr (.inr x)), a1, a2, a3, a4, a5] (.inr (.inr x) :: st) m := e_1 d160_71 (Or.inl rfl) rfl
theorem d160_72 : decode (mt 160).2.1 72 = .ok (.getfield 13, 3) := by decide +kernel
theorem s160_72 {ls : LV} {st : List AV} {m : MM} {n : Nat} : go 160 72 ls (.inr (.inr (8, some n)) :: st) m = go 160 75 ls (.inr (.inr (19, mR m 8 n 2)) :: st) m := e_1 d160_72 (Or.inl rfl) (by rw [xi, pA, show lk fdL (mt 160).2.2.1 13 = some (8, 2) by decide +kernel]; rfl)
theorem d160_75 : decode (mt 160).2.1 75 = .ok (.iload 5, 2) := by decide +kernel
theorem s160_75 {a0 a1 a2 a3 a4 : Option AV} {st : List AV} {m : MM} {x : Int32} : go 160 75 [a0, a1, a2, a3, a4, some (.inl x)] st m = go 160 77 [a0, a1, a2, a3, a4, some (.inl x)] (.inl x :: st) m := e_1 d160_75 (Or.inl rfl) rfl
theorem d160_77 : decode (mt 160).2.1 77 = .ok (.iaload, 1) := by decide +kernel
theorem s160_77 {ls : LV} {st : List AV} {m : MM} {n : Nat} {i : Int32} : go 160 77 ls (.inl i :: .inr (.inr (19, some n)) :: st) m = ixk (ix i (mN m 19 n)) (fun j => go 160 78 ls (.inl (mI m 19 n j) :: st) m) := e_ald d160_77 (fun j hj => by simp only [xi, pI, pA, hj, Option.bind_some]; rfl) (fun hj => by simp only [xi, pI, pA, hj, Option.bind_none])
theorem d160_78 : decode (mt 160).2.1 78 = .ok (.aload_n 0, 1) := by decide +kernel
theorem s160_78 {a1 a2 a3 a4 a5 : Option AV} {st : List AV} {m : MM} {x : Nat × Option Nat} : go 160 78 [some (.inr (.inr x)), a1, a2, a3, a4, a5] st m = go 160 79 [some (.inr (.inr x)), a1, a2, a3, a4, a5] (.inr (.inr x) :: st) m := e_1 d160_78 (Or.inl rfl) rfl
theorem d160_79 : decode (mt 160).2.1 79 = .ok (.getfield 13, 3) := by decide +kernel
theorem s160_79 {ls : LV} {st : List AV} {m : MM} {n : Nat} : go 160 79 ls (.inr (.inr (8, some n)) :: st) m = go 160 82 ls (.inr (.inr (19, mR m 8 n 2)) :: st) m := e_1 d160_79 (Or.inl rfl) (by rw [xi, pA, show lk fdL (mt 160).2.2.1 13 = some (8, 2) by decide +kernel]; rfl)
theorem d160_82 : decode (mt 160).2.1 82 = .ok (.iload 4, 2) := by decide +kernel
theorem s160_82 {a0 a1 a2 a3 a5 : Option AV} {st : List AV} {m : MM} {x : Int32} : go 160 82 [a0, a1, a2, a3, some (.inl x), a5] st m = go 160 84 [a0, a1, a2, a3, some (.inl x), a5] (.inl x :: st) m := e_1 d160_82 (Or.inl rfl) rfl
theorem d160_84 : decode (mt 160).2.1 84 = .ok (.iaload, 1) := by decide +kernel
theorem s160_84 {ls : LV} {st : List AV} {m : MM} {n : Nat} {i : Int32} : go 160 84 ls (.inl i :: .inr (.inr (19, some n)) :: st) m = ixk (ix i (mN m 19 n)) (fun j => go 160 85 ls (.inl (mI m 19 n j) :: st) m) := e_ald d160_84 (fun j hj => by simp only [xi, pI, pA, hj, Option.bind_some]; rfl) (fun hj => by simp only [xi, pI, pA, hj, Option.bind_none])
theorem d160_85 : decode (mt 160).2.1 85 = .ok (.if_icmp .le 50, 3) := by decide +kernel
theorem s160_85 {ls : LV} {st : List AV} {m : MM} {a b : Int32} : go 160 85 ls (.inl b :: .inl a :: st) m = if a ≤ b then go 160 135 ls st m else go 160 88 ls st m := e_if (t := 135) (b := hc .le a b) d160_85 (Or.inl rfl) (by simp only [xi, pI, jm_some (t := 135) (show ((85 : Nat) : Int) + 50 = ((135 : Nat) : Int) by decide), Option.bind_some]) (by simp [hc])
theorem d160_88 : decode (mt 160).2.1 88 = .ok (.goto 43, 3) := by decide +kernel
theorem s160_88 {ls : LV} {st : List AV} {m : MM} : go 160 88 ls st m = go 160 131 ls st m := e_1 d160_88 (Or.inl rfl) (by rw [xi, jm_some (t := 131) (by decide)]; rfl)
theorem d160_91 : decode (mt 160).2.1 91 = .ok (.aload_n 0, 1) := by decide +kernel
theorem s160_91 {a1 a2 a3 a4 a5 : Option AV} {st : List AV} {m : MM} {x : Nat × Option Nat} : go 160 91 [some (.inr (.inr x)), a1, a2, a3, a4, a5] st m = go 160 92 [some (.inr (.inr x)), a1, a2, a3, a4, a5] (.inr (.inr x) :: st) m := e_1 d160_91 (Or.inl rfl) rfl
theorem d160_92 : decode (mt 160).2.1 92 = .ok (.getfield 13, 3) := by decide +kernel
theorem s160_92 {ls : LV} {st : List AV} {m : MM} {n : Nat} : go 160 92 ls (.inr (.inr (8, some n)) :: st) m = go 160 95 ls (.inr (.inr (19, mR m 8 n 2)) :: st) m := e_1 d160_92 (Or.inl rfl) (by rw [xi, pA, show lk fdL (mt 160).2.2.1 13 = some (8, 2) by decide +kernel]; rfl)
theorem d160_95 : decode (mt 160).2.1 95 = .ok (.iload 5, 2) := by decide +kernel
theorem s160_95 {a0 a1 a2 a3 a4 : Option AV} {st : List AV} {m : MM} {x : Int32} : go 160 95 [a0, a1, a2, a3, a4, some (.inl x)] st m = go 160 97 [a0, a1, a2, a3, a4, some (.inl x)] (.inl x :: st) m := e_1 d160_95 (Or.inl rfl) rfl
theorem d160_97 : decode (mt 160).2.1 97 = .ok (.iaload, 1) := by decide +kernel
theorem s160_97 {ls : LV} {st : List AV} {m : MM} {n : Nat} {i : Int32} : go 160 97 ls (.inl i :: .inr (.inr (19, some n)) :: st) m = ixk (ix i (mN m 19 n)) (fun j => go 160 98 ls (.inl (mI m 19 n j) :: st) m) := e_ald d160_97 (fun j hj => by simp only [xi, pI, pA, hj, Option.bind_some]; rfl) (fun hj => by simp only [xi, pI, pA, hj, Option.bind_none])
theorem d160_98 : decode (mt 160).2.1 98 = .ok (.aload_n 0, 1) := by decide +kernel
theorem s160_98 {a1 a2 a3 a4 a5 : Option AV} {st : List AV} {m : MM} {x : Nat × Option Nat} : go 160 98 [some (.inr (.inr x)), a1, a2, a3, a4, a5] st m = go 160 99 [some (.inr (.inr x)), a1, a2, a3, a4, a5] (.inr (.inr x) :: st) m := e_1 d160_98 (Or.inl rfl) rfl
theorem d160_99 : decode (mt 160).2.1 99 = .ok (.getfield 13, 3) := by decide +kernel
theorem s160_99 {ls : LV} {st : List AV} {m : MM} {n : Nat} : go 160 99 ls (.inr (.inr (8, some n)) :: st) m = go 160 102 ls (.inr (.inr (19, mR m 8 n 2)) :: st) m := e_1 d160_99 (Or.inl rfl) (by rw [xi, pA, show lk fdL (mt 160).2.2.1 13 = some (8, 2) by decide +kernel]; rfl)
theorem d160_102 : decode (mt 160).2.1 102 = .ok (.iload_n 1, 1) := by decide +kernel
theorem s160_102 {a0 a2 a3 a4 a5 : Option AV} {st : List AV} {m : MM} {x : Int32} : go 160 102 [a0, some (.inl x), a2, a3, a4, a5] st m = go 160 103 [a0, some (.inl x), a2, a3, a4, a5] (.inl x :: st) m := e_1 d160_102 (Or.inl rfl) rfl
theorem d160_103 : decode (mt 160).2.1 103 = .ok (.iaload, 1) := by decide +kernel
theorem s160_103 {ls : LV} {st : List AV} {m : MM} {n : Nat} {i : Int32} : go 160 103 ls (.inl i :: .inr (.inr (19, some n)) :: st) m = ixk (ix i (mN m 19 n)) (fun j => go 160 104 ls (.inl (mI m 19 n j) :: st) m) := e_ald d160_103 (fun j hj => by simp only [xi, pI, pA, hj, Option.bind_some]; rfl) (fun hj => by simp only [xi, pI, pA, hj, Option.bind_none])
theorem d160_104 : decode (mt 160).2.1 104 = .ok (.if_icmp .le 31, 3) := by decide +kernel
theorem s160_104 {ls : LV} {st : List AV} {m : MM} {a b : Int32} : go 160 104 ls (.inl b :: .inl a :: st) m = if a ≤ b then go 160 135 ls st m else go 160 107 ls st m := e_if (t := 135) (b := hc .le a b) d160_104 (Or.inl rfl) (by simp only [xi, pI, jm_some (t := 135) (show ((104 : Nat) : Int) + 31 = ((135 : Nat) : Int) by decide), Option.bind_some]) (by simp [hc])
theorem d160_107 : decode (mt 160).2.1 107 = .ok (.iload 4, 2) := by decide +kernel
theorem s160_107 {a0 a1 a2 a3 a5 : Option AV} {st : List AV} {m : MM} {x : Int32} : go 160 107 [a0, a1, a2, a3, some (.inl x), a5] st m = go 160 109 [a0, a1, a2, a3, some (.inl x), a5] (.inl x :: st) m := e_1 d160_107 (Or.inl rfl) rfl
theorem d160_109 : decode (mt 160).2.1 109 = .ok (.bipush (-4), 2) := by decide +kernel
theorem s160_109 {ls : LV} {st : List AV} {m : MM} : go 160 109 ls st m = go 160 111 ls (.inl (-4) :: st) m := e_1 d160_109 (Or.inl rfl) rfl
theorem d160_111 : decode (mt 160).2.1 111 = .ok (.if_icmp .eq 20, 3) := by decide +kernel
theorem s160_111 {ls : LV} {st : List AV} {m : MM} {a b : Int32} : go 160 111 ls (.inl b :: .inl a :: st) m = if a = b then go 160 131 ls st m else go 160 114 ls st m := e_if (t := 131) (b := hc .eq a b) d160_111 (Or.inl rfl) (by simp only [xi, pI, jm_some (t := 131) (show ((111 : Nat) : Int) + 20 = ((131 : Nat) : Int) by decide), Option.bind_some]) (by simp [hc])
theorem d160_114 : decode (mt 160).2.1 114 = .ok (.aload_n 0, 1) := by decide +kernel
theorem s160_114 {a1 a2 a3 a4 a5 : Option AV} {st : List AV} {m : MM} {x : Nat × Option Nat} : go 160 114 [some (.inr (.inr x)), a1, a2, a3, a4, a5] st m = go 160 115 [some (.inr (.inr x)), a1, a2, a3, a4, a5] (.inr (.inr x) :: st) m := e_1 d160_114 (Or.inl rfl) rfl
theorem d160_115 : decode (mt 160).2.1 115 = .ok (.getfield 13, 3) := by decide +kernel
theorem s160_115 {ls : LV} {st : List AV} {m : MM} {n : Nat} : go 160 115 ls (.inr (.inr (8, some n)) :: st) m = go 160 118 ls (.inr (.inr (19, mR m 8 n 2)) :: st) m := e_1 d160_115 (Or.inl rfl) (by rw [xi, pA, show lk fdL (mt 160).2.2.1 13 = some (8, 2) by decide +kernel]; rfl)
theorem d160_118 : decode (mt 160).2.1 118 = .ok (.iload 5, 2) := by decide +kernel
theorem s160_118 {a0 a1 a2 a3 a4 : Option AV} {st : List AV} {m : MM} {x : Int32} : go 160 118 [a0, a1, a2, a3, a4, some (.inl x)] st m = go 160 120 [a0, a1, a2, a3, a4, some (.inl x)] (.inl x :: st) m := e_1 d160_118 (Or.inl rfl) rfl
theorem d160_120 : decode (mt 160).2.1 120 = .ok (.iaload, 1) := by decide +kernel
theorem s160_120 {ls : LV} {st : List AV} {m : MM} {n : Nat} {i : Int32} : go 160 120 ls (.inl i :: .inr (.inr (19, some n)) :: st) m = ixk (ix i (mN m 19 n)) (fun j => go 160 121 ls (.inl (mI m 19 n j) :: st) m) := e_ald d160_120 (fun j hj => by simp only [xi, pI, pA, hj, Option.bind_some]; rfl) (fun hj => by simp only [xi, pI, pA, hj, Option.bind_none])
theorem d160_121 : decode (mt 160).2.1 121 = .ok (.aload_n 0, 1) := by decide +kernel
theorem s160_121 {a1 a2 a3 a4 a5 : Option AV} {st : List AV} {m : MM} {x : Nat × Option Nat} : go 160 121 [some (.inr (.inr x)), a1, a2, a3, a4, a5] st m = go 160 122 [some (.inr (.inr x)), a1, a2, a3, a4, a5] (.inr (.inr x) :: st) m := e_1 d160_121 (Or.inl rfl) rfl
theorem d160_122 : decode (mt 160).2.1 122 = .ok (.getfield 13, 3) := by decide +kernel
theorem s160_122 {ls : LV} {st : List AV} {m : MM} {n : Nat} : go 160 122 ls (.inr (.inr (8, some n)) :: st) m = go 160 125 ls (.inr (.inr (19, mR m 8 n 2)) :: st) m := e_1 d160_122 (Or.inl rfl) (by rw [xi, pA, show lk fdL (mt 160).2.2.1 13 = some (8, 2) by decide +kernel]; rfl)
theorem d160_125 : decode (mt 160).2.1 125 = .ok (.iload 4, 2) := by decide +kernel
theorem s160_125 {a0 a1 a2 a3 a5 : Option AV} {st : List AV} {m : MM} {x : Int32} : go 160 125 [a0, a1, a2, a3, some (.inl x), a5] st m = go 160 127 [a0, a1, a2, a3, some (.inl x), a5] (.inl x :: st) m := e_1 d160_125 (Or.inl rfl) rfl
theorem d160_127 : decode (mt 160).2.1 127 = .ok (.iaload, 1) := by decide +kernel
theorem s160_127 {ls : LV} {st : List AV} {m : MM} {n : Nat} {i : Int32} : go 160 127 ls (.inl i :: .inr (.inr (19, some n)) :: st) m = ixk (ix i (mN m 19 n)) (fun j => go 160 128 ls (.inl (mI m 19 n j) :: st) m) := e_ald d160_127 (fun j hj => by simp only [xi, pI, pA, hj, Option.bind_some]; rfl) (fun hj => by simp only [xi, pI, pA, hj, Option.bind_none])
theorem d160_128 : decode (mt 160).2.1 128 = .ok (.if_icmp .ge 7, 3) := by decide +kernel
theorem s160_128 {ls : LV} {st : List AV} {m : MM} {a b : Int32} : go 160 128 ls (.inl b :: .inl a :: st) m = if b ≤ a then go 160 135 ls st m else go 160 131 ls st m := e_if (t := 135) (b := hc .ge a b) d160_128 (Or.inl rfl) (by simp only [xi, pI, jm_some (t := 135) (show ((128 : Nat) : Int) + 7 = ((135 : Nat) : Int) by decide), Option.bind_some]) (by simp [hc])
theorem d160_131 : decode (mt 160).2.1 131 = .ok (.iload 5, 2) := by decide +kernel
theorem s160_131 {a0 a1 a2 a3 a4 : Option AV} {st : List AV} {m : MM} {x : Int32} : go 160 131 [a0, a1, a2, a3, a4, some (.inl x)] st m = go 160 133 [a0, a1, a2, a3, a4, some (.inl x)] (.inl x :: st) m := e_1 d160_131 (Or.inl rfl) rfl
theorem d160_133 : decode (mt 160).2.1 133 = .ok (.istore 4, 2) := by decide +kernel
theorem s160_133i {a0 a1 a2 a4 a5 : Option AV} {z : Int32} {st : List AV} {m : MM} {x : Int32} : go 160 133 [a0, a1, a2, some (.inl z), a4, a5] (.inl x :: st) m = go 160 135 [a0, a1, a2, some (.inl z), some (.inl x), a5] st m := e_1 d160_133 (Or.inl rfl) rfl
theorem s160_133r {a0 a1 a2 a4 a5 : Option AV} {z : Nat × Option Nat} {st : List AV} {m : MM} {x : Int32} : go 160 133 [a0, a1, a2, some (.inr (.inr z)), a4, a5] (.inl x :: st) m = go 160 135 [a0, a1, a2, some (.inr (.inr z)), some (.inl x), a5] st m := e_1 d160_133 (Or.inl rfl) rfl
theorem s160_133n {a0 a1 a2 a4 a5 : Option AV} {st : List AV} {m : MM} {x : Int32} : go 160 133 [a0, a1, a2, none, a4, a5] (.inl x :: st) m = go 160 135 [a0, a1, a2, none, some (.inl x), a5] st m := e_1 d160_133 (Or.inl rfl) rfl
theorem d160_135 : decode (mt 160).2.1 135 = .ok (.iinc 5 1, 3) := by decide +kernel
theorem s160_135i {a0 a1 a2 a3 : Option AV} {z : Int32} {st : List AV} {m : MM} {x : Int32} : go 160 135 [a0, a1, a2, a3, some (.inl z), some (.inl x)] st m = go 160 138 [a0, a1, a2, a3, some (.inl z), some (.inl (x + 1))] st m := e_1 d160_135 (Or.inl rfl) rfl
theorem s160_135r {a0 a1 a2 a3 : Option AV} {z : Nat × Option Nat} {st : List AV} {m : MM} {x : Int32} : go 160 135 [a0, a1, a2, a3, some (.inr (.inr z)), some (.inl x)] st m = go 160 138 [a0, a1, a2, a3, some (.inr (.inr z)), some (.inl (x + 1))] st m := e_1 d160_135 (Or.inl rfl) rfl
theorem s160_135n {a0 a1 a2 a3 : Option AV} {st : List AV} {m : MM} {x : Int32} : go 160 135 [a0, a1, a2, a3, none, some (.inl x)] st m = go 160 138 [a0, a1, a2, a3, none, some (.inl (x + 1))] st m := e_1 d160_135 (Or.inl rfl) rfl
theorem d160_138 : decode (mt 160).2.1 138 = .ok (.goto (-131), 3) := by decide +kernel
theorem s160_138 {ls : LV} {st : List AV} {m : MM} : go 160 138 ls st m = go 160 7 ls st m := e_1 d160_138 (Or.inl rfl) (by rw [xi, jm_some (t := 7) (by decide)]; rfl)
theorem d160_141 : decode (mt 160).2.1 141 = .ok (.iload 4, 2) := by decide +kernel
theorem s160_141 {a0 a1 a2 a3 a5 : Option AV} {st : List AV} {m : MM} {x : Int32} : go 160 141 [a0, a1, a2, a3, some (.inl x), a5] st m = go 160 143 [a0, a1, a2, a3, some (.inl x), a5] (.inl x :: st) m := e_1 d160_141 (Or.inl rfl) rfl
theorem d160_143 : decode (mt 160).2.1 143 = .ok (.ireturn, 1) := by decide +kernel
theorem s160_143 {ls : LV} {m : MM} {x : Int32} : go 160 143 ls [.inl x] m = some (some (.inl x), m) := e_int d160_143 (by decide +kernel)
/-! X7_row: 161 -/
theorem d161_0 : decode (mt 161).2.1 0 = .ok (.aload_n 0, 1) := by decide +kernel
theorem s161_0 {a1 a2 a3 a4 a5 a6 : Option AV} {st : List AV} {m : MM} {x : Nat × Option Nat} : go 161 0 [some (.inr (.inr x)), a1, a2, a3, a4, a5, a6] st m = go 161 1 [some (.inr (.inr x)), a1, a2, a3, a4, a5, a6] (.inr (.inr x) :: st) m := e_1 d161_0 (Or.inl rfl) rfl
theorem d161_1 : decode (mt 161).2.1 1 = .ok (.iload_n 1, 1) := by decide +kernel
theorem s161_1 {a0 a2 a3 a4 a5 a6 : Option AV} {st : List AV} {m : MM} {x : Int32} : go 161 1 [a0, some (.inl x), a2, a3, a4, a5, a6] st m = go 161 2 [a0, some (.inl x), a2, a3, a4, a5, a6] (.inl x :: st) m := e_1 d161_1 (Or.inl rfl) rfl
theorem d161_2 : decode (mt 161).2.1 2 = .ok (.invokevirtual 203, 3) := by decide +kernel
theorem s161_2 {ls : LV} {m : MM} {x0 : Int32} {n : Nat} : go 161 2 ls [.inl x0, .inr (.inr (8, some n))] m = bd (go 104 0 [some (.inr (.inr (8, some n))), some (.inl x0)] [] m) (fun v m2 => go 161 5 ls (v.toList ++ []) m2) := e_virt (y1 := 104) (na := 1) (as := [.inl x0]) (rest := []) d161_2 (by decide +kernel) rfl (by decide +kernel) (show (ent [.inr (.inr (8, some n)), .inl x0]).length ≤ (mt 104).2.2.2.1 from Nat.le_of_ble_eq_true rfl) (cats_le (Nat.le_of_ble_eq_true rfl)) (by decide +kernel)
theorem d161_5 : decode (mt 161).2.1 5 = .ok (.ifCond .eq 15, 3) := by decide +kernel
theorem s161_5 {ls : LV} {st : List AV} {m : MM} {a : Int32} : go 161 5 ls (.inl a :: st) m = if a = 0 then go 161 20 ls st m else go 161 8 ls st m := e_if (t := 20) (b := hc .eq a 0) d161_5 (Or.inl rfl) (by simp only [xi, pI, jm_some (t := 20) (show ((5 : Nat) : Int) + 15 = ((20 : Nat) : Int) by decide), Option.bind_some]) (by simp [hc])
theorem d161_8 : decode (mt 161).2.1 8 = .ok (.iload_n 2, 1) := by decide +kernel
theorem s161_8 {a0 a1 a3 a4 a5 a6 : Option AV} {st : List AV} {m : MM} {x : Int32} : go 161 8 [a0, a1, some (.inl x), a3, a4, a5, a6] st m = go 161 9 [a0, a1, some (.inl x), a3, a4, a5, a6] (.inl x :: st) m := e_1 d161_8 (Or.inl rfl) rfl
theorem d161_9 : decode (mt 161).2.1 9 = .ok (.i2l, 1) := by decide +kernel
theorem s161_9 {ls : LV} {st : List AV} {m : MM} {a : Int32} : go 161 9 ls (.inl a :: st) m = go 161 10 ls (.inr (.inl a.toInt64) :: st) m := e_1 d161_9 (Or.inl rfl) rfl
theorem d161_10 : decode (mt 161).2.1 10 = .ok (.lconst 0, 1) := by decide +kernel
theorem s161_10 {ls : LV} {st : List AV} {m : MM} : go 161 10 ls st m = go 161 11 ls (.inr (.inl 0) :: st) m := e_1 d161_10 (Or.inl rfl) rfl
theorem d161_11 : decode (mt 161).2.1 11 = .ok (.ldc2_w 267, 3) := by decide +kernel
theorem s161_11 {ls : LV} {st : List AV} {m : MM} : go 161 11 ls st m = go 161 14 ls (.inr (.inl 8) :: st) m := e_1 d161_11 (Or.inl rfl) (by rw [xi, show lk c2L (mt 161).2.2.1 267 = some 8 by decide +kernel]; rfl)
theorem d161_14 : decode (mt 161).2.1 14 = .ok (.invokestatic 118, 3) := by decide +kernel
theorem s161_14 {ls : LV} {m : MM} {x0 : Int64} {x1 : Int64} {x2 : Int64} : go 161 14 ls [.inr (.inl x2), .inr (.inl x1), .inr (.inl x0)] m = bd (go 103 0 [some (.inr (.inl x0)), none, some (.inr (.inl x1)), none, some (.inr (.inl x2)), none] [] m) (fun v m2 => go 161 17 ls (v.toList ++ []) m2) := e_stat (y1 := 103) (na := 3) (as := [.inr (.inl x0), .inr (.inl x1), .inr (.inl x2)]) (rest := []) d161_14 (by decide +kernel) rfl (by decide +kernel) (show (ent [.inr (.inl x0), .inr (.inl x1), .inr (.inl x2)]).length ≤ (mt 103).2.2.2.1 from Nat.le_of_ble_eq_true rfl) (cats_le (Nat.le_of_ble_eq_true rfl)) (by decide +kernel)
theorem d161_17 : decode (mt 161).2.1 17 = .ok (.ifCond .ne 5, 3) := by decide +kernel
theorem s161_17 {ls : LV} {st : List AV} {m : MM} {a : Int32} : go 161 17 ls (.inl a :: st) m = if ¬ a = 0 then go 161 22 ls st m else go 161 20 ls st m := e_if (t := 22) (b := hc .ne a 0) d161_17 (Or.inl rfl) (by simp only [xi, pI, jm_some (t := 22) (show ((17 : Nat) : Int) + 5 = ((22 : Nat) : Int) by decide), Option.bind_some]) (by simp [hc])
theorem d161_20 : decode (mt 161).2.1 20 = .ok (.iconst (-1), 1) := by decide +kernel
theorem s161_20 {ls : LV} {st : List AV} {m : MM} : go 161 20 ls st m = go 161 21 ls (.inl (-1) :: st) m := e_1 d161_20 (Or.inl rfl) rfl
theorem d161_21 : decode (mt 161).2.1 21 = .ok (.ireturn, 1) := by decide +kernel
theorem s161_21 {ls : LV} {m : MM} {x : Int32} : go 161 21 ls [.inl x] m = some (some (.inl x), m) := e_int d161_21 (by decide +kernel)
theorem d161_22 : decode (mt 161).2.1 22 = .ok (.iconst 0, 1) := by decide +kernel
theorem s161_22 {ls : LV} {st : List AV} {m : MM} : go 161 22 ls st m = go 161 23 ls (.inl 0 :: st) m := e_1 d161_22 (Or.inl rfl) rfl
theorem d161_23 : decode (mt 161).2.1 23 = .ok (.istore 4, 2) := by decide +kernel
theorem s161_23i {a0 a1 a2 a4 a5 a6 : Option AV} {z : Int32} {st : List AV} {m : MM} {x : Int32} : go 161 23 [a0, a1, a2, some (.inl z), a4, a5, a6] (.inl x :: st) m = go 161 25 [a0, a1, a2, some (.inl z), some (.inl x), a5, a6] st m := e_1 d161_23 (Or.inl rfl) rfl
theorem s161_23r {a0 a1 a2 a4 a5 a6 : Option AV} {z : Nat × Option Nat} {st : List AV} {m : MM} {x : Int32} : go 161 23 [a0, a1, a2, some (.inr (.inr z)), a4, a5, a6] (.inl x :: st) m = go 161 25 [a0, a1, a2, some (.inr (.inr z)), some (.inl x), a5, a6] st m := e_1 d161_23 (Or.inl rfl) rfl
theorem s161_23n {a0 a1 a2 a4 a5 a6 : Option AV} {st : List AV} {m : MM} {x : Int32} : go 161 23 [a0, a1, a2, none, a4, a5, a6] (.inl x :: st) m = go 161 25 [a0, a1, a2, none, some (.inl x), a5, a6] st m := e_1 d161_23 (Or.inl rfl) rfl
theorem d161_25 : decode (mt 161).2.1 25 = .ok (.iload 4, 2) := by decide +kernel
theorem s161_25 {a0 a1 a2 a3 a5 a6 : Option AV} {st : List AV} {m : MM} {x : Int32} : go 161 25 [a0, a1, a2, a3, some (.inl x), a5, a6] st m = go 161 27 [a0, a1, a2, a3, some (.inl x), a5, a6] (.inl x :: st) m := e_1 d161_25 (Or.inl rfl) rfl
theorem d161_27 : decode (mt 161).2.1 27 = .ok (.aload_n 0, 1) := by decide +kernel
theorem s161_27 {a1 a2 a3 a4 a5 a6 : Option AV} {st : List AV} {m : MM} {x : Nat × Option Nat} : go 161 27 [some (.inr (.inr x)), a1, a2, a3, a4, a5, a6] st m = go 161 28 [some (.inr (.inr x)), a1, a2, a3, a4, a5, a6] (.inr (.inr x) :: st) m := e_1 d161_27 (Or.inl rfl) rfl
theorem d161_28 : decode (mt 161).2.1 28 = .ok (.getfield 115, 3) := by decide +kernel
theorem s161_28 {ls : LV} {st : List AV} {m : MM} {n : Nat} : go 161 28 ls (.inr (.inr (8, some n)) :: st) m = go 161 31 ls (.inl (mI m 8 n 0) :: st) m := e_1 d161_28 (Or.inl rfl) (by rw [xi, pA, show lk fdL (mt 161).2.2.1 115 = some (8, 0) by decide +kernel]; rfl)
theorem d161_31 : decode (mt 161).2.1 31 = .ok (.if_icmp .ge 110, 3) := by decide +kernel
theorem s161_31 {ls : LV} {st : List AV} {m : MM} {a b : Int32} : go 161 31 ls (.inl b :: .inl a :: st) m = if b ≤ a then go 161 141 ls st m else go 161 34 ls st m := e_if (t := 141) (b := hc .ge a b) d161_31 (Or.inl rfl) (by simp only [xi, pI, jm_some (t := 141) (show ((31 : Nat) : Int) + 110 = ((141 : Nat) : Int) by decide), Option.bind_some]) (by simp [hc])
theorem d161_34 : decode (mt 161).2.1 34 = .ok (.aload_n 0, 1) := by decide +kernel
theorem s161_34 {a1 a2 a3 a4 a5 a6 : Option AV} {st : List AV} {m : MM} {x : Nat × Option Nat} : go 161 34 [some (.inr (.inr x)), a1, a2, a3, a4, a5, a6] st m = go 161 35 [some (.inr (.inr x)), a1, a2, a3, a4, a5, a6] (.inr (.inr x) :: st) m := e_1 d161_34 (Or.inl rfl) rfl
theorem d161_35 : decode (mt 161).2.1 35 = .ok (.getfield 20, 3) := by decide +kernel
theorem s161_35 {ls : LV} {st : List AV} {m : MM} {n : Nat} : go 161 35 ls (.inr (.inr (8, some n)) :: st) m = go 161 38 ls (.inr (.inr (21, mR m 8 n 4)) :: st) m := e_1 d161_35 (Or.inl rfl) (by rw [xi, pA, show lk fdL (mt 161).2.2.1 20 = some (8, 4) by decide +kernel]; rfl)
theorem d161_38 : decode (mt 161).2.1 38 = .ok (.iload 4, 2) := by decide +kernel
theorem s161_38 {a0 a1 a2 a3 a5 a6 : Option AV} {st : List AV} {m : MM} {x : Int32} : go 161 38 [a0, a1, a2, a3, some (.inl x), a5, a6] st m = go 161 40 [a0, a1, a2, a3, some (.inl x), a5, a6] (.inl x :: st) m := e_1 d161_38 (Or.inl rfl) rfl
theorem d161_40 : decode (mt 161).2.1 40 = .ok (.iaload, 1) := by decide +kernel
theorem s161_40 {ls : LV} {st : List AV} {m : MM} {n : Nat} {i : Int32} : go 161 40 ls (.inl i :: .inr (.inr (21, some n)) :: st) m = ixk (ix i (mN m 21 n)) (fun j => go 161 41 ls (.inl (mI m 21 n j) :: st) m) := e_ald d161_40 (fun j hj => by simp only [xi, pI, pA, hj, Option.bind_some]; rfl) (fun hj => by simp only [xi, pI, pA, hj, Option.bind_none])
theorem d161_41 : decode (mt 161).2.1 41 = .ok (.iconst 2, 1) := by decide +kernel
theorem s161_41 {ls : LV} {st : List AV} {m : MM} : go 161 41 ls st m = go 161 42 ls (.inl 2 :: st) m := e_1 d161_41 (Or.inl rfl) rfl
theorem d161_42 : decode (mt 161).2.1 42 = .ok (.if_icmp .ne 93, 3) := by decide +kernel
theorem s161_42 {ls : LV} {st : List AV} {m : MM} {a b : Int32} : go 161 42 ls (.inl b :: .inl a :: st) m = if ¬ a = b then go 161 135 ls st m else go 161 45 ls st m := e_if (t := 135) (b := hc .ne a b) d161_42 (Or.inl rfl) (by simp only [xi, pI, jm_some (t := 135) (show ((42 : Nat) : Int) + 93 = ((135 : Nat) : Int) by decide), Option.bind_some]) (by simp [hc])
theorem d161_45 : decode (mt 161).2.1 45 = .ok (.aload_n 0, 1) := by decide +kernel
theorem s161_45 {a1 a2 a3 a4 a5 a6 : Option AV} {st : List AV} {m : MM} {x : Nat × Option Nat} : go 161 45 [some (.inr (.inr x)), a1, a2, a3, a4, a5, a6] st m = go 161 46 [some (.inr (.inr x)), a1, a2, a3, a4, a5, a6] (.inr (.inr x) :: st) m := e_1 d161_45 (Or.inl rfl) rfl
theorem d161_46 : decode (mt 161).2.1 46 = .ok (.iload_n 1, 1) := by decide +kernel
theorem s161_46 {a0 a2 a3 a4 a5 a6 : Option AV} {st : List AV} {m : MM} {x : Int32} : go 161 46 [a0, some (.inl x), a2, a3, a4, a5, a6] st m = go 161 47 [a0, some (.inl x), a2, a3, a4, a5, a6] (.inl x :: st) m := e_1 d161_46 (Or.inl rfl) rfl
theorem d161_47 : decode (mt 161).2.1 47 = .ok (.iload 4, 2) := by decide +kernel
theorem s161_47 {a0 a1 a2 a3 a5 a6 : Option AV} {st : List AV} {m : MM} {x : Int32} : go 161 47 [a0, a1, a2, a3, some (.inl x), a5, a6] st m = go 161 49 [a0, a1, a2, a3, some (.inl x), a5, a6] (.inl x :: st) m := e_1 d161_47 (Or.inl rfl) rfl
theorem d161_49 : decode (mt 161).2.1 49 = .ok (.iload_n 2, 1) := by decide +kernel
theorem s161_49 {a0 a1 a3 a4 a5 a6 : Option AV} {st : List AV} {m : MM} {x : Int32} : go 161 49 [a0, a1, some (.inl x), a3, a4, a5, a6] st m = go 161 50 [a0, a1, some (.inl x), a3, a4, a5, a6] (.inl x :: st) m := e_1 d161_49 (Or.inl rfl) rfl
theorem d161_50 : decode (mt 161).2.1 50 = .ok (.invokevirtual 182, 3) := by decide +kernel
theorem s161_50 {ls : LV} {m : MM} {x0 : Int32} {x1 : Int32} {x2 : Int32} {n : Nat} : go 161 50 ls [.inl x2, .inl x1, .inl x0, .inr (.inr (8, some n))] m = bd (go 114 0 [some (.inr (.inr (8, some n))), some (.inl x0), some (.inl x1), some (.inl x2)] [] m) (fun v m2 => go 161 53 ls (v.toList ++ []) m2) := e_virt (y1 := 114) (na := 3) (as := [.inl x0, .inl x1, .inl x2]) (rest := []) d161_50 (by decide +kernel) rfl (by decide +kernel) (show (ent [.inr (.inr (8, some n)), .inl x0, .inl x1, .inl x2]).length ≤ (mt 114).2.2.2.1 from Nat.le_of_ble_eq_true rfl) (cats_le (Nat.le_of_ble_eq_true rfl)) (by decide +kernel)
theorem d161_53 : decode (mt 161).2.1 53 = .ok (.ifCond .eq 82, 3) := by decide +kernel
theorem s161_53 {ls : LV} {st : List AV} {m : MM} {a : Int32} : go 161 53 ls (.inl a :: st) m = if a = 0 then go 161 135 ls st m else go 161 56 ls st m := e_if (t := 135) (b := hc .eq a 0) d161_53 (Or.inl rfl) (by simp only [xi, pI, jm_some (t := 135) (show ((53 : Nat) : Int) + 82 = ((135 : Nat) : Int) by decide), Option.bind_some]) (by simp [hc])
theorem d161_56 : decode (mt 161).2.1 56 = .ok (.iconst 0, 1) := by decide +kernel
theorem s161_56 {ls : LV} {st : List AV} {m : MM} : go 161 56 ls st m = go 161 57 ls (.inl 0 :: st) m := e_1 d161_56 (Or.inl rfl) rfl
theorem d161_57 : decode (mt 161).2.1 57 = .ok (.istore 5, 2) := by decide +kernel
theorem s161_57i {a0 a1 a2 a3 a5 a6 : Option AV} {z : Int32} {st : List AV} {m : MM} {x : Int32} : go 161 57 [a0, a1, a2, a3, some (.inl z), a5, a6] (.inl x :: st) m = go 161 59 [a0, a1, a2, a3, some (.inl z), some (.inl x), a6] st m := e_1 d161_57 (Or.inl rfl) rfl
theorem s161_57r {a0 a1 a2 a3 a5 a6 : Option AV} {z : Nat × Option Nat} {st : List AV} {m : MM} {x : Int32} : go 161 57 [a0, a1, a2, a3, some (.inr (.inr z)), a5, a6] (.inl x :: st) m = go 161 59 [a0, a1, a2, a3, some (.inr (.inr z)), some (.inl x), a6] st m := e_1 d161_57 (Or.inl rfl) rfl
theorem s161_57n {a0 a1 a2 a3 a5 a6 : Option AV} {st : List AV} {m : MM} {x : Int32} : go 161 57 [a0, a1, a2, a3, none, a5, a6] (.inl x :: st) m = go 161 59 [a0, a1, a2, a3, none, some (.inl x), a6] st m := e_1 d161_57 (Or.inl rfl) rfl
theorem d161_59 : decode (mt 161).2.1 59 = .ok (.iconst 0, 1) := by decide +kernel
theorem s161_59 {ls : LV} {st : List AV} {m : MM} : go 161 59 ls st m = go 161 60 ls (.inl 0 :: st) m := e_1 d161_59 (Or.inl rfl) rfl
theorem d161_60 : decode (mt 161).2.1 60 = .ok (.istore 6, 2) := by decide +kernel
theorem s161_60i {a0 a1 a2 a3 a4 a6 : Option AV} {z : Int32} {st : List AV} {m : MM} {x : Int32} : go 161 60 [a0, a1, a2, a3, a4, some (.inl z), a6] (.inl x :: st) m = go 161 62 [a0, a1, a2, a3, a4, some (.inl z), some (.inl x)] st m := e_1 d161_60 (Or.inl rfl) rfl
theorem s161_60r {a0 a1 a2 a3 a4 a6 : Option AV} {z : Nat × Option Nat} {st : List AV} {m : MM} {x : Int32} : go 161 60 [a0, a1, a2, a3, a4, some (.inr (.inr z)), a6] (.inl x :: st) m = go 161 62 [a0, a1, a2, a3, a4, some (.inr (.inr z)), some (.inl x)] st m := e_1 d161_60 (Or.inl rfl) rfl
theorem s161_60n {a0 a1 a2 a3 a4 a6 : Option AV} {st : List AV} {m : MM} {x : Int32} : go 161 60 [a0, a1, a2, a3, a4, none, a6] (.inl x :: st) m = go 161 62 [a0, a1, a2, a3, a4, none, some (.inl x)] st m := e_1 d161_60 (Or.inl rfl) rfl
theorem d161_62 : decode (mt 161).2.1 62 = .ok (.iload 6, 2) := by decide +kernel
theorem s161_62 {a0 a1 a2 a3 a4 a5 : Option AV} {st : List AV} {m : MM} {x : Int32} : go 161 62 [a0, a1, a2, a3, a4, a5, some (.inl x)] st m = go 161 64 [a0, a1, a2, a3, a4, a5, some (.inl x)] (.inl x :: st) m := e_1 d161_62 (Or.inl rfl) rfl
theorem d161_64 : decode (mt 161).2.1 64 = .ok (.aload_n 0, 1) := by decide +kernel
theorem s161_64 {a1 a2 a3 a4 a5 a6 : Option AV} {st : List AV} {m : MM} {x : Nat × Option Nat} : go 161 64 [some (.inr (.inr x)), a1, a2, a3, a4, a5, a6] st m = go 161 65 [some (.inr (.inr x)), a1, a2, a3, a4, a5, a6] (.inr (.inr x) :: st) m := e_1 d161_64 (Or.inl rfl) rfl
theorem d161_65 : decode (mt 161).2.1 65 = .ok (.getfield 115, 3) := by decide +kernel
theorem s161_65 {ls : LV} {st : List AV} {m : MM} {n : Nat} : go 161 65 ls (.inr (.inr (8, some n)) :: st) m = go 161 68 ls (.inl (mI m 8 n 0) :: st) m := e_1 d161_65 (Or.inl rfl) (by rw [xi, pA, show lk fdL (mt 161).2.2.1 115 = some (8, 0) by decide +kernel]; rfl)
theorem d161_68 : decode (mt 161).2.1 68 = .ok (.if_icmp .ge 58, 3) := by decide +kernel
theorem s161_68 {ls : LV} {st : List AV} {m : MM} {a b : Int32} : go 161 68 ls (.inl b :: .inl a :: st) m = if b ≤ a then go 161 126 ls st m else go 161 71 ls st m := e_if (t := 126) (b := hc .ge a b) d161_68 (Or.inl rfl) (by simp only [xi, pI, jm_some (t := 126) (show ((68 : Nat) : Int) + 58 = ((126 : Nat) : Int) by decide), Option.bind_some]) (by simp [hc])
theorem d161_71 : decode (mt 161).2.1 71 = .ok (.iload 5, 2) := by decide +kernel
theorem s161_71 {a0 a1 a2 a3 a4 a6 : Option AV} {st : List AV} {m : MM} {x : Int32} : go 161 71 [a0, a1, a2, a3, a4, some (.inl x), a6] st m = go 161 73 [a0, a1, a2, a3, a4, some (.inl x), a6] (.inl x :: st) m := e_1 d161_71 (Or.inl rfl) rfl
theorem d161_73 : decode (mt 161).2.1 73 = .ok (.aload_n 0, 1) := by decide +kernel
theorem s161_73 {a1 a2 a3 a4 a5 a6 : Option AV} {st : List AV} {m : MM} {x : Nat × Option Nat} : go 161 73 [some (.inr (.inr x)), a1, a2, a3, a4, a5, a6] st m = go 161 74 [some (.inr (.inr x)), a1, a2, a3, a4, a5, a6] (.inr (.inr x) :: st) m := e_1 d161_73 (Or.inl rfl) rfl
theorem d161_74 : decode (mt 161).2.1 74 = .ok (.getfield 20, 3) := by decide +kernel
theorem s161_74 {ls : LV} {st : List AV} {m : MM} {n : Nat} : go 161 74 ls (.inr (.inr (8, some n)) :: st) m = go 161 77 ls (.inr (.inr (21, mR m 8 n 4)) :: st) m := e_1 d161_74 (Or.inl rfl) (by rw [xi, pA, show lk fdL (mt 161).2.2.1 20 = some (8, 4) by decide +kernel]; rfl)
theorem d161_77 : decode (mt 161).2.1 77 = .ok (.iload 6, 2) := by decide +kernel
theorem s161_77 {a0 a1 a2 a3 a4 a5 : Option AV} {st : List AV} {m : MM} {x : Int32} : go 161 77 [a0, a1, a2, a3, a4, a5, some (.inl x)] st m = go 161 79 [a0, a1, a2, a3, a4, a5, some (.inl x)] (.inl x :: st) m := e_1 d161_77 (Or.inl rfl) rfl
theorem d161_79 : decode (mt 161).2.1 79 = .ok (.iaload, 1) := by decide +kernel
theorem s161_79 {ls : LV} {st : List AV} {m : MM} {n : Nat} {i : Int32} : go 161 79 ls (.inl i :: .inr (.inr (21, some n)) :: st) m = ixk (ix i (mN m 21 n)) (fun j => go 161 80 ls (.inl (mI m 21 n j) :: st) m) := e_ald d161_79 (fun j hj => by simp only [xi, pI, pA, hj, Option.bind_some]; rfl) (fun hj => by simp only [xi, pI, pA, hj, Option.bind_none])
theorem d161_80 : decode (mt 161).2.1 80 = .ok (.iconst 2, 1) := by decide +kernel
theorem s161_80 {ls : LV} {st : List AV} {m : MM} : go 161 80 ls st m = go 161 81 ls (.inl 2 :: st) m := e_1 d161_80 (Or.inl rfl) rfl
theorem d161_81 : decode (mt 161).2.1 81 = .ok (.if_icmp .ne 35, 3) := by decide +kernel
theorem s161_81 {ls : LV} {st : List AV} {m : MM} {a b : Int32} : go 161 81 ls (.inl b :: .inl a :: st) m = if ¬ a = b then go 161 116 ls st m else go 161 84 ls st m := e_if (t := 116) (b := hc .ne a b) d161_81 (Or.inl rfl) (by simp only [xi, pI, jm_some (t := 116) (show ((81 : Nat) : Int) + 35 = ((116 : Nat) : Int) by decide), Option.bind_some]) (by simp [hc])
theorem d161_84 : decode (mt 161).2.1 84 = .ok (.aload_n 0, 1) := by decide +kernel
theorem s161_84 {a1 a2 a3 a4 a5 a6 : Option AV} {st : List AV} {m : MM} {x : Nat × Option Nat} : go 161 84 [some (.inr (.inr x)), a1, a2, a3, a4, a5, a6] st m = go 161 85 [some (.inr (.inr x)), a1, a2, a3, a4, a5, a6] (.inr (.inr x) :: st) m := e_1 d161_84 (Or.inl rfl) rfl
theorem d161_85 : decode (mt 161).2.1 85 = .ok (.iload_n 1, 1) := by decide +kernel
theorem s161_85 {a0 a2 a3 a4 a5 a6 : Option AV} {st : List AV} {m : MM} {x : Int32} : go 161 85 [a0, some (.inl x), a2, a3, a4, a5, a6] st m = go 161 86 [a0, some (.inl x), a2, a3, a4, a5, a6] (.inl x :: st) m := e_1 d161_85 (Or.inl rfl) rfl
theorem d161_86 : decode (mt 161).2.1 86 = .ok (.iload 6, 2) := by decide +kernel
theorem s161_86 {a0 a1 a2 a3 a4 a5 : Option AV} {st : List AV} {m : MM} {x : Int32} : go 161 86 [a0, a1, a2, a3, a4, a5, some (.inl x)] st m = go 161 88 [a0, a1, a2, a3, a4, a5, some (.inl x)] (.inl x :: st) m := e_1 d161_86 (Or.inl rfl) rfl
theorem d161_88 : decode (mt 161).2.1 88 = .ok (.iload_n 2, 1) := by decide +kernel
theorem s161_88 {a0 a1 a3 a4 a5 a6 : Option AV} {st : List AV} {m : MM} {x : Int32} : go 161 88 [a0, a1, some (.inl x), a3, a4, a5, a6] st m = go 161 89 [a0, a1, some (.inl x), a3, a4, a5, a6] (.inl x :: st) m := e_1 d161_88 (Or.inl rfl) rfl
theorem d161_89 : decode (mt 161).2.1 89 = .ok (.invokevirtual 182, 3) := by decide +kernel
theorem s161_89 {ls : LV} {m : MM} {x0 : Int32} {x1 : Int32} {x2 : Int32} {w0 : AV} {n : Nat} : go 161 89 ls [.inl x2, .inl x1, .inl x0, .inr (.inr (8, some n)), w0] m = bd (go 114 0 [some (.inr (.inr (8, some n))), some (.inl x0), some (.inl x1), some (.inl x2)] [] m) (fun v m2 => go 161 92 ls (v.toList ++ [w0]) m2) := e_virt (y1 := 114) (na := 3) (as := [.inl x0, .inl x1, .inl x2]) (rest := [w0]) d161_89 (by decide +kernel) rfl (by decide +kernel) (show (ent [.inr (.inr (8, some n)), .inl x0, .inl x1, .inl x2]).length ≤ (mt 114).2.2.2.1 from Nat.le_of_ble_eq_true rfl) (cats_le (Nat.le_of_ble_eq_true rfl)) (by decide +kernel)
theorem d161_92 : decode (mt 161).2.1 92 = .ok (.ifCond .eq 24, 3) := by decide +kernel
theorem s161_92 {ls : LV} {st : List AV} {m : MM} {a : Int32} : go 161 92 ls (.inl a :: st) m = if a = 0 then go 161 116 ls st m else go 161 95 ls st m := e_if (t := 116) (b := hc .eq a 0) d161_92 (Or.inl rfl) (by simp only [xi, pI, jm_some (t := 116) (show ((92 : Nat) : Int) + 24 = ((116 : Nat) : Int) by decide), Option.bind_some]) (by simp [hc])
theorem d161_95 : decode (mt 161).2.1 95 = .ok (.aload_n 0, 1) := by decide +kernel
theorem s161_95 {a1 a2 a3 a4 a5 a6 : Option AV} {st : List AV} {m : MM} {x : Nat × Option Nat} : go 161 95 [some (.inr (.inr x)), a1, a2, a3, a4, a5, a6] st m = go 161 96 [some (.inr (.inr x)), a1, a2, a3, a4, a5, a6] (.inr (.inr x) :: st) m := e_1 d161_95 (Or.inl rfl) rfl
theorem d161_96 : decode (mt 161).2.1 96 = .ok (.getfield 13, 3) := by decide +kernel
theorem s161_96 {ls : LV} {st : List AV} {m : MM} {n : Nat} : go 161 96 ls (.inr (.inr (8, some n)) :: st) m = go 161 99 ls (.inr (.inr (19, mR m 8 n 2)) :: st) m := e_1 d161_96 (Or.inl rfl) (by rw [xi, pA, show lk fdL (mt 161).2.2.1 13 = some (8, 2) by decide +kernel]; rfl)
theorem d161_99 : decode (mt 161).2.1 99 = .ok (.iload 6, 2) := by decide +kernel
theorem s161_99 {a0 a1 a2 a3 a4 a5 : Option AV} {st : List AV} {m : MM} {x : Int32} : go 161 99 [a0, a1, a2, a3, a4, a5, some (.inl x)] st m = go 161 101 [a0, a1, a2, a3, a4, a5, some (.inl x)] (.inl x :: st) m := e_1 d161_99 (Or.inl rfl) rfl
theorem d161_101 : decode (mt 161).2.1 101 = .ok (.iaload, 1) := by decide +kernel
theorem s161_101 {ls : LV} {st : List AV} {m : MM} {n : Nat} {i : Int32} : go 161 101 ls (.inl i :: .inr (.inr (19, some n)) :: st) m = ixk (ix i (mN m 19 n)) (fun j => go 161 102 ls (.inl (mI m 19 n j) :: st) m) := e_ald d161_101 (fun j hj => by simp only [xi, pI, pA, hj, Option.bind_some]; rfl) (fun hj => by simp only [xi, pI, pA, hj, Option.bind_none])
theorem d161_102 : decode (mt 161).2.1 102 = .ok (.aload_n 0, 1) := by decide +kernel
theorem s161_102 {a1 a2 a3 a4 a5 a6 : Option AV} {st : List AV} {m : MM} {x : Nat × Option Nat} : go 161 102 [some (.inr (.inr x)), a1, a2, a3, a4, a5, a6] st m = go 161 103 [some (.inr (.inr x)), a1, a2, a3, a4, a5, a6] (.inr (.inr x) :: st) m := e_1 d161_102 (Or.inl rfl) rfl
theorem d161_103 : decode (mt 161).2.1 103 = .ok (.getfield 13, 3) := by decide +kernel
theorem s161_103 {ls : LV} {st : List AV} {m : MM} {n : Nat} : go 161 103 ls (.inr (.inr (8, some n)) :: st) m = go 161 106 ls (.inr (.inr (19, mR m 8 n 2)) :: st) m := e_1 d161_103 (Or.inl rfl) (by rw [xi, pA, show lk fdL (mt 161).2.2.1 13 = some (8, 2) by decide +kernel]; rfl)
theorem d161_106 : decode (mt 161).2.1 106 = .ok (.iload 4, 2) := by decide +kernel
theorem s161_106 {a0 a1 a2 a3 a5 a6 : Option AV} {st : List AV} {m : MM} {x : Int32} : go 161 106 [a0, a1, a2, a3, some (.inl x), a5, a6] st m = go 161 108 [a0, a1, a2, a3, some (.inl x), a5, a6] (.inl x :: st) m := e_1 d161_106 (Or.inl rfl) rfl
theorem d161_108 : decode (mt 161).2.1 108 = .ok (.iaload, 1) := by decide +kernel
theorem s161_108 {ls : LV} {st : List AV} {m : MM} {n : Nat} {i : Int32} : go 161 108 ls (.inl i :: .inr (.inr (19, some n)) :: st) m = ixk (ix i (mN m 19 n)) (fun j => go 161 109 ls (.inl (mI m 19 n j) :: st) m) := e_ald d161_108 (fun j hj => by simp only [xi, pI, pA, hj, Option.bind_some]; rfl) (fun hj => by simp only [xi, pI, pA, hj, Option.bind_none])
theorem d161_109 : decode (mt 161).2.1 109 = .ok (.if_icmp .ge 7, 3) := by decide +kernel
theorem s161_109 {ls : LV} {st : List AV} {m : MM} {a b : Int32} : go 161 109 ls (.inl b :: .inl a :: st) m = if b ≤ a then go 161 116 ls st m else go 161 112 ls st m := e_if (t := 116) (b := hc .ge a b) d161_109 (Or.inl rfl) (by simp only [xi, pI, jm_some (t := 116) (show ((109 : Nat) : Int) + 7 = ((116 : Nat) : Int) by decide), Option.bind_some]) (by simp [hc])
theorem d161_112 : decode (mt 161).2.1 112 = .ok (.iconst 1, 1) := by decide +kernel
theorem s161_112 {ls : LV} {st : List AV} {m : MM} : go 161 112 ls st m = go 161 113 ls (.inl 1 :: st) m := e_1 d161_112 (Or.inl rfl) rfl
theorem d161_113 : decode (mt 161).2.1 113 = .ok (.goto 4, 3) := by decide +kernel
theorem s161_113 {ls : LV} {st : List AV} {m : MM} : go 161 113 ls st m = go 161 117 ls st m := e_1 d161_113 (Or.inl rfl) (by rw [xi, jm_some (t := 117) (by decide)]; rfl)
theorem d161_116 : decode (mt 161).2.1 116 = .ok (.iconst 0, 1) := by decide +kernel
theorem s161_116 {ls : LV} {st : List AV} {m : MM} : go 161 116 ls st m = go 161 117 ls (.inl 0 :: st) m := e_1 d161_116 (Or.inl rfl) rfl
theorem d161_117 : decode (mt 161).2.1 117 = .ok (.iadd, 1) := by decide +kernel
theorem s161_117 {ls : LV} {st : List AV} {m : MM} {a b : Int32} : go 161 117 ls (.inl b :: .inl a :: st) m = go 161 118 ls (.inl (a + b) :: st) m := e_1 d161_117 (Or.inl rfl) rfl
theorem d161_118 : decode (mt 161).2.1 118 = .ok (.istore 5, 2) := by decide +kernel
theorem s161_118i {a0 a1 a2 a3 a5 a6 : Option AV} {z : Int32} {st : List AV} {m : MM} {x : Int32} : go 161 118 [a0, a1, a2, a3, some (.inl z), a5, a6] (.inl x :: st) m = go 161 120 [a0, a1, a2, a3, some (.inl z), some (.inl x), a6] st m := e_1 d161_118 (Or.inl rfl) rfl
theorem s161_118r {a0 a1 a2 a3 a5 a6 : Option AV} {z : Nat × Option Nat} {st : List AV} {m : MM} {x : Int32} : go 161 118 [a0, a1, a2, a3, some (.inr (.inr z)), a5, a6] (.inl x :: st) m = go 161 120 [a0, a1, a2, a3, some (.inr (.inr z)), some (.inl x), a6] st m := e_1 d161_118 (Or.inl rfl) rfl
theorem s161_118n {a0 a1 a2 a3 a5 a6 : Option AV} {st : List AV} {m : MM} {x : Int32} : go 161 118 [a0, a1, a2, a3, none, a5, a6] (.inl x :: st) m = go 161 120 [a0, a1, a2, a3, none, some (.inl x), a6] st m := e_1 d161_118 (Or.inl rfl) rfl
theorem d161_120 : decode (mt 161).2.1 120 = .ok (.iinc 6 1, 3) := by decide +kernel
theorem s161_120i {a0 a1 a2 a3 a4 : Option AV} {z : Int32} {st : List AV} {m : MM} {x : Int32} : go 161 120 [a0, a1, a2, a3, a4, some (.inl z), some (.inl x)] st m = go 161 123 [a0, a1, a2, a3, a4, some (.inl z), some (.inl (x + 1))] st m := e_1 d161_120 (Or.inl rfl) rfl
theorem s161_120r {a0 a1 a2 a3 a4 : Option AV} {z : Nat × Option Nat} {st : List AV} {m : MM} {x : Int32} : go 161 120 [a0, a1, a2, a3, a4, some (.inr (.inr z)), some (.inl x)] st m = go 161 123 [a0, a1, a2, a3, a4, some (.inr (.inr z)), some (.inl (x + 1))] st m := e_1 d161_120 (Or.inl rfl) rfl
theorem s161_120n {a0 a1 a2 a3 a4 : Option AV} {st : List AV} {m : MM} {x : Int32} : go 161 120 [a0, a1, a2, a3, a4, none, some (.inl x)] st m = go 161 123 [a0, a1, a2, a3, a4, none, some (.inl (x + 1))] st m := e_1 d161_120 (Or.inl rfl) rfl
theorem d161_123 : decode (mt 161).2.1 123 = .ok (.goto (-61), 3) := by decide +kernel
theorem s161_123 {ls : LV} {st : List AV} {m : MM} : go 161 123 ls st m = go 161 62 ls st m := e_1 d161_123 (Or.inl rfl) (by rw [xi, jm_some (t := 62) (by decide)]; rfl)
theorem d161_126 : decode (mt 161).2.1 126 = .ok (.iload 5, 2) := by decide +kernel
theorem s161_126 {a0 a1 a2 a3 a4 a6 : Option AV} {st : List AV} {m : MM} {x : Int32} : go 161 126 [a0, a1, a2, a3, a4, some (.inl x), a6] st m = go 161 128 [a0, a1, a2, a3, a4, some (.inl x), a6] (.inl x :: st) m := e_1 d161_126 (Or.inl rfl) rfl
theorem d161_128 : decode (mt 161).2.1 128 = .ok (.iload_n 3, 1) := by decide +kernel
theorem s161_128 {a0 a1 a2 a4 a5 a6 : Option AV} {st : List AV} {m : MM} {x : Int32} : go 161 128 [a0, a1, a2, some (.inl x), a4, a5, a6] st m = go 161 129 [a0, a1, a2, some (.inl x), a4, a5, a6] (.inl x :: st) m := e_1 d161_128 (Or.inl rfl) rfl
theorem d161_129 : decode (mt 161).2.1 129 = .ok (.if_icmp .ne 6, 3) := by decide +kernel
theorem s161_129 {ls : LV} {st : List AV} {m : MM} {a b : Int32} : go 161 129 ls (.inl b :: .inl a :: st) m = if ¬ a = b then go 161 135 ls st m else go 161 132 ls st m := e_if (t := 135) (b := hc .ne a b) d161_129 (Or.inl rfl) (by simp only [xi, pI, jm_some (t := 135) (show ((129 : Nat) : Int) + 6 = ((135 : Nat) : Int) by decide), Option.bind_some]) (by simp [hc])
theorem d161_132 : decode (mt 161).2.1 132 = .ok (.iload 4, 2) := by decide +kernel
theorem s161_132 {a0 a1 a2 a3 a5 a6 : Option AV} {st : List AV} {m : MM} {x : Int32} : go 161 132 [a0, a1, a2, a3, some (.inl x), a5, a6] st m = go 161 134 [a0, a1, a2, a3, some (.inl x), a5, a6] (.inl x :: st) m := e_1 d161_132 (Or.inl rfl) rfl
theorem d161_134 : decode (mt 161).2.1 134 = .ok (.ireturn, 1) := by decide +kernel
theorem s161_134 {ls : LV} {m : MM} {x : Int32} : go 161 134 ls [.inl x] m = some (some (.inl x), m) := e_int d161_134 (by decide +kernel)
theorem d161_135 : decode (mt 161).2.1 135 = .ok (.iinc 4 1, 3) := by decide +kernel
theorem s161_135i {a0 a1 a2 a5 a6 : Option AV} {z : Int32} {st : List AV} {m : MM} {x : Int32} : go 161 135 [a0, a1, a2, some (.inl z), some (.inl x), a5, a6] st m = go 161 138 [a0, a1, a2, some (.inl z), some (.inl (x + 1)), a5, a6] st m := e_1 d161_135 (Or.inl rfl) rfl
theorem s161_135r {a0 a1 a2 a5 a6 : Option AV} {z : Nat × Option Nat} {st : List AV} {m : MM} {x : Int32} : go 161 135 [a0, a1, a2, some (.inr (.inr z)), some (.inl x), a5, a6] st m = go 161 138 [a0, a1, a2, some (.inr (.inr z)), some (.inl (x + 1)), a5, a6] st m := e_1 d161_135 (Or.inl rfl) rfl
theorem s161_135n {a0 a1 a2 a5 a6 : Option AV} {st : List AV} {m : MM} {x : Int32} : go 161 135 [a0, a1, a2, none, some (.inl x), a5, a6] st m = go 161 138 [a0, a1, a2, none, some (.inl (x + 1)), a5, a6] st m := e_1 d161_135 (Or.inl rfl) rfl
theorem d161_138 : decode (mt 161).2.1 138 = .ok (.goto (-113), 3) := by decide +kernel
theorem s161_138 {ls : LV} {st : List AV} {m : MM} : go 161 138 ls st m = go 161 25 ls st m := e_1 d161_138 (Or.inl rfl) (by rw [xi, jm_some (t := 25) (by decide)]; rfl)
theorem d161_141 : decode (mt 161).2.1 141 = .ok (.bipush (-4), 2) := by decide +kernel
theorem s161_141 {ls : LV} {st : List AV} {m : MM} : go 161 141 ls st m = go 161 143 ls (.inl (-4) :: st) m := e_1 d161_141 (Or.inl rfl) rfl
theorem d161_143 : decode (mt 161).2.1 143 = .ok (.ireturn, 1) := by decide +kernel
theorem s161_143 {ls : LV} {m : MM} {x : Int32} : go 161 143 ls [.inl x] m = some (some (.inl x), m) := e_int d161_143 (by decide +kernel)
/-! X7_judge: 162 -/
theorem d162_0 : decode (mt 162).2.1 0 = .ok (.aload_n 0, 1) := by decide +kernel
theorem s162_0 {a1 a2 a3 a4 a5 a6 a7 : Option AV} {st : List AV} {m : MM} {x : Nat × Option Nat} : go 162 0 [some (.inr (.inr x)), a1, a2, a3, a4, a5, a6, a7] st m = go 162 1 [some (.inr (.inr x)), a1, a2, a3, a4, a5, a6, a7] (.inr (.inr x) :: st) m := e_1 d162_0 (Or.inl rfl) rfl
theorem d162_1 : decode (mt 162).2.1 1 = .ok (.bipush (-4), 2) := by decide +kernel
theorem s162_1 {ls : LV} {st : List AV} {m : MM} : go 162 1 ls st m = go 162 3 ls (.inl (-4) :: st) m := e_1 d162_1 (Or.inl rfl) rfl
theorem d162_3 : decode (mt 162).2.1 3 = .ok (.putfield 269, 3) := by decide +kernel
theorem s162_3 {ls : LV} {st : List AV} {m : MM} {n : Nat} {x : Int32} : go 162 3 ls (.inl x :: .inr (.inr (8, some n)) :: st) m = go 162 6 ls st (sI m 8 n 45 x) := e_put (r := 8) (f := 45) d162_3 (by decide +kernel) rfl (by decide +kernel)
theorem d162_6 : decode (mt 162).2.1 6 = .ok (.aload_n 0, 1) := by decide +kernel
theorem s162_6 {a1 a2 a3 a4 a5 a6 a7 : Option AV} {st : List AV} {m : MM} {x : Nat × Option Nat} : go 162 6 [some (.inr (.inr x)), a1, a2, a3, a4, a5, a6, a7] st m = go 162 7 [some (.inr (.inr x)), a1, a2, a3, a4, a5, a6, a7] (.inr (.inr x) :: st) m := e_1 d162_6 (Or.inl rfl) rfl
theorem d162_7 : decode (mt 162).2.1 7 = .ok (.bipush (-4), 2) := by decide +kernel
theorem s162_7 {ls : LV} {st : List AV} {m : MM} : go 162 7 ls st m = go 162 9 ls (.inl (-4) :: st) m := e_1 d162_7 (Or.inl rfl) rfl
theorem d162_9 : decode (mt 162).2.1 9 = .ok (.putfield 272, 3) := by decide +kernel
theorem s162_9 {ls : LV} {st : List AV} {m : MM} {n : Nat} {x : Int32} : go 162 9 ls (.inl x :: .inr (.inr (8, some n)) :: st) m = go 162 12 ls st (sI m 8 n 46 x) := e_put (r := 8) (f := 46) d162_9 (by decide +kernel) rfl (by decide +kernel)
theorem d162_12 : decode (mt 162).2.1 12 = .ok (.aload_n 0, 1) := by decide +kernel
theorem s162_12 {a1 a2 a3 a4 a5 a6 a7 : Option AV} {st : List AV} {m : MM} {x : Nat × Option Nat} : go 162 12 [some (.inr (.inr x)), a1, a2, a3, a4, a5, a6, a7] st m = go 162 13 [some (.inr (.inr x)), a1, a2, a3, a4, a5, a6, a7] (.inr (.inr x) :: st) m := e_1 d162_12 (Or.inl rfl) rfl
theorem d162_13 : decode (mt 162).2.1 13 = .ok (.bipush (-4), 2) := by decide +kernel
theorem s162_13 {ls : LV} {st : List AV} {m : MM} : go 162 13 ls st m = go 162 15 ls (.inl (-4) :: st) m := e_1 d162_13 (Or.inl rfl) rfl
theorem d162_15 : decode (mt 162).2.1 15 = .ok (.putfield 275, 3) := by decide +kernel
theorem s162_15 {ls : LV} {st : List AV} {m : MM} {n : Nat} {x : Int32} : go 162 15 ls (.inl x :: .inr (.inr (8, some n)) :: st) m = go 162 18 ls st (sI m 8 n 47 x) := e_put (r := 8) (f := 47) d162_15 (by decide +kernel) rfl (by decide +kernel)
theorem d162_18 : decode (mt 162).2.1 18 = .ok (.iconst 0, 1) := by decide +kernel
theorem s162_18 {ls : LV} {st : List AV} {m : MM} : go 162 18 ls st m = go 162 19 ls (.inl 0 :: st) m := e_1 d162_18 (Or.inl rfl) rfl
theorem d162_19 : decode (mt 162).2.1 19 = .ok (.istore_n 1, 1) := by decide +kernel
theorem s162_19i {a1 a2 a3 a4 a5 a6 a7 : Option AV} {z : Int32} {st : List AV} {m : MM} {x : Int32} : go 162 19 [some (.inl z), a1, a2, a3, a4, a5, a6, a7] (.inl x :: st) m = go 162 20 [some (.inl z), some (.inl x), a2, a3, a4, a5, a6, a7] st m := e_1 d162_19 (Or.inl rfl) rfl
theorem s162_19r {a1 a2 a3 a4 a5 a6 a7 : Option AV} {z : Nat × Option Nat} {st : List AV} {m : MM} {x : Int32} : go 162 19 [some (.inr (.inr z)), a1, a2, a3, a4, a5, a6, a7] (.inl x :: st) m = go 162 20 [some (.inr (.inr z)), some (.inl x), a2, a3, a4, a5, a6, a7] st m := e_1 d162_19 (Or.inl rfl) rfl
theorem s162_19n {a1 a2 a3 a4 a5 a6 a7 : Option AV} {st : List AV} {m : MM} {x : Int32} : go 162 19 [none, a1, a2, a3, a4, a5, a6, a7] (.inl x :: st) m = go 162 20 [none, some (.inl x), a2, a3, a4, a5, a6, a7] st m := e_1 d162_19 (Or.inl rfl) rfl
theorem d162_20 : decode (mt 162).2.1 20 = .ok (.iload_n 1, 1) := by decide +kernel
theorem s162_20 {a0 a2 a3 a4 a5 a6 a7 : Option AV} {st : List AV} {m : MM} {x : Int32} : go 162 20 [a0, some (.inl x), a2, a3, a4, a5, a6, a7] st m = go 162 21 [a0, some (.inl x), a2, a3, a4, a5, a6, a7] (.inl x :: st) m := e_1 d162_20 (Or.inl rfl) rfl
theorem d162_21 : decode (mt 162).2.1 21 = .ok (.aload_n 0, 1) := by decide +kernel
theorem s162_21 {a1 a2 a3 a4 a5 a6 a7 : Option AV} {st : List AV} {m : MM} {x : Nat × Option Nat} : go 162 21 [some (.inr (.inr x)), a1, a2, a3, a4, a5, a6, a7] st m = go 162 22 [some (.inr (.inr x)), a1, a2, a3, a4, a5, a6, a7] (.inr (.inr x) :: st) m := e_1 d162_21 (Or.inl rfl) rfl
theorem d162_22 : decode (mt 162).2.1 22 = .ok (.getfield 115, 3) := by decide +kernel
theorem s162_22 {ls : LV} {st : List AV} {m : MM} {n : Nat} : go 162 22 ls (.inr (.inr (8, some n)) :: st) m = go 162 25 ls (.inl (mI m 8 n 0) :: st) m := e_1 d162_22 (Or.inl rfl) (by rw [xi, pA, show lk fdL (mt 162).2.2.1 115 = some (8, 0) by decide +kernel]; rfl)
theorem d162_25 : decode (mt 162).2.1 25 = .ok (.if_icmp .ge 186, 3) := by decide +kernel
theorem s162_25 {ls : LV} {st : List AV} {m : MM} {a b : Int32} : go 162 25 ls (.inl b :: .inl a :: st) m = if b ≤ a then go 162 211 ls st m else go 162 28 ls st m := e_if (t := 211) (b := hc .ge a b) d162_25 (Or.inl rfl) (by simp only [xi, pI, jm_some (t := 211) (show ((25 : Nat) : Int) + 186 = ((211 : Nat) : Int) by decide), Option.bind_some]) (by simp [hc])
theorem d162_28 : decode (mt 162).2.1 28 = .ok (.aload_n 0, 1) := by decide +kernel
theorem s162_28 {a1 a2 a3 a4 a5 a6 a7 : Option AV} {st : List AV} {m : MM} {x : Nat × Option Nat} : go 162 28 [some (.inr (.inr x)), a1, a2, a3, a4, a5, a6, a7] st m = go 162 29 [some (.inr (.inr x)), a1, a2, a3, a4, a5, a6, a7] (.inr (.inr x) :: st) m := e_1 d162_28 (Or.inl rfl) rfl
theorem d162_29 : decode (mt 162).2.1 29 = .ok (.getfield 269, 3) := by decide +kernel
theorem s162_29 {ls : LV} {st : List AV} {m : MM} {n : Nat} : go 162 29 ls (.inr (.inr (8, some n)) :: st) m = go 162 32 ls (.inl (mI m 8 n 45) :: st) m := e_1 d162_29 (Or.inl rfl) (by rw [xi, pA, show lk fdL (mt 162).2.2.1 269 = some (8, 45) by decide +kernel]; rfl)
theorem d162_32 : decode (mt 162).2.1 32 = .ok (.bipush (-4), 2) := by decide +kernel
theorem s162_32 {ls : LV} {st : List AV} {m : MM} : go 162 32 ls st m = go 162 34 ls (.inl (-4) :: st) m := e_1 d162_32 (Or.inl rfl) rfl
theorem d162_34 : decode (mt 162).2.1 34 = .ok (.if_icmp .ne 177, 3) := by decide +kernel
theorem s162_34 {ls : LV} {st : List AV} {m : MM} {a b : Int32} : go 162 34 ls (.inl b :: .inl a :: st) m = if ¬ a = b then go 162 211 ls st m else go 162 37 ls st m := e_if (t := 211) (b := hc .ne a b) d162_34 (Or.inl rfl) (by simp only [xi, pI, jm_some (t := 211) (show ((34 : Nat) : Int) + 177 = ((211 : Nat) : Int) by decide), Option.bind_some]) (by simp [hc])
theorem d162_37 : decode (mt 162).2.1 37 = .ok (.iconst 1, 1) := by decide +kernel
theorem s162_37 {ls : LV} {st : List AV} {m : MM} : go 162 37 ls st m = go 162 38 ls (.inl 1 :: st) m := e_1 d162_37 (Or.inl rfl) rfl
theorem d162_38 : decode (mt 162).2.1 38 = .ok (.istore_n 2, 1) := by decide +kernel
theorem s162_38i {a0 a2 a3 a4 a5 a6 a7 : Option AV} {z : Int32} {st : List AV} {m : MM} {x : Int32} : go 162 38 [a0, some (.inl z), a2, a3, a4, a5, a6, a7] (.inl x :: st) m = go 162 39 [a0, some (.inl z), some (.inl x), a3, a4, a5, a6, a7] st m := e_1 d162_38 (Or.inl rfl) rfl
theorem s162_38r {a0 a2 a3 a4 a5 a6 a7 : Option AV} {z : Nat × Option Nat} {st : List AV} {m : MM} {x : Int32} : go 162 38 [a0, some (.inr (.inr z)), a2, a3, a4, a5, a6, a7] (.inl x :: st) m = go 162 39 [a0, some (.inr (.inr z)), some (.inl x), a3, a4, a5, a6, a7] st m := e_1 d162_38 (Or.inl rfl) rfl
theorem s162_38n {a0 a2 a3 a4 a5 a6 a7 : Option AV} {st : List AV} {m : MM} {x : Int32} : go 162 38 [a0, none, a2, a3, a4, a5, a6, a7] (.inl x :: st) m = go 162 39 [a0, none, some (.inl x), a3, a4, a5, a6, a7] st m := e_1 d162_38 (Or.inl rfl) rfl
theorem d162_39 : decode (mt 162).2.1 39 = .ok (.iconst 0, 1) := by decide +kernel
theorem s162_39 {ls : LV} {st : List AV} {m : MM} : go 162 39 ls st m = go 162 40 ls (.inl 0 :: st) m := e_1 d162_39 (Or.inl rfl) rfl
theorem d162_40 : decode (mt 162).2.1 40 = .ok (.istore_n 3, 1) := by decide +kernel
theorem s162_40i {a0 a1 a3 a4 a5 a6 a7 : Option AV} {z : Int32} {st : List AV} {m : MM} {x : Int32} : go 162 40 [a0, a1, some (.inl z), a3, a4, a5, a6, a7] (.inl x :: st) m = go 162 41 [a0, a1, some (.inl z), some (.inl x), a4, a5, a6, a7] st m := e_1 d162_40 (Or.inl rfl) rfl
theorem s162_40r {a0 a1 a3 a4 a5 a6 a7 : Option AV} {z : Nat × Option Nat} {st : List AV} {m : MM} {x : Int32} : go 162 40 [a0, a1, some (.inr (.inr z)), a3, a4, a5, a6, a7] (.inl x :: st) m = go 162 41 [a0, a1, some (.inr (.inr z)), some (.inl x), a4, a5, a6, a7] st m := e_1 d162_40 (Or.inl rfl) rfl
theorem s162_40n {a0 a1 a3 a4 a5 a6 a7 : Option AV} {st : List AV} {m : MM} {x : Int32} : go 162 40 [a0, a1, none, a3, a4, a5, a6, a7] (.inl x :: st) m = go 162 41 [a0, a1, none, some (.inl x), a4, a5, a6, a7] st m := e_1 d162_40 (Or.inl rfl) rfl
theorem d162_41 : decode (mt 162).2.1 41 = .ok (.iload_n 3, 1) := by decide +kernel
theorem s162_41 {a0 a1 a2 a4 a5 a6 a7 : Option AV} {st : List AV} {m : MM} {x : Int32} : go 162 41 [a0, a1, a2, some (.inl x), a4, a5, a6, a7] st m = go 162 42 [a0, a1, a2, some (.inl x), a4, a5, a6, a7] (.inl x :: st) m := e_1 d162_41 (Or.inl rfl) rfl
theorem d162_42 : decode (mt 162).2.1 42 = .ok (.bipush 9, 2) := by decide +kernel
theorem s162_42 {ls : LV} {st : List AV} {m : MM} : go 162 42 ls st m = go 162 44 ls (.inl 9 :: st) m := e_1 d162_42 (Or.inl rfl) rfl
theorem d162_44 : decode (mt 162).2.1 44 = .ok (.if_icmp .ge 161, 3) := by decide +kernel
theorem s162_44 {ls : LV} {st : List AV} {m : MM} {a b : Int32} : go 162 44 ls (.inl b :: .inl a :: st) m = if b ≤ a then go 162 205 ls st m else go 162 47 ls st m := e_if (t := 205) (b := hc .ge a b) d162_44 (Or.inl rfl) (by simp only [xi, pI, jm_some (t := 205) (show ((44 : Nat) : Int) + 161 = ((205 : Nat) : Int) by decide), Option.bind_some]) (by simp [hc])
theorem d162_47 : decode (mt 162).2.1 47 = .ok (.aload_n 0, 1) := by decide +kernel
theorem s162_47 {a1 a2 a3 a4 a5 a6 a7 : Option AV} {st : List AV} {m : MM} {x : Nat × Option Nat} : go 162 47 [some (.inr (.inr x)), a1, a2, a3, a4, a5, a6, a7] st m = go 162 48 [some (.inr (.inr x)), a1, a2, a3, a4, a5, a6, a7] (.inr (.inr x) :: st) m := e_1 d162_47 (Or.inl rfl) rfl
theorem d162_48 : decode (mt 162).2.1 48 = .ok (.getfield 20, 3) := by decide +kernel
theorem s162_48 {ls : LV} {st : List AV} {m : MM} {n : Nat} : go 162 48 ls (.inr (.inr (8, some n)) :: st) m = go 162 51 ls (.inr (.inr (21, mR m 8 n 4)) :: st) m := e_1 d162_48 (Or.inl rfl) (by rw [xi, pA, show lk fdL (mt 162).2.2.1 20 = some (8, 4) by decide +kernel]; rfl)
theorem d162_51 : decode (mt 162).2.1 51 = .ok (.iload_n 1, 1) := by decide +kernel
theorem s162_51 {a0 a2 a3 a4 a5 a6 a7 : Option AV} {st : List AV} {m : MM} {x : Int32} : go 162 51 [a0, some (.inl x), a2, a3, a4, a5, a6, a7] st m = go 162 52 [a0, some (.inl x), a2, a3, a4, a5, a6, a7] (.inl x :: st) m := e_1 d162_51 (Or.inl rfl) rfl
theorem d162_52 : decode (mt 162).2.1 52 = .ok (.iaload, 1) := by decide +kernel
theorem s162_52 {ls : LV} {st : List AV} {m : MM} {n : Nat} {i : Int32} : go 162 52 ls (.inl i :: .inr (.inr (21, some n)) :: st) m = ixk (ix i (mN m 21 n)) (fun j => go 162 53 ls (.inl (mI m 21 n j) :: st) m) := e_ald d162_52 (fun j hj => by simp only [xi, pI, pA, hj, Option.bind_some]; rfl) (fun hj => by simp only [xi, pI, pA, hj, Option.bind_none])
theorem d162_53 : decode (mt 162).2.1 53 = .ok (.iconst 2, 1) := by decide +kernel
theorem s162_53 {ls : LV} {st : List AV} {m : MM} : go 162 53 ls st m = go 162 54 ls (.inl 2 :: st) m := e_1 d162_53 (Or.inl rfl) rfl
theorem d162_54 : decode (mt 162).2.1 54 = .ok (.if_icmp .ne 151, 3) := by decide +kernel
theorem s162_54 {ls : LV} {st : List AV} {m : MM} {a b : Int32} : go 162 54 ls (.inl b :: .inl a :: st) m = if ¬ a = b then go 162 205 ls st m else go 162 57 ls st m := e_if (t := 205) (b := hc .ne a b) d162_54 (Or.inl rfl) (by simp only [xi, pI, jm_some (t := 205) (show ((54 : Nat) : Int) + 151 = ((205 : Nat) : Int) by decide), Option.bind_some]) (by simp [hc])
theorem d162_57 : decode (mt 162).2.1 57 = .ok (.aload_n 0, 1) := by decide +kernel
theorem s162_57 {a1 a2 a3 a4 a5 a6 a7 : Option AV} {st : List AV} {m : MM} {x : Nat × Option Nat} : go 162 57 [some (.inr (.inr x)), a1, a2, a3, a4, a5, a6, a7] st m = go 162 58 [some (.inr (.inr x)), a1, a2, a3, a4, a5, a6, a7] (.inr (.inr x) :: st) m := e_1 d162_57 (Or.inl rfl) rfl
theorem d162_58 : decode (mt 162).2.1 58 = .ok (.getfield 269, 3) := by decide +kernel
theorem s162_58 {ls : LV} {st : List AV} {m : MM} {n : Nat} : go 162 58 ls (.inr (.inr (8, some n)) :: st) m = go 162 61 ls (.inl (mI m 8 n 45) :: st) m := e_1 d162_58 (Or.inl rfl) (by rw [xi, pA, show lk fdL (mt 162).2.2.1 269 = some (8, 45) by decide +kernel]; rfl)
theorem d162_61 : decode (mt 162).2.1 61 = .ok (.bipush (-4), 2) := by decide +kernel
theorem s162_61 {ls : LV} {st : List AV} {m : MM} : go 162 61 ls st m = go 162 63 ls (.inl (-4) :: st) m := e_1 d162_61 (Or.inl rfl) rfl
theorem d162_63 : decode (mt 162).2.1 63 = .ok (.if_icmp .ne 142, 3) := by decide +kernel
theorem s162_63 {ls : LV} {st : List AV} {m : MM} {a b : Int32} : go 162 63 ls (.inl b :: .inl a :: st) m = if ¬ a = b then go 162 205 ls st m else go 162 66 ls st m := e_if (t := 205) (b := hc .ne a b) d162_63 (Or.inl rfl) (by simp only [xi, pI, jm_some (t := 205) (show ((63 : Nat) : Int) + 142 = ((205 : Nat) : Int) by decide), Option.bind_some]) (by simp [hc])
theorem d162_66 : decode (mt 162).2.1 66 = .ok (.aload_n 0, 1) := by decide +kernel
theorem s162_66 {a1 a2 a3 a4 a5 a6 a7 : Option AV} {st : List AV} {m : MM} {x : Nat × Option Nat} : go 162 66 [some (.inr (.inr x)), a1, a2, a3, a4, a5, a6, a7] st m = go 162 67 [some (.inr (.inr x)), a1, a2, a3, a4, a5, a6, a7] (.inr (.inr x) :: st) m := e_1 d162_66 (Or.inl rfl) rfl
theorem d162_67 : decode (mt 162).2.1 67 = .ok (.iload_n 1, 1) := by decide +kernel
theorem s162_67 {a0 a2 a3 a4 a5 a6 a7 : Option AV} {st : List AV} {m : MM} {x : Int32} : go 162 67 [a0, some (.inl x), a2, a3, a4, a5, a6, a7] st m = go 162 68 [a0, some (.inl x), a2, a3, a4, a5, a6, a7] (.inl x :: st) m := e_1 d162_67 (Or.inl rfl) rfl
theorem d162_68 : decode (mt 162).2.1 68 = .ok (.iload_n 3, 1) := by decide +kernel
theorem s162_68 {a0 a1 a2 a4 a5 a6 a7 : Option AV} {st : List AV} {m : MM} {x : Int32} : go 162 68 [a0, a1, a2, some (.inl x), a4, a5, a6, a7] st m = go 162 69 [a0, a1, a2, some (.inl x), a4, a5, a6, a7] (.inl x :: st) m := e_1 d162_68 (Or.inl rfl) rfl
theorem d162_69 : decode (mt 162).2.1 69 = .ok (.iconst 0, 1) := by decide +kernel
theorem s162_69 {ls : LV} {st : List AV} {m : MM} : go 162 69 ls st m = go 162 70 ls (.inl 0 :: st) m := e_1 d162_69 (Or.inl rfl) rfl
theorem d162_70 : decode (mt 162).2.1 70 = .ok (.invokevirtual 278, 3) := by decide +kernel
theorem s162_70 {ls : LV} {m : MM} {x0 : Int32} {x1 : Int32} {x2 : Int32} {n : Nat} : go 162 70 ls [.inl x2, .inl x1, .inl x0, .inr (.inr (8, some n))] m = bd (go 160 0 [some (.inr (.inr (8, some n))), some (.inl x0), some (.inl x1), some (.inl x2), none, none] [] m) (fun v m2 => go 162 73 ls (v.toList ++ []) m2) := e_virt (y1 := 160) (na := 3) (as := [.inl x0, .inl x1, .inl x2]) (rest := []) d162_70 (by decide +kernel) rfl (by decide +kernel) (show (ent [.inr (.inr (8, some n)), .inl x0, .inl x1, .inl x2]).length ≤ (mt 160).2.2.2.1 from Nat.le_of_ble_eq_true rfl) (cats_le (Nat.le_of_ble_eq_true rfl)) (by decide +kernel)
theorem d162_73 : decode (mt 162).2.1 73 = .ok (.istore 4, 2) := by decide +kernel
theorem s162_73i {a0 a1 a2 a4 a5 a6 a7 : Option AV} {z : Int32} {st : List AV} {m : MM} {x : Int32} : go 162 73 [a0, a1, a2, some (.inl z), a4, a5, a6, a7] (.inl x :: st) m = go 162 75 [a0, a1, a2, some (.inl z), some (.inl x), a5, a6, a7] st m := e_1 d162_73 (Or.inl rfl) rfl
theorem s162_73r {a0 a1 a2 a4 a5 a6 a7 : Option AV} {z : Nat × Option Nat} {st : List AV} {m : MM} {x : Int32} : go 162 73 [a0, a1, a2, some (.inr (.inr z)), a4, a5, a6, a7] (.inl x :: st) m = go 162 75 [a0, a1, a2, some (.inr (.inr z)), some (.inl x), a5, a6, a7] st m := e_1 d162_73 (Or.inl rfl) rfl
theorem s162_73n {a0 a1 a2 a4 a5 a6 a7 : Option AV} {st : List AV} {m : MM} {x : Int32} : go 162 73 [a0, a1, a2, none, a4, a5, a6, a7] (.inl x :: st) m = go 162 75 [a0, a1, a2, none, some (.inl x), a5, a6, a7] st m := e_1 d162_73 (Or.inl rfl) rfl
theorem d162_75 : decode (mt 162).2.1 75 = .ok (.aload_n 0, 1) := by decide +kernel
theorem s162_75 {a1 a2 a3 a4 a5 a6 a7 : Option AV} {st : List AV} {m : MM} {x : Nat × Option Nat} : go 162 75 [some (.inr (.inr x)), a1, a2, a3, a4, a5, a6, a7] st m = go 162 76 [some (.inr (.inr x)), a1, a2, a3, a4, a5, a6, a7] (.inr (.inr x) :: st) m := e_1 d162_75 (Or.inl rfl) rfl
theorem d162_76 : decode (mt 162).2.1 76 = .ok (.iload_n 1, 1) := by decide +kernel
theorem s162_76 {a0 a2 a3 a4 a5 a6 a7 : Option AV} {st : List AV} {m : MM} {x : Int32} : go 162 76 [a0, some (.inl x), a2, a3, a4, a5, a6, a7] st m = go 162 77 [a0, some (.inl x), a2, a3, a4, a5, a6, a7] (.inl x :: st) m := e_1 d162_76 (Or.inl rfl) rfl
theorem d162_77 : decode (mt 162).2.1 77 = .ok (.iload_n 3, 1) := by decide +kernel
theorem s162_77 {a0 a1 a2 a4 a5 a6 a7 : Option AV} {st : List AV} {m : MM} {x : Int32} : go 162 77 [a0, a1, a2, some (.inl x), a4, a5, a6, a7] st m = go 162 78 [a0, a1, a2, some (.inl x), a4, a5, a6, a7] (.inl x :: st) m := e_1 d162_77 (Or.inl rfl) rfl
theorem d162_78 : decode (mt 162).2.1 78 = .ok (.iconst 1, 1) := by decide +kernel
theorem s162_78 {ls : LV} {st : List AV} {m : MM} : go 162 78 ls st m = go 162 79 ls (.inl 1 :: st) m := e_1 d162_78 (Or.inl rfl) rfl
theorem d162_79 : decode (mt 162).2.1 79 = .ok (.invokevirtual 278, 3) := by decide +kernel
theorem s162_79 {ls : LV} {m : MM} {x0 : Int32} {x1 : Int32} {x2 : Int32} {n : Nat} : go 162 79 ls [.inl x2, .inl x1, .inl x0, .inr (.inr (8, some n))] m = bd (go 160 0 [some (.inr (.inr (8, some n))), some (.inl x0), some (.inl x1), some (.inl x2), none, none] [] m) (fun v m2 => go 162 82 ls (v.toList ++ []) m2) := e_virt (y1 := 160) (na := 3) (as := [.inl x0, .inl x1, .inl x2]) (rest := []) d162_79 (by decide +kernel) rfl (by decide +kernel) (show (ent [.inr (.inr (8, some n)), .inl x0, .inl x1, .inl x2]).length ≤ (mt 160).2.2.2.1 from Nat.le_of_ble_eq_true rfl) (cats_le (Nat.le_of_ble_eq_true rfl)) (by decide +kernel)
theorem d162_82 : decode (mt 162).2.1 82 = .ok (.istore 5, 2) := by decide +kernel
theorem s162_82i {a0 a1 a2 a3 a5 a6 a7 : Option AV} {z : Int32} {st : List AV} {m : MM} {x : Int32} : go 162 82 [a0, a1, a2, a3, some (.inl z), a5, a6, a7] (.inl x :: st) m = go 162 84 [a0, a1, a2, a3, some (.inl z), some (.inl x), a6, a7] st m := e_1 d162_82 (Or.inl rfl) rfl
theorem s162_82r {a0 a1 a2 a3 a5 a6 a7 : Option AV} {z : Nat × Option Nat} {st : List AV} {m : MM} {x : Int32} : go 162 82 [a0, a1, a2, a3, some (.inr (.inr z)), a5, a6, a7] (.inl x :: st) m = go 162 84 [a0, a1, a2, a3, some (.inr (.inr z)), some (.inl x), a6, a7] st m := e_1 d162_82 (Or.inl rfl) rfl
theorem s162_82n {a0 a1 a2 a3 a5 a6 a7 : Option AV} {st : List AV} {m : MM} {x : Int32} : go 162 82 [a0, a1, a2, a3, none, a5, a6, a7] (.inl x :: st) m = go 162 84 [a0, a1, a2, a3, none, some (.inl x), a6, a7] st m := e_1 d162_82 (Or.inl rfl) rfl
theorem d162_84 : decode (mt 162).2.1 84 = .ok (.bipush 9, 2) := by decide +kernel
theorem s162_84 {ls : LV} {st : List AV} {m : MM} : go 162 84 ls st m = go 162 86 ls (.inl 9 :: st) m := e_1 d162_84 (Or.inl rfl) rfl
theorem d162_86 : decode (mt 162).2.1 86 = .ok (.iload_n 1, 1) := by decide +kernel
theorem s162_86 {a0 a2 a3 a4 a5 a6 a7 : Option AV} {st : List AV} {m : MM} {x : Int32} : go 162 86 [a0, some (.inl x), a2, a3, a4, a5, a6, a7] st m = go 162 87 [a0, some (.inl x), a2, a3, a4, a5, a6, a7] (.inl x :: st) m := e_1 d162_86 (Or.inl rfl) rfl
theorem d162_87 : decode (mt 162).2.1 87 = .ok (.imul, 1) := by decide +kernel
theorem s162_87 {ls : LV} {st : List AV} {m : MM} {a b : Int32} : go 162 87 ls (.inl b :: .inl a :: st) m = go 162 88 ls (.inl (a * b) :: st) m := e_1 d162_87 (Or.inl rfl) rfl
theorem d162_88 : decode (mt 162).2.1 88 = .ok (.iload_n 3, 1) := by decide +kernel
theorem s162_88 {a0 a1 a2 a4 a5 a6 a7 : Option AV} {st : List AV} {m : MM} {x : Int32} : go 162 88 [a0, a1, a2, some (.inl x), a4, a5, a6, a7] st m = go 162 89 [a0, a1, a2, some (.inl x), a4, a5, a6, a7] (.inl x :: st) m := e_1 d162_88 (Or.inl rfl) rfl
theorem d162_89 : decode (mt 162).2.1 89 = .ok (.iadd, 1) := by decide +kernel
theorem s162_89 {ls : LV} {st : List AV} {m : MM} {a b : Int32} : go 162 89 ls (.inl b :: .inl a :: st) m = go 162 90 ls (.inl (a + b) :: st) m := e_1 d162_89 (Or.inl rfl) rfl
theorem d162_90 : decode (mt 162).2.1 90 = .ok (.istore 6, 2) := by decide +kernel
theorem s162_90i {a0 a1 a2 a3 a4 a6 a7 : Option AV} {z : Int32} {st : List AV} {m : MM} {x : Int32} : go 162 90 [a0, a1, a2, a3, a4, some (.inl z), a6, a7] (.inl x :: st) m = go 162 92 [a0, a1, a2, a3, a4, some (.inl z), some (.inl x), a7] st m := e_1 d162_90 (Or.inl rfl) rfl
theorem s162_90r {a0 a1 a2 a3 a4 a6 a7 : Option AV} {z : Nat × Option Nat} {st : List AV} {m : MM} {x : Int32} : go 162 90 [a0, a1, a2, a3, a4, some (.inr (.inr z)), a6, a7] (.inl x :: st) m = go 162 92 [a0, a1, a2, a3, a4, some (.inr (.inr z)), some (.inl x), a7] st m := e_1 d162_90 (Or.inl rfl) rfl
theorem s162_90n {a0 a1 a2 a3 a4 a6 a7 : Option AV} {st : List AV} {m : MM} {x : Int32} : go 162 90 [a0, a1, a2, a3, a4, none, a6, a7] (.inl x :: st) m = go 162 92 [a0, a1, a2, a3, a4, none, some (.inl x), a7] st m := e_1 d162_90 (Or.inl rfl) rfl
theorem d162_92 : decode (mt 162).2.1 92 = .ok (.aload_n 0, 1) := by decide +kernel
theorem s162_92 {a1 a2 a3 a4 a5 a6 a7 : Option AV} {st : List AV} {m : MM} {x : Nat × Option Nat} : go 162 92 [some (.inr (.inr x)), a1, a2, a3, a4, a5, a6, a7] st m = go 162 93 [some (.inr (.inr x)), a1, a2, a3, a4, a5, a6, a7] (.inr (.inr x) :: st) m := e_1 d162_92 (Or.inl rfl) rfl
theorem d162_93 : decode (mt 162).2.1 93 = .ok (.getfield 26, 3) := by decide +kernel
theorem s162_93 {ls : LV} {st : List AV} {m : MM} {n : Nat} : go 162 93 ls (.inr (.inr (8, some n)) :: st) m = go 162 96 ls (.inr (.inr (23, mR m 8 n 6)) :: st) m := e_1 d162_93 (Or.inl rfl) (by rw [xi, pA, show lk fdL (mt 162).2.2.1 26 = some (8, 6) by decide +kernel]; rfl)
theorem d162_96 : decode (mt 162).2.1 96 = .ok (.iload 6, 2) := by decide +kernel
theorem s162_96 {a0 a1 a2 a3 a4 a5 a7 : Option AV} {st : List AV} {m : MM} {x : Int32} : go 162 96 [a0, a1, a2, a3, a4, a5, some (.inl x), a7] st m = go 162 98 [a0, a1, a2, a3, a4, a5, some (.inl x), a7] (.inl x :: st) m := e_1 d162_96 (Or.inl rfl) rfl
theorem d162_98 : decode (mt 162).2.1 98 = .ok (.baload, 1) := by decide +kernel
theorem s162_98 {ls : LV} {st : List AV} {m : MM} {n : Nat} {i : Int32} : go 162 98 ls (.inl i :: .inr (.inr (23, some n)) :: st) m = ixk (ix i (mN m 23 n)) (fun j => go 162 99 ls (.inl (mI m 23 n j) :: st) m) := e_ald d162_98 (fun j hj => by simp only [xi, pI, pA, hj, Option.bind_some]; rfl) (fun hj => by simp only [xi, pI, pA, hj, Option.bind_none])
theorem d162_99 : decode (mt 162).2.1 99 = .ok (.iload_n 2, 1) := by decide +kernel
theorem s162_99 {a0 a1 a3 a4 a5 a6 a7 : Option AV} {st : List AV} {m : MM} {x : Int32} : go 162 99 [a0, a1, some (.inl x), a3, a4, a5, a6, a7] st m = go 162 100 [a0, a1, some (.inl x), a3, a4, a5, a6, a7] (.inl x :: st) m := e_1 d162_99 (Or.inl rfl) rfl
theorem d162_100 : decode (mt 162).2.1 100 = .ok (.if_icmp .eq 7, 3) := by decide +kernel
theorem s162_100 {ls : LV} {st : List AV} {m : MM} {a b : Int32} : go 162 100 ls (.inl b :: .inl a :: st) m = if a = b then go 162 107 ls st m else go 162 103 ls st m := e_if (t := 107) (b := hc .eq a b) d162_100 (Or.inl rfl) (by simp only [xi, pI, jm_some (t := 107) (show ((100 : Nat) : Int) + 7 = ((107 : Nat) : Int) by decide), Option.bind_some]) (by simp [hc])
theorem d162_103 : decode (mt 162).2.1 103 = .ok (.iconst 2, 1) := by decide +kernel
theorem s162_103 {ls : LV} {st : List AV} {m : MM} : go 162 103 ls st m = go 162 104 ls (.inl 2 :: st) m := e_1 d162_103 (Or.inl rfl) rfl
theorem d162_104 : decode (mt 162).2.1 104 = .ok (.goto 46, 3) := by decide +kernel
theorem s162_104 {ls : LV} {st : List AV} {m : MM} : go 162 104 ls st m = go 162 150 ls st m := e_1 d162_104 (Or.inl rfl) (by rw [xi, jm_some (t := 150) (by decide)]; rfl)
theorem d162_107 : decode (mt 162).2.1 107 = .ok (.iload_n 2, 1) := by decide +kernel
theorem s162_107 {a0 a1 a3 a4 a5 a6 a7 : Option AV} {st : List AV} {m : MM} {x : Int32} : go 162 107 [a0, a1, some (.inl x), a3, a4, a5, a6, a7] st m = go 162 108 [a0, a1, some (.inl x), a3, a4, a5, a6, a7] (.inl x :: st) m := e_1 d162_107 (Or.inl rfl) rfl
theorem d162_108 : decode (mt 162).2.1 108 = .ok (.ifCond .ne 8, 3) := by decide +kernel
theorem s162_108 {ls : LV} {st : List AV} {m : MM} {a : Int32} : go 162 108 ls (.inl a :: st) m = if ¬ a = 0 then go 162 116 ls st m else go 162 111 ls st m := e_if (t := 116) (b := hc .ne a 0) d162_108 (Or.inl rfl) (by simp only [xi, pI, jm_some (t := 116) (show ((108 : Nat) : Int) + 8 = ((116 : Nat) : Int) by decide), Option.bind_some]) (by simp [hc])
theorem d162_111 : decode (mt 162).2.1 111 = .ok (.bipush (-4), 2) := by decide +kernel
theorem s162_111 {ls : LV} {st : List AV} {m : MM} : go 162 111 ls st m = go 162 113 ls (.inl (-4) :: st) m := e_1 d162_111 (Or.inl rfl) rfl
theorem d162_113 : decode (mt 162).2.1 113 = .ok (.goto 37, 3) := by decide +kernel
theorem s162_113 {ls : LV} {st : List AV} {m : MM} : go 162 113 ls st m = go 162 150 ls st m := e_1 d162_113 (Or.inl rfl) (by rw [xi, jm_some (t := 150) (by decide)]; rfl)
theorem d162_116 : decode (mt 162).2.1 116 = .ok (.aload_n 0, 1) := by decide +kernel
theorem s162_116 {a1 a2 a3 a4 a5 a6 a7 : Option AV} {st : List AV} {m : MM} {x : Nat × Option Nat} : go 162 116 [some (.inr (.inr x)), a1, a2, a3, a4, a5, a6, a7] st m = go 162 117 [some (.inr (.inr x)), a1, a2, a3, a4, a5, a6, a7] (.inr (.inr x) :: st) m := e_1 d162_116 (Or.inl rfl) rfl
theorem d162_117 : decode (mt 162).2.1 117 = .ok (.getfield 30, 3) := by decide +kernel
theorem s162_117 {ls : LV} {st : List AV} {m : MM} {n : Nat} : go 162 117 ls (.inr (.inr (8, some n)) :: st) m = go 162 120 ls (.inr (.inr (24, mR m 8 n 7)) :: st) m := e_1 d162_117 (Or.inl rfl) (by rw [xi, pA, show lk fdL (mt 162).2.2.1 30 = some (8, 7) by decide +kernel]; rfl)
theorem d162_120 : decode (mt 162).2.1 120 = .ok (.iload 6, 2) := by decide +kernel
theorem s162_120 {a0 a1 a2 a3 a4 a5 a7 : Option AV} {st : List AV} {m : MM} {x : Int32} : go 162 120 [a0, a1, a2, a3, a4, a5, some (.inl x), a7] st m = go 162 122 [a0, a1, a2, a3, a4, a5, some (.inl x), a7] (.inl x :: st) m := e_1 d162_120 (Or.inl rfl) rfl
theorem d162_122 : decode (mt 162).2.1 122 = .ok (.iaload, 1) := by decide +kernel
theorem s162_122 {ls : LV} {st : List AV} {m : MM} {n : Nat} {i : Int32} : go 162 122 ls (.inl i :: .inr (.inr (24, some n)) :: st) m = ixk (ix i (mN m 24 n)) (fun j => go 162 123 ls (.inl (mI m 24 n j) :: st) m) := e_ald d162_122 (fun j hj => by simp only [xi, pI, pA, hj, Option.bind_some]; rfl) (fun hj => by simp only [xi, pI, pA, hj, Option.bind_none])
theorem d162_123 : decode (mt 162).2.1 123 = .ok (.iload 4, 2) := by decide +kernel
theorem s162_123 {a0 a1 a2 a3 a5 a6 a7 : Option AV} {st : List AV} {m : MM} {x : Int32} : go 162 123 [a0, a1, a2, a3, some (.inl x), a5, a6, a7] st m = go 162 125 [a0, a1, a2, a3, some (.inl x), a5, a6, a7] (.inl x :: st) m := e_1 d162_123 (Or.inl rfl) rfl
theorem d162_125 : decode (mt 162).2.1 125 = .ok (.if_icmp .eq 7, 3) := by decide +kernel
theorem s162_125 {ls : LV} {st : List AV} {m : MM} {a b : Int32} : go 162 125 ls (.inl b :: .inl a :: st) m = if a = b then go 162 132 ls st m else go 162 128 ls st m := e_if (t := 132) (b := hc .eq a b) d162_125 (Or.inl rfl) (by simp only [xi, pI, jm_some (t := 132) (show ((125 : Nat) : Int) + 7 = ((132 : Nat) : Int) by decide), Option.bind_some]) (by simp [hc])
theorem d162_128 : decode (mt 162).2.1 128 = .ok (.iconst 0, 1) := by decide +kernel
theorem s162_128 {ls : LV} {st : List AV} {m : MM} : go 162 128 ls st m = go 162 129 ls (.inl 0 :: st) m := e_1 d162_128 (Or.inl rfl) rfl
theorem d162_129 : decode (mt 162).2.1 129 = .ok (.goto 21, 3) := by decide +kernel
theorem s162_129 {ls : LV} {st : List AV} {m : MM} : go 162 129 ls st m = go 162 150 ls st m := e_1 d162_129 (Or.inl rfl) (by rw [xi, jm_some (t := 150) (by decide)]; rfl)
theorem d162_132 : decode (mt 162).2.1 132 = .ok (.aload_n 0, 1) := by decide +kernel
theorem s162_132 {a1 a2 a3 a4 a5 a6 a7 : Option AV} {st : List AV} {m : MM} {x : Nat × Option Nat} : go 162 132 [some (.inr (.inr x)), a1, a2, a3, a4, a5, a6, a7] st m = go 162 133 [some (.inr (.inr x)), a1, a2, a3, a4, a5, a6, a7] (.inr (.inr x) :: st) m := e_1 d162_132 (Or.inl rfl) rfl
theorem d162_133 : decode (mt 162).2.1 133 = .ok (.getfield 33, 3) := by decide +kernel
theorem s162_133 {ls : LV} {st : List AV} {m : MM} {n : Nat} : go 162 133 ls (.inr (.inr (8, some n)) :: st) m = go 162 136 ls (.inr (.inr (25, mR m 8 n 8)) :: st) m := e_1 d162_133 (Or.inl rfl) (by rw [xi, pA, show lk fdL (mt 162).2.2.1 33 = some (8, 8) by decide +kernel]; rfl)
theorem d162_136 : decode (mt 162).2.1 136 = .ok (.iload 6, 2) := by decide +kernel
theorem s162_136 {a0 a1 a2 a3 a4 a5 a7 : Option AV} {st : List AV} {m : MM} {x : Int32} : go 162 136 [a0, a1, a2, a3, a4, a5, some (.inl x), a7] st m = go 162 138 [a0, a1, a2, a3, a4, a5, some (.inl x), a7] (.inl x :: st) m := e_1 d162_136 (Or.inl rfl) rfl
theorem d162_138 : decode (mt 162).2.1 138 = .ok (.iaload, 1) := by decide +kernel
theorem s162_138 {ls : LV} {st : List AV} {m : MM} {n : Nat} {i : Int32} : go 162 138 ls (.inl i :: .inr (.inr (25, some n)) :: st) m = ixk (ix i (mN m 25 n)) (fun j => go 162 139 ls (.inl (mI m 25 n j) :: st) m) := e_ald d162_138 (fun j hj => by simp only [xi, pI, pA, hj, Option.bind_some]; rfl) (fun hj => by simp only [xi, pI, pA, hj, Option.bind_none])
theorem d162_139 : decode (mt 162).2.1 139 = .ok (.iload 5, 2) := by decide +kernel
theorem s162_139 {a0 a1 a2 a3 a4 a6 a7 : Option AV} {st : List AV} {m : MM} {x : Int32} : go 162 139 [a0, a1, a2, a3, a4, some (.inl x), a6, a7] st m = go 162 141 [a0, a1, a2, a3, a4, some (.inl x), a6, a7] (.inl x :: st) m := e_1 d162_139 (Or.inl rfl) rfl
theorem d162_141 : decode (mt 162).2.1 141 = .ok (.if_icmp .eq 7, 3) := by decide +kernel
theorem s162_141 {ls : LV} {st : List AV} {m : MM} {a b : Int32} : go 162 141 ls (.inl b :: .inl a :: st) m = if a = b then go 162 148 ls st m else go 162 144 ls st m := e_if (t := 148) (b := hc .eq a b) d162_141 (Or.inl rfl) (by simp only [xi, pI, jm_some (t := 148) (show ((141 : Nat) : Int) + 7 = ((148 : Nat) : Int) by decide), Option.bind_some]) (by simp [hc])
theorem d162_144 : decode (mt 162).2.1 144 = .ok (.iconst 1, 1) := by decide +kernel
theorem s162_144 {ls : LV} {st : List AV} {m : MM} : go 162 144 ls st m = go 162 145 ls (.inl 1 :: st) m := e_1 d162_144 (Or.inl rfl) rfl
theorem d162_145 : decode (mt 162).2.1 145 = .ok (.goto 5, 3) := by decide +kernel
theorem s162_145 {ls : LV} {st : List AV} {m : MM} : go 162 145 ls st m = go 162 150 ls st m := e_1 d162_145 (Or.inl rfl) (by rw [xi, jm_some (t := 150) (by decide)]; rfl)
theorem d162_148 : decode (mt 162).2.1 148 = .ok (.bipush (-4), 2) := by decide +kernel
theorem s162_148 {ls : LV} {st : List AV} {m : MM} : go 162 148 ls st m = go 162 150 ls (.inl (-4) :: st) m := e_1 d162_148 (Or.inl rfl) rfl
theorem d162_150 : decode (mt 162).2.1 150 = .ok (.istore 7, 2) := by decide +kernel
theorem s162_150i {a0 a1 a2 a3 a4 a5 a7 : Option AV} {z : Int32} {st : List AV} {m : MM} {x : Int32} : go 162 150 [a0, a1, a2, a3, a4, a5, some (.inl z), a7] (.inl x :: st) m = go 162 152 [a0, a1, a2, a3, a4, a5, some (.inl z), some (.inl x)] st m := e_1 d162_150 (Or.inl rfl) rfl
theorem s162_150r {a0 a1 a2 a3 a4 a5 a7 : Option AV} {z : Nat × Option Nat} {st : List AV} {m : MM} {x : Int32} : go 162 150 [a0, a1, a2, a3, a4, a5, some (.inr (.inr z)), a7] (.inl x :: st) m = go 162 152 [a0, a1, a2, a3, a4, a5, some (.inr (.inr z)), some (.inl x)] st m := e_1 d162_150 (Or.inl rfl) rfl
theorem s162_150n {a0 a1 a2 a3 a4 a5 a7 : Option AV} {st : List AV} {m : MM} {x : Int32} : go 162 150 [a0, a1, a2, a3, a4, a5, none, a7] (.inl x :: st) m = go 162 152 [a0, a1, a2, a3, a4, a5, none, some (.inl x)] st m := e_1 d162_150 (Or.inl rfl) rfl
theorem d162_152 : decode (mt 162).2.1 152 = .ok (.iload 7, 2) := by decide +kernel
theorem s162_152 {a0 a1 a2 a3 a4 a5 a6 : Option AV} {st : List AV} {m : MM} {x : Int32} : go 162 152 [a0, a1, a2, a3, a4, a5, a6, some (.inl x)] st m = go 162 154 [a0, a1, a2, a3, a4, a5, a6, some (.inl x)] (.inl x :: st) m := e_1 d162_152 (Or.inl rfl) rfl
theorem d162_154 : decode (mt 162).2.1 154 = .ok (.bipush (-4), 2) := by decide +kernel
theorem s162_154 {ls : LV} {st : List AV} {m : MM} : go 162 154 ls st m = go 162 156 ls (.inl (-4) :: st) m := e_1 d162_154 (Or.inl rfl) rfl
theorem d162_156 : decode (mt 162).2.1 156 = .ok (.if_icmp .eq 19, 3) := by decide +kernel
theorem s162_156 {ls : LV} {st : List AV} {m : MM} {a b : Int32} : go 162 156 ls (.inl b :: .inl a :: st) m = if a = b then go 162 175 ls st m else go 162 159 ls st m := e_if (t := 175) (b := hc .eq a b) d162_156 (Or.inl rfl) (by simp only [xi, pI, jm_some (t := 175) (show ((156 : Nat) : Int) + 19 = ((175 : Nat) : Int) by decide), Option.bind_some]) (by simp [hc])
theorem d162_159 : decode (mt 162).2.1 159 = .ok (.aload_n 0, 1) := by decide +kernel
theorem s162_159 {a1 a2 a3 a4 a5 a6 a7 : Option AV} {st : List AV} {m : MM} {x : Nat × Option Nat} : go 162 159 [some (.inr (.inr x)), a1, a2, a3, a4, a5, a6, a7] st m = go 162 160 [some (.inr (.inr x)), a1, a2, a3, a4, a5, a6, a7] (.inr (.inr x) :: st) m := e_1 d162_159 (Or.inl rfl) rfl
theorem d162_160 : decode (mt 162).2.1 160 = .ok (.iload_n 1, 1) := by decide +kernel
theorem s162_160 {a0 a2 a3 a4 a5 a6 a7 : Option AV} {st : List AV} {m : MM} {x : Int32} : go 162 160 [a0, some (.inl x), a2, a3, a4, a5, a6, a7] st m = go 162 161 [a0, some (.inl x), a2, a3, a4, a5, a6, a7] (.inl x :: st) m := e_1 d162_160 (Or.inl rfl) rfl
theorem d162_161 : decode (mt 162).2.1 161 = .ok (.putfield 269, 3) := by decide +kernel
theorem s162_161 {ls : LV} {st : List AV} {m : MM} {n : Nat} {x : Int32} : go 162 161 ls (.inl x :: .inr (.inr (8, some n)) :: st) m = go 162 164 ls st (sI m 8 n 45 x) := e_put (r := 8) (f := 45) d162_161 (by decide +kernel) rfl (by decide +kernel)
theorem d162_164 : decode (mt 162).2.1 164 = .ok (.aload_n 0, 1) := by decide +kernel
theorem s162_164 {a1 a2 a3 a4 a5 a6 a7 : Option AV} {st : List AV} {m : MM} {x : Nat × Option Nat} : go 162 164 [some (.inr (.inr x)), a1, a2, a3, a4, a5, a6, a7] st m = go 162 165 [some (.inr (.inr x)), a1, a2, a3, a4, a5, a6, a7] (.inr (.inr x) :: st) m := e_1 d162_164 (Or.inl rfl) rfl
theorem d162_165 : decode (mt 162).2.1 165 = .ok (.iload_n 3, 1) := by decide +kernel
theorem s162_165 {a0 a1 a2 a4 a5 a6 a7 : Option AV} {st : List AV} {m : MM} {x : Int32} : go 162 165 [a0, a1, a2, some (.inl x), a4, a5, a6, a7] st m = go 162 166 [a0, a1, a2, some (.inl x), a4, a5, a6, a7] (.inl x :: st) m := e_1 d162_165 (Or.inl rfl) rfl
theorem d162_166 : decode (mt 162).2.1 166 = .ok (.putfield 272, 3) := by decide +kernel
theorem s162_166 {ls : LV} {st : List AV} {m : MM} {n : Nat} {x : Int32} : go 162 166 ls (.inl x :: .inr (.inr (8, some n)) :: st) m = go 162 169 ls st (sI m 8 n 46 x) := e_put (r := 8) (f := 46) d162_166 (by decide +kernel) rfl (by decide +kernel)
theorem d162_169 : decode (mt 162).2.1 169 = .ok (.aload_n 0, 1) := by decide +kernel
theorem s162_169 {a1 a2 a3 a4 a5 a6 a7 : Option AV} {st : List AV} {m : MM} {x : Nat × Option Nat} : go 162 169 [some (.inr (.inr x)), a1, a2, a3, a4, a5, a6, a7] st m = go 162 170 [some (.inr (.inr x)), a1, a2, a3, a4, a5, a6, a7] (.inr (.inr x) :: st) m := e_1 d162_169 (Or.inl rfl) rfl
theorem d162_170 : decode (mt 162).2.1 170 = .ok (.iload 7, 2) := by decide +kernel
theorem s162_170 {a0 a1 a2 a3 a4 a5 a6 : Option AV} {st : List AV} {m : MM} {x : Int32} : go 162 170 [a0, a1, a2, a3, a4, a5, a6, some (.inl x)] st m = go 162 172 [a0, a1, a2, a3, a4, a5, a6, some (.inl x)] (.inl x :: st) m := e_1 d162_170 (Or.inl rfl) rfl
theorem d162_172 : decode (mt 162).2.1 172 = .ok (.putfield 275, 3) := by decide +kernel
theorem s162_172 {ls : LV} {st : List AV} {m : MM} {n : Nat} {x : Int32} : go 162 172 ls (.inl x :: .inr (.inr (8, some n)) :: st) m = go 162 175 ls st (sI m 8 n 47 x) := e_put (r := 8) (f := 47) d162_172 (by decide +kernel) rfl (by decide +kernel)
theorem d162_175 : decode (mt 162).2.1 175 = .ok (.iload_n 2, 1) := by decide +kernel
theorem s162_175 {a0 a1 a3 a4 a5 a6 a7 : Option AV} {st : List AV} {m : MM} {x : Int32} : go 162 175 [a0, a1, some (.inl x), a3, a4, a5, a6, a7] st m = go 162 176 [a0, a1, some (.inl x), a3, a4, a5, a6, a7] (.inl x :: st) m := e_1 d162_175 (Or.inl rfl) rfl
theorem d162_176 : decode (mt 162).2.1 176 = .ok (.ifCond .eq 21, 3) := by decide +kernel
theorem s162_176 {ls : LV} {st : List AV} {m : MM} {a : Int32} : go 162 176 ls (.inl a :: st) m = if a = 0 then go 162 197 ls st m else go 162 179 ls st m := e_if (t := 197) (b := hc .eq a 0) d162_176 (Or.inl rfl) (by simp only [xi, pI, jm_some (t := 197) (show ((176 : Nat) : Int) + 21 = ((197 : Nat) : Int) by decide), Option.bind_some]) (by simp [hc])
theorem d162_179 : decode (mt 162).2.1 179 = .ok (.iload 4, 2) := by decide +kernel
theorem s162_179 {a0 a1 a2 a3 a5 a6 a7 : Option AV} {st : List AV} {m : MM} {x : Int32} : go 162 179 [a0, a1, a2, a3, some (.inl x), a5, a6, a7] st m = go 162 181 [a0, a1, a2, a3, some (.inl x), a5, a6, a7] (.inl x :: st) m := e_1 d162_179 (Or.inl rfl) rfl
theorem d162_181 : decode (mt 162).2.1 181 = .ok (.bipush (-4), 2) := by decide +kernel
theorem s162_181 {ls : LV} {st : List AV} {m : MM} : go 162 181 ls st m = go 162 183 ls (.inl (-4) :: st) m := e_1 d162_181 (Or.inl rfl) rfl
theorem d162_183 : decode (mt 162).2.1 183 = .ok (.if_icmp .ne 10, 3) := by decide +kernel
theorem s162_183 {ls : LV} {st : List AV} {m : MM} {a b : Int32} : go 162 183 ls (.inl b :: .inl a :: st) m = if ¬ a = b then go 162 193 ls st m else go 162 186 ls st m := e_if (t := 193) (b := hc .ne a b) d162_183 (Or.inl rfl) (by simp only [xi, pI, jm_some (t := 193) (show ((183 : Nat) : Int) + 10 = ((193 : Nat) : Int) by decide), Option.bind_some]) (by simp [hc])
theorem d162_186 : decode (mt 162).2.1 186 = .ok (.iload 5, 2) := by decide +kernel
theorem s162_186 {a0 a1 a2 a3 a4 a6 a7 : Option AV} {st : List AV} {m : MM} {x : Int32} : go 162 186 [a0, a1, a2, a3, a4, some (.inl x), a6, a7] st m = go 162 188 [a0, a1, a2, a3, a4, some (.inl x), a6, a7] (.inl x :: st) m := e_1 d162_186 (Or.inl rfl) rfl
theorem d162_188 : decode (mt 162).2.1 188 = .ok (.bipush (-4), 2) := by decide +kernel
theorem s162_188 {ls : LV} {st : List AV} {m : MM} : go 162 188 ls st m = go 162 190 ls (.inl (-4) :: st) m := e_1 d162_188 (Or.inl rfl) rfl
theorem d162_190 : decode (mt 162).2.1 190 = .ok (.if_icmp .eq 7, 3) := by decide +kernel
theorem s162_190 {ls : LV} {st : List AV} {m : MM} {a b : Int32} : go 162 190 ls (.inl b :: .inl a :: st) m = if a = b then go 162 197 ls st m else go 162 193 ls st m := e_if (t := 197) (b := hc .eq a b) d162_190 (Or.inl rfl) (by simp only [xi, pI, jm_some (t := 197) (show ((190 : Nat) : Int) + 7 = ((197 : Nat) : Int) by decide), Option.bind_some]) (by simp [hc])
theorem d162_193 : decode (mt 162).2.1 193 = .ok (.iconst 1, 1) := by decide +kernel
theorem s162_193 {ls : LV} {st : List AV} {m : MM} : go 162 193 ls st m = go 162 194 ls (.inl 1 :: st) m := e_1 d162_193 (Or.inl rfl) rfl
theorem d162_194 : decode (mt 162).2.1 194 = .ok (.goto 4, 3) := by decide +kernel
theorem s162_194 {ls : LV} {st : List AV} {m : MM} : go 162 194 ls st m = go 162 198 ls st m := e_1 d162_194 (Or.inl rfl) (by rw [xi, jm_some (t := 198) (by decide)]; rfl)
theorem d162_197 : decode (mt 162).2.1 197 = .ok (.iconst 0, 1) := by decide +kernel
theorem s162_197 {ls : LV} {st : List AV} {m : MM} : go 162 197 ls st m = go 162 198 ls (.inl 0 :: st) m := e_1 d162_197 (Or.inl rfl) rfl
theorem d162_198 : decode (mt 162).2.1 198 = .ok (.istore_n 2, 1) := by decide +kernel
theorem s162_198i {a0 a2 a3 a4 a5 a6 a7 : Option AV} {z : Int32} {st : List AV} {m : MM} {x : Int32} : go 162 198 [a0, some (.inl z), a2, a3, a4, a5, a6, a7] (.inl x :: st) m = go 162 199 [a0, some (.inl z), some (.inl x), a3, a4, a5, a6, a7] st m := e_1 d162_198 (Or.inl rfl) rfl
theorem s162_198r {a0 a2 a3 a4 a5 a6 a7 : Option AV} {z : Nat × Option Nat} {st : List AV} {m : MM} {x : Int32} : go 162 198 [a0, some (.inr (.inr z)), a2, a3, a4, a5, a6, a7] (.inl x :: st) m = go 162 199 [a0, some (.inr (.inr z)), some (.inl x), a3, a4, a5, a6, a7] st m := e_1 d162_198 (Or.inl rfl) rfl
theorem s162_198n {a0 a2 a3 a4 a5 a6 a7 : Option AV} {st : List AV} {m : MM} {x : Int32} : go 162 198 [a0, none, a2, a3, a4, a5, a6, a7] (.inl x :: st) m = go 162 199 [a0, none, some (.inl x), a3, a4, a5, a6, a7] st m := e_1 d162_198 (Or.inl rfl) rfl
theorem d162_199 : decode (mt 162).2.1 199 = .ok (.iinc 3 1, 3) := by decide +kernel
theorem s162_199i {a0 a1 a4 a5 a6 a7 : Option AV} {z : Int32} {st : List AV} {m : MM} {x : Int32} : go 162 199 [a0, a1, some (.inl z), some (.inl x), a4, a5, a6, a7] st m = go 162 202 [a0, a1, some (.inl z), some (.inl (x + 1)), a4, a5, a6, a7] st m := e_1 d162_199 (Or.inl rfl) rfl
theorem s162_199r {a0 a1 a4 a5 a6 a7 : Option AV} {z : Nat × Option Nat} {st : List AV} {m : MM} {x : Int32} : go 162 199 [a0, a1, some (.inr (.inr z)), some (.inl x), a4, a5, a6, a7] st m = go 162 202 [a0, a1, some (.inr (.inr z)), some (.inl (x + 1)), a4, a5, a6, a7] st m := e_1 d162_199 (Or.inl rfl) rfl
theorem s162_199n {a0 a1 a4 a5 a6 a7 : Option AV} {st : List AV} {m : MM} {x : Int32} : go 162 199 [a0, a1, none, some (.inl x), a4, a5, a6, a7] st m = go 162 202 [a0, a1, none, some (.inl (x + 1)), a4, a5, a6, a7] st m := e_1 d162_199 (Or.inl rfl) rfl
theorem d162_202 : decode (mt 162).2.1 202 = .ok (.goto (-161), 3) := by decide +kernel
theorem s162_202 {ls : LV} {st : List AV} {m : MM} : go 162 202 ls st m = go 162 41 ls st m := e_1 d162_202 (Or.inl rfl) (by rw [xi, jm_some (t := 41) (by decide)]; rfl)
theorem d162_205 : decode (mt 162).2.1 205 = .ok (.iinc 1 1, 3) := by decide +kernel
theorem s162_205i {a2 a3 a4 a5 a6 a7 : Option AV} {z : Int32} {st : List AV} {m : MM} {x : Int32} : go 162 205 [some (.inl z), some (.inl x), a2, a3, a4, a5, a6, a7] st m = go 162 208 [some (.inl z), some (.inl (x + 1)), a2, a3, a4, a5, a6, a7] st m := e_1 d162_205 (Or.inl rfl) rfl
theorem s162_205r {a2 a3 a4 a5 a6 a7 : Option AV} {z : Nat × Option Nat} {st : List AV} {m : MM} {x : Int32} : go 162 205 [some (.inr (.inr z)), some (.inl x), a2, a3, a4, a5, a6, a7] st m = go 162 208 [some (.inr (.inr z)), some (.inl (x + 1)), a2, a3, a4, a5, a6, a7] st m := e_1 d162_205 (Or.inl rfl) rfl
theorem s162_205n {a2 a3 a4 a5 a6 a7 : Option AV} {st : List AV} {m : MM} {x : Int32} : go 162 205 [none, some (.inl x), a2, a3, a4, a5, a6, a7] st m = go 162 208 [none, some (.inl (x + 1)), a2, a3, a4, a5, a6, a7] st m := e_1 d162_205 (Or.inl rfl) rfl
theorem d162_208 : decode (mt 162).2.1 208 = .ok (.goto (-188), 3) := by decide +kernel
theorem s162_208 {ls : LV} {st : List AV} {m : MM} : go 162 208 ls st m = go 162 20 ls st m := e_1 d162_208 (Or.inl rfl) (by rw [xi, jm_some (t := 20) (by decide)]; rfl)
theorem d162_211 : decode (mt 162).2.1 211 = .ok (.return_, 1) := by decide +kernel
theorem s162_211 {ls : LV} {m : MM} : go 162 211 ls [] m = some (none, m) := e_void d162_211 (by decide +kernel)
/-! X7_sound: 163 -/
theorem d163_0 : decode (mt 163).2.1 0 = .ok (.aload_n 0, 1) := by decide +kernel
theorem s163_0 {st : List AV} {m : MM} {x : Nat × Option Nat} : go 163 0 [some (.inr (.inr x))] st m = go 163 1 [some (.inr (.inr x))] (.inr (.inr x) :: st) m := e_1 d163_0 (Or.inl rfl) rfl
theorem d163_1 : decode (mt 163).2.1 1 = .ok (.invokevirtual 282, 3) := by decide +kernel
theorem s163_1 {ls : LV} {m : MM} {n : Nat} : go 163 1 ls [.inr (.inr (8, some n))] m = bd (go 162 0 [some (.inr (.inr (8, some n))), none, none, none, none, none, none, none] [] m) (fun v m2 => go 163 4 ls (v.toList ++ []) m2) := e_virt (y1 := 162) (na := 0) (as := []) (rest := []) d163_1 (by decide +kernel) rfl (by decide +kernel) (show (ent [.inr (.inr (8, some n))]).length ≤ (mt 162).2.2.2.1 from Nat.le_of_ble_eq_true rfl) (cats_le (Nat.le_of_ble_eq_true rfl)) (by decide +kernel)
theorem d163_4 : decode (mt 163).2.1 4 = .ok (.aload_n 0, 1) := by decide +kernel
theorem s163_4 {st : List AV} {m : MM} {x : Nat × Option Nat} : go 163 4 [some (.inr (.inr x))] st m = go 163 5 [some (.inr (.inr x))] (.inr (.inr x) :: st) m := e_1 d163_4 (Or.inl rfl) rfl
theorem d163_5 : decode (mt 163).2.1 5 = .ok (.getfield 269, 3) := by decide +kernel
theorem s163_5 {ls : LV} {st : List AV} {m : MM} {n : Nat} : go 163 5 ls (.inr (.inr (8, some n)) :: st) m = go 163 8 ls (.inl (mI m 8 n 45) :: st) m := e_1 d163_5 (Or.inl rfl) (by rw [xi, pA, show lk fdL (mt 163).2.2.1 269 = some (8, 45) by decide +kernel]; rfl)
theorem d163_8 : decode (mt 163).2.1 8 = .ok (.bipush (-4), 2) := by decide +kernel
theorem s163_8 {ls : LV} {st : List AV} {m : MM} : go 163 8 ls st m = go 163 10 ls (.inl (-4) :: st) m := e_1 d163_8 (Or.inl rfl) rfl
theorem d163_10 : decode (mt 163).2.1 10 = .ok (.if_icmp .ne 7, 3) := by decide +kernel
theorem s163_10 {ls : LV} {st : List AV} {m : MM} {a b : Int32} : go 163 10 ls (.inl b :: .inl a :: st) m = if ¬ a = b then go 163 17 ls st m else go 163 13 ls st m := e_if (t := 17) (b := hc .ne a b) d163_10 (Or.inl rfl) (by simp only [xi, pI, jm_some (t := 17) (show ((10 : Nat) : Int) + 7 = ((17 : Nat) : Int) by decide), Option.bind_some]) (by simp [hc])
theorem d163_13 : decode (mt 163).2.1 13 = .ok (.iconst 1, 1) := by decide +kernel
theorem s163_13 {ls : LV} {st : List AV} {m : MM} : go 163 13 ls st m = go 163 14 ls (.inl 1 :: st) m := e_1 d163_13 (Or.inl rfl) rfl
theorem d163_14 : decode (mt 163).2.1 14 = .ok (.goto 4, 3) := by decide +kernel
theorem s163_14 {ls : LV} {st : List AV} {m : MM} : go 163 14 ls st m = go 163 18 ls st m := e_1 d163_14 (Or.inl rfl) (by rw [xi, jm_some (t := 18) (by decide)]; rfl)
theorem d163_17 : decode (mt 163).2.1 17 = .ok (.iconst 0, 1) := by decide +kernel
theorem s163_17 {ls : LV} {st : List AV} {m : MM} : go 163 17 ls st m = go 163 18 ls (.inl 0 :: st) m := e_1 d163_17 (Or.inl rfl) rfl
theorem d163_18 : decode (mt 163).2.1 18 = .ok (.ireturn, 1) := by decide +kernel
theorem s163_18 {ls : LV} {m : MM} {x : Int32} : go 163 18 ls [.inl x] m = some (some (.inl x), m) := e_int d163_18 (by decide +kernel)
/-! X7_why: 164 -/
theorem d164_0 : decode (mt 164).2.1 0 = .ok (.iload_n 1, 1) := by decide +kernel
theorem s164_0 {a0 : Option AV} {st : List AV} {m : MM} {x : Int32} : go 164 0 [a0, some (.inl x)] st m = go 164 1 [a0, some (.inl x)] (.inl x :: st) m := e_1 d164_0 (Or.inl rfl) rfl
theorem d164_1 : decode (mt 164).2.1 1 = .ok (.i2l, 1) := by decide +kernel
theorem s164_1 {ls : LV} {st : List AV} {m : MM} {a : Int32} : go 164 1 ls (.inl a :: st) m = go 164 2 ls (.inr (.inl a.toInt64) :: st) m := e_1 d164_1 (Or.inl rfl) rfl
theorem d164_2 : decode (mt 164).2.1 2 = .ok (.lconst 0, 1) := by decide +kernel
theorem s164_2 {ls : LV} {st : List AV} {m : MM} : go 164 2 ls st m = go 164 3 ls (.inr (.inl 0) :: st) m := e_1 d164_2 (Or.inl rfl) rfl
theorem d164_3 : decode (mt 164).2.1 3 = .ok (.ldc2_w 285, 3) := by decide +kernel
theorem s164_3 {ls : LV} {st : List AV} {m : MM} : go 164 3 ls st m = go 164 6 ls (.inr (.inl 2) :: st) m := e_1 d164_3 (Or.inl rfl) (by rw [xi, show lk c2L (mt 164).2.2.1 285 = some 2 by decide +kernel]; rfl)
theorem d164_6 : decode (mt 164).2.1 6 = .ok (.invokestatic 118, 3) := by decide +kernel
theorem s164_6 {ls : LV} {m : MM} {x0 : Int64} {x1 : Int64} {x2 : Int64} : go 164 6 ls [.inr (.inl x2), .inr (.inl x1), .inr (.inl x0)] m = bd (go 103 0 [some (.inr (.inl x0)), none, some (.inr (.inl x1)), none, some (.inr (.inl x2)), none] [] m) (fun v m2 => go 164 9 ls (v.toList ++ []) m2) := e_stat (y1 := 103) (na := 3) (as := [.inr (.inl x0), .inr (.inl x1), .inr (.inl x2)]) (rest := []) d164_6 (by decide +kernel) rfl (by decide +kernel) (show (ent [.inr (.inl x0), .inr (.inl x1), .inr (.inl x2)]).length ≤ (mt 103).2.2.2.1 from Nat.le_of_ble_eq_true rfl) (cats_le (Nat.le_of_ble_eq_true rfl)) (by decide +kernel)
theorem d164_9 : decode (mt 164).2.1 9 = .ok (.ifCond .ne 5, 3) := by decide +kernel
theorem s164_9 {ls : LV} {st : List AV} {m : MM} {a : Int32} : go 164 9 ls (.inl a :: st) m = if ¬ a = 0 then go 164 14 ls st m else go 164 12 ls st m := e_if (t := 14) (b := hc .ne a 0) d164_9 (Or.inl rfl) (by simp only [xi, pI, jm_some (t := 14) (show ((9 : Nat) : Int) + 5 = ((14 : Nat) : Int) by decide), Option.bind_some]) (by simp [hc])
theorem d164_12 : decode (mt 164).2.1 12 = .ok (.iconst (-1), 1) := by decide +kernel
theorem s164_12 {ls : LV} {st : List AV} {m : MM} : go 164 12 ls st m = go 164 13 ls (.inl (-1) :: st) m := e_1 d164_12 (Or.inl rfl) rfl
theorem d164_13 : decode (mt 164).2.1 13 = .ok (.ireturn, 1) := by decide +kernel
theorem s164_13 {ls : LV} {m : MM} {x : Int32} : go 164 13 ls [.inl x] m = some (some (.inl x), m) := e_int d164_13 (by decide +kernel)
theorem d164_14 : decode (mt 164).2.1 14 = .ok (.aload_n 0, 1) := by decide +kernel
theorem s164_14 {a1 : Option AV} {st : List AV} {m : MM} {x : Nat × Option Nat} : go 164 14 [some (.inr (.inr x)), a1] st m = go 164 15 [some (.inr (.inr x)), a1] (.inr (.inr x) :: st) m := e_1 d164_14 (Or.inl rfl) rfl
theorem d164_15 : decode (mt 164).2.1 15 = .ok (.invokevirtual 282, 3) := by decide +kernel
theorem s164_15 {ls : LV} {m : MM} {n : Nat} : go 164 15 ls [.inr (.inr (8, some n))] m = bd (go 162 0 [some (.inr (.inr (8, some n))), none, none, none, none, none, none, none] [] m) (fun v m2 => go 164 18 ls (v.toList ++ []) m2) := e_virt (y1 := 162) (na := 0) (as := []) (rest := []) d164_15 (by decide +kernel) rfl (by decide +kernel) (show (ent [.inr (.inr (8, some n))]).length ≤ (mt 162).2.2.2.1 from Nat.le_of_ble_eq_true rfl) (cats_le (Nat.le_of_ble_eq_true rfl)) (by decide +kernel)
theorem d164_18 : decode (mt 164).2.1 18 = .ok (.iload_n 1, 1) := by decide +kernel
theorem s164_18 {a0 : Option AV} {st : List AV} {m : MM} {x : Int32} : go 164 18 [a0, some (.inl x)] st m = go 164 19 [a0, some (.inl x)] (.inl x :: st) m := e_1 d164_18 (Or.inl rfl) rfl
theorem d164_19 : decode (mt 164).2.1 19 = .ok (.ifCond .ne 10, 3) := by decide +kernel
theorem s164_19 {ls : LV} {st : List AV} {m : MM} {a : Int32} : go 164 19 ls (.inl a :: st) m = if ¬ a = 0 then go 164 29 ls st m else go 164 22 ls st m := e_if (t := 29) (b := hc .ne a 0) d164_19 (Or.inl rfl) (by simp only [xi, pI, jm_some (t := 29) (show ((19 : Nat) : Int) + 10 = ((29 : Nat) : Int) by decide), Option.bind_some]) (by simp [hc])
theorem d164_22 : decode (mt 164).2.1 22 = .ok (.aload_n 0, 1) := by decide +kernel
theorem s164_22 {a1 : Option AV} {st : List AV} {m : MM} {x : Nat × Option Nat} : go 164 22 [some (.inr (.inr x)), a1] st m = go 164 23 [some (.inr (.inr x)), a1] (.inr (.inr x) :: st) m := e_1 d164_22 (Or.inl rfl) rfl
theorem d164_23 : decode (mt 164).2.1 23 = .ok (.getfield 269, 3) := by decide +kernel
theorem s164_23 {ls : LV} {st : List AV} {m : MM} {n : Nat} : go 164 23 ls (.inr (.inr (8, some n)) :: st) m = go 164 26 ls (.inl (mI m 8 n 45) :: st) m := e_1 d164_23 (Or.inl rfl) (by rw [xi, pA, show lk fdL (mt 164).2.2.1 269 = some (8, 45) by decide +kernel]; rfl)
theorem d164_26 : decode (mt 164).2.1 26 = .ok (.goto 19, 3) := by decide +kernel
theorem s164_26 {ls : LV} {st : List AV} {m : MM} : go 164 26 ls st m = go 164 45 ls st m := e_1 d164_26 (Or.inl rfl) (by rw [xi, jm_some (t := 45) (by decide)]; rfl)
theorem d164_29 : decode (mt 164).2.1 29 = .ok (.iload_n 1, 1) := by decide +kernel
theorem s164_29 {a0 : Option AV} {st : List AV} {m : MM} {x : Int32} : go 164 29 [a0, some (.inl x)] st m = go 164 30 [a0, some (.inl x)] (.inl x :: st) m := e_1 d164_29 (Or.inl rfl) rfl
theorem d164_30 : decode (mt 164).2.1 30 = .ok (.iconst 1, 1) := by decide +kernel
theorem s164_30 {ls : LV} {st : List AV} {m : MM} : go 164 30 ls st m = go 164 31 ls (.inl 1 :: st) m := e_1 d164_30 (Or.inl rfl) rfl
theorem d164_31 : decode (mt 164).2.1 31 = .ok (.if_icmp .ne 10, 3) := by decide +kernel
theorem s164_31 {ls : LV} {st : List AV} {m : MM} {a b : Int32} : go 164 31 ls (.inl b :: .inl a :: st) m = if ¬ a = b then go 164 41 ls st m else go 164 34 ls st m := e_if (t := 41) (b := hc .ne a b) d164_31 (Or.inl rfl) (by simp only [xi, pI, jm_some (t := 41) (show ((31 : Nat) : Int) + 10 = ((41 : Nat) : Int) by decide), Option.bind_some]) (by simp [hc])
theorem d164_34 : decode (mt 164).2.1 34 = .ok (.aload_n 0, 1) := by decide +kernel
theorem s164_34 {a1 : Option AV} {st : List AV} {m : MM} {x : Nat × Option Nat} : go 164 34 [some (.inr (.inr x)), a1] st m = go 164 35 [some (.inr (.inr x)), a1] (.inr (.inr x) :: st) m := e_1 d164_34 (Or.inl rfl) rfl
theorem d164_35 : decode (mt 164).2.1 35 = .ok (.getfield 272, 3) := by decide +kernel
theorem s164_35 {ls : LV} {st : List AV} {m : MM} {n : Nat} : go 164 35 ls (.inr (.inr (8, some n)) :: st) m = go 164 38 ls (.inl (mI m 8 n 46) :: st) m := e_1 d164_35 (Or.inl rfl) (by rw [xi, pA, show lk fdL (mt 164).2.2.1 272 = some (8, 46) by decide +kernel]; rfl)
theorem d164_38 : decode (mt 164).2.1 38 = .ok (.goto 7, 3) := by decide +kernel
theorem s164_38 {ls : LV} {st : List AV} {m : MM} : go 164 38 ls st m = go 164 45 ls st m := e_1 d164_38 (Or.inl rfl) (by rw [xi, jm_some (t := 45) (by decide)]; rfl)
theorem d164_41 : decode (mt 164).2.1 41 = .ok (.aload_n 0, 1) := by decide +kernel
theorem s164_41 {a1 : Option AV} {st : List AV} {m : MM} {x : Nat × Option Nat} : go 164 41 [some (.inr (.inr x)), a1] st m = go 164 42 [some (.inr (.inr x)), a1] (.inr (.inr x) :: st) m := e_1 d164_41 (Or.inl rfl) rfl
theorem d164_42 : decode (mt 164).2.1 42 = .ok (.getfield 275, 3) := by decide +kernel
theorem s164_42 {ls : LV} {st : List AV} {m : MM} {n : Nat} : go 164 42 ls (.inr (.inr (8, some n)) :: st) m = go 164 45 ls (.inl (mI m 8 n 47) :: st) m := e_1 d164_42 (Or.inl rfl) (by rw [xi, pA, show lk fdL (mt 164).2.2.1 275 = some (8, 47) by decide +kernel]; rfl)
theorem d164_45 : decode (mt 164).2.1 45 = .ok (.ireturn, 1) := by decide +kernel
theorem s164_45 {ls : LV} {m : MM} {x : Int32} : go 164 45 ls [.inl x] m = some (some (.inl x), m) := e_int d164_45 (by decide +kernel)
/-! X7_worst: 165 -/
theorem d165_0 : decode (mt 165).2.1 0 = .ok (.aload_n 0, 1) := by decide +kernel
theorem s165_0 {a1 a2 a3 a4 a5 a6 : Option AV} {st : List AV} {m : MM} {x : Nat × Option Nat} : go 165 0 [some (.inr (.inr x)), a1, a2, a3, a4, a5, a6] st m = go 165 1 [some (.inr (.inr x)), a1, a2, a3, a4, a5, a6] (.inr (.inr x) :: st) m := e_1 d165_0 (Or.inl rfl) rfl
theorem d165_1 : decode (mt 165).2.1 1 = .ok (.getfield 186, 3) := by decide +kernel
theorem s165_1 {ls : LV} {st : List AV} {m : MM} {n : Nat} : go 165 1 ls (.inr (.inr (8, some n)) :: st) m = go 165 4 ls (.inl (mI m 8 n 41) :: st) m := e_1 d165_1 (Or.inl rfl) (by rw [xi, pA, show lk fdL (mt 165).2.2.1 186 = some (8, 41) by decide +kernel]; rfl)
theorem d165_4 : decode (mt 165).2.1 4 = .ok (.ifCond .le 6, 3) := by decide +kernel
theorem s165_4 {ls : LV} {st : List AV} {m : MM} {a : Int32} : go 165 4 ls (.inl a :: st) m = if a ≤ 0 then go 165 10 ls st m else go 165 7 ls st m := e_if (t := 10) (b := hc .le a 0) d165_4 (Or.inl rfl) (by simp only [xi, pI, jm_some (t := 10) (show ((4 : Nat) : Int) + 6 = ((10 : Nat) : Int) by decide), Option.bind_some]) (by simp [hc])
theorem d165_7 : decode (mt 165).2.1 7 = .ok (.bipush (-2), 2) := by decide +kernel
theorem s165_7 {ls : LV} {st : List AV} {m : MM} : go 165 7 ls st m = go 165 9 ls (.inl (-2) :: st) m := e_1 d165_7 (Or.inl rfl) rfl
theorem d165_9 : decode (mt 165).2.1 9 = .ok (.ireturn, 1) := by decide +kernel
theorem s165_9 {ls : LV} {m : MM} {x : Int32} : go 165 9 ls [.inl x] m = some (some (.inl x), m) := e_int d165_9 (by decide +kernel)
theorem d165_10 : decode (mt 165).2.1 10 = .ok (.bipush (-4), 2) := by decide +kernel
theorem s165_10 {ls : LV} {st : List AV} {m : MM} : go 165 10 ls st m = go 165 12 ls (.inl (-4) :: st) m := e_1 d165_10 (Or.inl rfl) rfl
theorem d165_12 : decode (mt 165).2.1 12 = .ok (.istore_n 1, 1) := by decide +kernel
theorem s165_12i {a1 a2 a3 a4 a5 a6 : Option AV} {z : Int32} {st : List AV} {m : MM} {x : Int32} : go 165 12 [some (.inl z), a1, a2, a3, a4, a5, a6] (.inl x :: st) m = go 165 13 [some (.inl z), some (.inl x), a2, a3, a4, a5, a6] st m := e_1 d165_12 (Or.inl rfl) rfl
theorem s165_12r {a1 a2 a3 a4 a5 a6 : Option AV} {z : Nat × Option Nat} {st : List AV} {m : MM} {x : Int32} : go 165 12 [some (.inr (.inr z)), a1, a2, a3, a4, a5, a6] (.inl x :: st) m = go 165 13 [some (.inr (.inr z)), some (.inl x), a2, a3, a4, a5, a6] st m := e_1 d165_12 (Or.inl rfl) rfl
theorem s165_12n {a1 a2 a3 a4 a5 a6 : Option AV} {st : List AV} {m : MM} {x : Int32} : go 165 12 [none, a1, a2, a3, a4, a5, a6] (.inl x :: st) m = go 165 13 [none, some (.inl x), a2, a3, a4, a5, a6] st m := e_1 d165_12 (Or.inl rfl) rfl
theorem d165_13 : decode (mt 165).2.1 13 = .ok (.iconst 0, 1) := by decide +kernel
theorem s165_13 {ls : LV} {st : List AV} {m : MM} : go 165 13 ls st m = go 165 14 ls (.inl 0 :: st) m := e_1 d165_13 (Or.inl rfl) rfl
theorem d165_14 : decode (mt 165).2.1 14 = .ok (.istore_n 2, 1) := by decide +kernel
theorem s165_14i {a0 a2 a3 a4 a5 a6 : Option AV} {z : Int32} {st : List AV} {m : MM} {x : Int32} : go 165 14 [a0, some (.inl z), a2, a3, a4, a5, a6] (.inl x :: st) m = go 165 15 [a0, some (.inl z), some (.inl x), a3, a4, a5, a6] st m := e_1 d165_14 (Or.inl rfl) rfl
theorem s165_14r {a0 a2 a3 a4 a5 a6 : Option AV} {z : Nat × Option Nat} {st : List AV} {m : MM} {x : Int32} : go 165 14 [a0, some (.inr (.inr z)), a2, a3, a4, a5, a6] (.inl x :: st) m = go 165 15 [a0, some (.inr (.inr z)), some (.inl x), a3, a4, a5, a6] st m := e_1 d165_14 (Or.inl rfl) rfl
theorem s165_14n {a0 a2 a3 a4 a5 a6 : Option AV} {st : List AV} {m : MM} {x : Int32} : go 165 14 [a0, none, a2, a3, a4, a5, a6] (.inl x :: st) m = go 165 15 [a0, none, some (.inl x), a3, a4, a5, a6] st m := e_1 d165_14 (Or.inl rfl) rfl
theorem d165_15 : decode (mt 165).2.1 15 = .ok (.iload_n 2, 1) := by decide +kernel
theorem s165_15 {a0 a1 a3 a4 a5 a6 : Option AV} {st : List AV} {m : MM} {x : Int32} : go 165 15 [a0, a1, some (.inl x), a3, a4, a5, a6] st m = go 165 16 [a0, a1, some (.inl x), a3, a4, a5, a6] (.inl x :: st) m := e_1 d165_15 (Or.inl rfl) rfl
theorem d165_16 : decode (mt 165).2.1 16 = .ok (.aload_n 0, 1) := by decide +kernel
theorem s165_16 {a1 a2 a3 a4 a5 a6 : Option AV} {st : List AV} {m : MM} {x : Nat × Option Nat} : go 165 16 [some (.inr (.inr x)), a1, a2, a3, a4, a5, a6] st m = go 165 17 [some (.inr (.inr x)), a1, a2, a3, a4, a5, a6] (.inr (.inr x) :: st) m := e_1 d165_16 (Or.inl rfl) rfl
theorem d165_17 : decode (mt 165).2.1 17 = .ok (.getfield 115, 3) := by decide +kernel
theorem s165_17 {ls : LV} {st : List AV} {m : MM} {n : Nat} : go 165 17 ls (.inr (.inr (8, some n)) :: st) m = go 165 20 ls (.inl (mI m 8 n 0) :: st) m := e_1 d165_17 (Or.inl rfl) (by rw [xi, pA, show lk fdL (mt 165).2.2.1 115 = some (8, 0) by decide +kernel]; rfl)
theorem d165_20 : decode (mt 165).2.1 20 = .ok (.if_icmp .ge 111, 3) := by decide +kernel
theorem s165_20 {ls : LV} {st : List AV} {m : MM} {a b : Int32} : go 165 20 ls (.inl b :: .inl a :: st) m = if b ≤ a then go 165 131 ls st m else go 165 23 ls st m := e_if (t := 131) (b := hc .ge a b) d165_20 (Or.inl rfl) (by simp only [xi, pI, jm_some (t := 131) (show ((20 : Nat) : Int) + 111 = ((131 : Nat) : Int) by decide), Option.bind_some]) (by simp [hc])
theorem d165_23 : decode (mt 165).2.1 23 = .ok (.iconst 0, 1) := by decide +kernel
theorem s165_23 {ls : LV} {st : List AV} {m : MM} : go 165 23 ls st m = go 165 24 ls (.inl 0 :: st) m := e_1 d165_23 (Or.inl rfl) rfl
theorem d165_24 : decode (mt 165).2.1 24 = .ok (.istore_n 3, 1) := by decide +kernel
theorem s165_24i {a0 a1 a3 a4 a5 a6 : Option AV} {z : Int32} {st : List AV} {m : MM} {x : Int32} : go 165 24 [a0, a1, some (.inl z), a3, a4, a5, a6] (.inl x :: st) m = go 165 25 [a0, a1, some (.inl z), some (.inl x), a4, a5, a6] st m := e_1 d165_24 (Or.inl rfl) rfl
theorem s165_24r {a0 a1 a3 a4 a5 a6 : Option AV} {z : Nat × Option Nat} {st : List AV} {m : MM} {x : Int32} : go 165 24 [a0, a1, some (.inr (.inr z)), a3, a4, a5, a6] (.inl x :: st) m = go 165 25 [a0, a1, some (.inr (.inr z)), some (.inl x), a4, a5, a6] st m := e_1 d165_24 (Or.inl rfl) rfl
theorem s165_24n {a0 a1 a3 a4 a5 a6 : Option AV} {st : List AV} {m : MM} {x : Int32} : go 165 24 [a0, a1, none, a3, a4, a5, a6] (.inl x :: st) m = go 165 25 [a0, a1, none, some (.inl x), a4, a5, a6] st m := e_1 d165_24 (Or.inl rfl) rfl
theorem d165_25 : decode (mt 165).2.1 25 = .ok (.iload_n 3, 1) := by decide +kernel
theorem s165_25 {a0 a1 a2 a4 a5 a6 : Option AV} {st : List AV} {m : MM} {x : Int32} : go 165 25 [a0, a1, a2, some (.inl x), a4, a5, a6] st m = go 165 26 [a0, a1, a2, some (.inl x), a4, a5, a6] (.inl x :: st) m := e_1 d165_25 (Or.inl rfl) rfl
theorem d165_26 : decode (mt 165).2.1 26 = .ok (.aload_n 0, 1) := by decide +kernel
theorem s165_26 {a1 a2 a3 a4 a5 a6 : Option AV} {st : List AV} {m : MM} {x : Nat × Option Nat} : go 165 26 [some (.inr (.inr x)), a1, a2, a3, a4, a5, a6] st m = go 165 27 [some (.inr (.inr x)), a1, a2, a3, a4, a5, a6] (.inr (.inr x) :: st) m := e_1 d165_26 (Or.inl rfl) rfl
theorem d165_27 : decode (mt 165).2.1 27 = .ok (.getfield 115, 3) := by decide +kernel
theorem s165_27 {ls : LV} {st : List AV} {m : MM} {n : Nat} : go 165 27 ls (.inr (.inr (8, some n)) :: st) m = go 165 30 ls (.inl (mI m 8 n 0) :: st) m := e_1 d165_27 (Or.inl rfl) (by rw [xi, pA, show lk fdL (mt 165).2.2.1 115 = some (8, 0) by decide +kernel]; rfl)
theorem d165_30 : decode (mt 165).2.1 30 = .ok (.if_icmp .ge 95, 3) := by decide +kernel
theorem s165_30 {ls : LV} {st : List AV} {m : MM} {a b : Int32} : go 165 30 ls (.inl b :: .inl a :: st) m = if b ≤ a then go 165 125 ls st m else go 165 33 ls st m := e_if (t := 125) (b := hc .ge a b) d165_30 (Or.inl rfl) (by simp only [xi, pI, jm_some (t := 125) (show ((30 : Nat) : Int) + 95 = ((125 : Nat) : Int) by decide), Option.bind_some]) (by simp [hc])
theorem d165_33 : decode (mt 165).2.1 33 = .ok (.aload_n 0, 1) := by decide +kernel
theorem s165_33 {a1 a2 a3 a4 a5 a6 : Option AV} {st : List AV} {m : MM} {x : Nat × Option Nat} : go 165 33 [some (.inr (.inr x)), a1, a2, a3, a4, a5, a6] st m = go 165 34 [some (.inr (.inr x)), a1, a2, a3, a4, a5, a6] (.inr (.inr x) :: st) m := e_1 d165_33 (Or.inl rfl) rfl
theorem d165_34 : decode (mt 165).2.1 34 = .ok (.getfield 20, 3) := by decide +kernel
theorem s165_34 {ls : LV} {st : List AV} {m : MM} {n : Nat} : go 165 34 ls (.inr (.inr (8, some n)) :: st) m = go 165 37 ls (.inr (.inr (21, mR m 8 n 4)) :: st) m := e_1 d165_34 (Or.inl rfl) (by rw [xi, pA, show lk fdL (mt 165).2.2.1 20 = some (8, 4) by decide +kernel]; rfl)
theorem d165_37 : decode (mt 165).2.1 37 = .ok (.iload_n 2, 1) := by decide +kernel
theorem s165_37 {a0 a1 a3 a4 a5 a6 : Option AV} {st : List AV} {m : MM} {x : Int32} : go 165 37 [a0, a1, some (.inl x), a3, a4, a5, a6] st m = go 165 38 [a0, a1, some (.inl x), a3, a4, a5, a6] (.inl x :: st) m := e_1 d165_37 (Or.inl rfl) rfl
theorem d165_38 : decode (mt 165).2.1 38 = .ok (.iaload, 1) := by decide +kernel
theorem s165_38 {ls : LV} {st : List AV} {m : MM} {n : Nat} {i : Int32} : go 165 38 ls (.inl i :: .inr (.inr (21, some n)) :: st) m = ixk (ix i (mN m 21 n)) (fun j => go 165 39 ls (.inl (mI m 21 n j) :: st) m) := e_ald d165_38 (fun j hj => by simp only [xi, pI, pA, hj, Option.bind_some]; rfl) (fun hj => by simp only [xi, pI, pA, hj, Option.bind_none])
theorem d165_39 : decode (mt 165).2.1 39 = .ok (.iconst 2, 1) := by decide +kernel
theorem s165_39 {ls : LV} {st : List AV} {m : MM} : go 165 39 ls st m = go 165 40 ls (.inl 2 :: st) m := e_1 d165_39 (Or.inl rfl) rfl
theorem d165_40 : decode (mt 165).2.1 40 = .ok (.if_icmp .ne 79, 3) := by decide +kernel
theorem s165_40 {ls : LV} {st : List AV} {m : MM} {a b : Int32} : go 165 40 ls (.inl b :: .inl a :: st) m = if ¬ a = b then go 165 119 ls st m else go 165 43 ls st m := e_if (t := 119) (b := hc .ne a b) d165_40 (Or.inl rfl) (by simp only [xi, pI, jm_some (t := 119) (show ((40 : Nat) : Int) + 79 = ((119 : Nat) : Int) by decide), Option.bind_some]) (by simp [hc])
theorem d165_43 : decode (mt 165).2.1 43 = .ok (.aload_n 0, 1) := by decide +kernel
theorem s165_43 {a1 a2 a3 a4 a5 a6 : Option AV} {st : List AV} {m : MM} {x : Nat × Option Nat} : go 165 43 [some (.inr (.inr x)), a1, a2, a3, a4, a5, a6] st m = go 165 44 [some (.inr (.inr x)), a1, a2, a3, a4, a5, a6] (.inr (.inr x) :: st) m := e_1 d165_43 (Or.inl rfl) rfl
theorem d165_44 : decode (mt 165).2.1 44 = .ok (.getfield 20, 3) := by decide +kernel
theorem s165_44 {ls : LV} {st : List AV} {m : MM} {n : Nat} : go 165 44 ls (.inr (.inr (8, some n)) :: st) m = go 165 47 ls (.inr (.inr (21, mR m 8 n 4)) :: st) m := e_1 d165_44 (Or.inl rfl) (by rw [xi, pA, show lk fdL (mt 165).2.2.1 20 = some (8, 4) by decide +kernel]; rfl)
theorem d165_47 : decode (mt 165).2.1 47 = .ok (.iload_n 3, 1) := by decide +kernel
theorem s165_47 {a0 a1 a2 a4 a5 a6 : Option AV} {st : List AV} {m : MM} {x : Int32} : go 165 47 [a0, a1, a2, some (.inl x), a4, a5, a6] st m = go 165 48 [a0, a1, a2, some (.inl x), a4, a5, a6] (.inl x :: st) m := e_1 d165_47 (Or.inl rfl) rfl
theorem d165_48 : decode (mt 165).2.1 48 = .ok (.iaload, 1) := by decide +kernel
theorem s165_48 {ls : LV} {st : List AV} {m : MM} {n : Nat} {i : Int32} : go 165 48 ls (.inl i :: .inr (.inr (21, some n)) :: st) m = ixk (ix i (mN m 21 n)) (fun j => go 165 49 ls (.inl (mI m 21 n j) :: st) m) := e_ald d165_48 (fun j hj => by simp only [xi, pI, pA, hj, Option.bind_some]; rfl) (fun hj => by simp only [xi, pI, pA, hj, Option.bind_none])
theorem d165_49 : decode (mt 165).2.1 49 = .ok (.iconst 2, 1) := by decide +kernel
theorem s165_49 {ls : LV} {st : List AV} {m : MM} : go 165 49 ls st m = go 165 50 ls (.inl 2 :: st) m := e_1 d165_49 (Or.inl rfl) rfl
theorem d165_50 : decode (mt 165).2.1 50 = .ok (.if_icmp .ne 69, 3) := by decide +kernel
theorem s165_50 {ls : LV} {st : List AV} {m : MM} {a b : Int32} : go 165 50 ls (.inl b :: .inl a :: st) m = if ¬ a = b then go 165 119 ls st m else go 165 53 ls st m := e_if (t := 119) (b := hc .ne a b) d165_50 (Or.inl rfl) (by simp only [xi, pI, jm_some (t := 119) (show ((50 : Nat) : Int) + 69 = ((119 : Nat) : Int) by decide), Option.bind_some]) (by simp [hc])
theorem d165_53 : decode (mt 165).2.1 53 = .ok (.iconst 1, 1) := by decide +kernel
theorem s165_53 {ls : LV} {st : List AV} {m : MM} : go 165 53 ls st m = go 165 54 ls (.inl 1 :: st) m := e_1 d165_53 (Or.inl rfl) rfl
theorem d165_54 : decode (mt 165).2.1 54 = .ok (.istore 4, 2) := by decide +kernel
theorem s165_54i {a0 a1 a2 a4 a5 a6 : Option AV} {z : Int32} {st : List AV} {m : MM} {x : Int32} : go 165 54 [a0, a1, a2, some (.inl z), a4, a5, a6] (.inl x :: st) m = go 165 56 [a0, a1, a2, some (.inl z), some (.inl x), a5, a6] st m := e_1 d165_54 (Or.inl rfl) rfl
theorem s165_54r {a0 a1 a2 a4 a5 a6 : Option AV} {z : Nat × Option Nat} {st : List AV} {m : MM} {x : Int32} : go 165 54 [a0, a1, a2, some (.inr (.inr z)), a4, a5, a6] (.inl x :: st) m = go 165 56 [a0, a1, a2, some (.inr (.inr z)), some (.inl x), a5, a6] st m := e_1 d165_54 (Or.inl rfl) rfl
theorem s165_54n {a0 a1 a2 a4 a5 a6 : Option AV} {st : List AV} {m : MM} {x : Int32} : go 165 54 [a0, a1, a2, none, a4, a5, a6] (.inl x :: st) m = go 165 56 [a0, a1, a2, none, some (.inl x), a5, a6] st m := e_1 d165_54 (Or.inl rfl) rfl
theorem d165_56 : decode (mt 165).2.1 56 = .ok (.iload_n 2, 1) := by decide +kernel
theorem s165_56 {a0 a1 a3 a4 a5 a6 : Option AV} {st : List AV} {m : MM} {x : Int32} : go 165 56 [a0, a1, some (.inl x), a3, a4, a5, a6] st m = go 165 57 [a0, a1, some (.inl x), a3, a4, a5, a6] (.inl x :: st) m := e_1 d165_56 (Or.inl rfl) rfl
theorem d165_57 : decode (mt 165).2.1 57 = .ok (.istore 5, 2) := by decide +kernel
theorem s165_57i {a0 a1 a2 a3 a5 a6 : Option AV} {z : Int32} {st : List AV} {m : MM} {x : Int32} : go 165 57 [a0, a1, a2, a3, some (.inl z), a5, a6] (.inl x :: st) m = go 165 59 [a0, a1, a2, a3, some (.inl z), some (.inl x), a6] st m := e_1 d165_57 (Or.inl rfl) rfl
theorem s165_57r {a0 a1 a2 a3 a5 a6 : Option AV} {z : Nat × Option Nat} {st : List AV} {m : MM} {x : Int32} : go 165 57 [a0, a1, a2, a3, some (.inr (.inr z)), a5, a6] (.inl x :: st) m = go 165 59 [a0, a1, a2, a3, some (.inr (.inr z)), some (.inl x), a6] st m := e_1 d165_57 (Or.inl rfl) rfl
theorem s165_57n {a0 a1 a2 a3 a5 a6 : Option AV} {st : List AV} {m : MM} {x : Int32} : go 165 57 [a0, a1, a2, a3, none, a5, a6] (.inl x :: st) m = go 165 59 [a0, a1, a2, a3, none, some (.inl x), a6] st m := e_1 d165_57 (Or.inl rfl) rfl
theorem d165_59 : decode (mt 165).2.1 59 = .ok (.aload_n 0, 1) := by decide +kernel
theorem s165_59 {a1 a2 a3 a4 a5 a6 : Option AV} {st : List AV} {m : MM} {x : Nat × Option Nat} : go 165 59 [some (.inr (.inr x)), a1, a2, a3, a4, a5, a6] st m = go 165 60 [some (.inr (.inr x)), a1, a2, a3, a4, a5, a6] (.inr (.inr x) :: st) m := e_1 d165_59 (Or.inl rfl) rfl
theorem d165_60 : decode (mt 165).2.1 60 = .ok (.iload 5, 2) := by decide +kernel
theorem s165_60 {a0 a1 a2 a3 a4 a6 : Option AV} {st : List AV} {m : MM} {x : Int32} : go 165 60 [a0, a1, a2, a3, a4, some (.inl x), a6] st m = go 165 62 [a0, a1, a2, a3, a4, some (.inl x), a6] (.inl x :: st) m := e_1 d165_60 (Or.inl rfl) rfl
theorem d165_62 : decode (mt 165).2.1 62 = .ok (.aload_n 0, 1) := by decide +kernel
theorem s165_62 {a1 a2 a3 a4 a5 a6 : Option AV} {st : List AV} {m : MM} {x : Nat × Option Nat} : go 165 62 [some (.inr (.inr x)), a1, a2, a3, a4, a5, a6] st m = go 165 63 [some (.inr (.inr x)), a1, a2, a3, a4, a5, a6] (.inr (.inr x) :: st) m := e_1 d165_62 (Or.inl rfl) rfl
theorem d165_63 : decode (mt 165).2.1 63 = .ok (.getfield 13, 3) := by decide +kernel
theorem s165_63 {ls : LV} {st : List AV} {m : MM} {n : Nat} : go 165 63 ls (.inr (.inr (8, some n)) :: st) m = go 165 66 ls (.inr (.inr (19, mR m 8 n 2)) :: st) m := e_1 d165_63 (Or.inl rfl) (by rw [xi, pA, show lk fdL (mt 165).2.2.1 13 = some (8, 2) by decide +kernel]; rfl)
theorem d165_66 : decode (mt 165).2.1 66 = .ok (.iload_n 3, 1) := by decide +kernel
theorem s165_66 {a0 a1 a2 a4 a5 a6 : Option AV} {st : List AV} {m : MM} {x : Int32} : go 165 66 [a0, a1, a2, some (.inl x), a4, a5, a6] st m = go 165 67 [a0, a1, a2, some (.inl x), a4, a5, a6] (.inl x :: st) m := e_1 d165_66 (Or.inl rfl) rfl
theorem d165_67 : decode (mt 165).2.1 67 = .ok (.iaload, 1) := by decide +kernel
theorem s165_67 {ls : LV} {st : List AV} {m : MM} {n : Nat} {i : Int32} : go 165 67 ls (.inl i :: .inr (.inr (19, some n)) :: st) m = ixk (ix i (mN m 19 n)) (fun j => go 165 68 ls (.inl (mI m 19 n j) :: st) m) := e_ald d165_67 (fun j hj => by simp only [xi, pI, pA, hj, Option.bind_some]; rfl) (fun hj => by simp only [xi, pI, pA, hj, Option.bind_none])
theorem d165_68 : decode (mt 165).2.1 68 = .ok (.i2l, 1) := by decide +kernel
theorem s165_68 {ls : LV} {st : List AV} {m : MM} {a : Int32} : go 165 68 ls (.inl a :: st) m = go 165 69 ls (.inr (.inl a.toInt64) :: st) m := e_1 d165_68 (Or.inl rfl) rfl
theorem d165_69 : decode (mt 165).2.1 69 = .ok (.invokevirtual 149, 3) := by decide +kernel
theorem s165_69 {ls : LV} {m : MM} {x0 : Int32} {x1 : Int64} {n : Nat} : go 165 69 ls [.inr (.inl x1), .inl x0, .inr (.inr (8, some n))] m = bd (go 121 0 [some (.inr (.inr (8, some n))), some (.inl x0), some (.inr (.inl x1)), none, none, none] [] m) (fun v m2 => go 165 72 ls (v.toList ++ []) m2) := e_virt (y1 := 121) (na := 2) (as := [.inl x0, .inr (.inl x1)]) (rest := []) d165_69 (by decide +kernel) rfl (by decide +kernel) (show (ent [.inr (.inr (8, some n)), .inl x0, .inr (.inl x1)]).length ≤ (mt 121).2.2.2.1 from Nat.le_of_ble_eq_true rfl) (cats_le (Nat.le_of_ble_eq_true rfl)) (by decide +kernel)
theorem d165_72 : decode (mt 165).2.1 72 = .ok (.istore 6, 2) := by decide +kernel
theorem s165_72i {a0 a1 a2 a3 a4 a6 : Option AV} {z : Int32} {st : List AV} {m : MM} {x : Int32} : go 165 72 [a0, a1, a2, a3, a4, some (.inl z), a6] (.inl x :: st) m = go 165 74 [a0, a1, a2, a3, a4, some (.inl z), some (.inl x)] st m := e_1 d165_72 (Or.inl rfl) rfl
theorem s165_72r {a0 a1 a2 a3 a4 a6 : Option AV} {z : Nat × Option Nat} {st : List AV} {m : MM} {x : Int32} : go 165 72 [a0, a1, a2, a3, a4, some (.inr (.inr z)), a6] (.inl x :: st) m = go 165 74 [a0, a1, a2, a3, a4, some (.inr (.inr z)), some (.inl x)] st m := e_1 d165_72 (Or.inl rfl) rfl
theorem s165_72n {a0 a1 a2 a3 a4 a6 : Option AV} {st : List AV} {m : MM} {x : Int32} : go 165 72 [a0, a1, a2, a3, a4, none, a6] (.inl x :: st) m = go 165 74 [a0, a1, a2, a3, a4, none, some (.inl x)] st m := e_1 d165_72 (Or.inl rfl) rfl
theorem d165_74 : decode (mt 165).2.1 74 = .ok (.iload 6, 2) := by decide +kernel
theorem s165_74 {a0 a1 a2 a3 a4 a5 : Option AV} {st : List AV} {m : MM} {x : Int32} : go 165 74 [a0, a1, a2, a3, a4, a5, some (.inl x)] st m = go 165 76 [a0, a1, a2, a3, a4, a5, some (.inl x)] (.inl x :: st) m := e_1 d165_74 (Or.inl rfl) rfl
theorem d165_76 : decode (mt 165).2.1 76 = .ok (.bipush (-10), 2) := by decide +kernel
theorem s165_76 {ls : LV} {st : List AV} {m : MM} : go 165 76 ls st m = go 165 78 ls (.inl (-10) :: st) m := e_1 d165_76 (Or.inl rfl) rfl
theorem d165_78 : decode (mt 165).2.1 78 = .ok (.if_icmp .eq 28, 3) := by decide +kernel
theorem s165_78 {ls : LV} {st : List AV} {m : MM} {a b : Int32} : go 165 78 ls (.inl b :: .inl a :: st) m = if a = b then go 165 106 ls st m else go 165 81 ls st m := e_if (t := 106) (b := hc .eq a b) d165_78 (Or.inl rfl) (by simp only [xi, pI, jm_some (t := 106) (show ((78 : Nat) : Int) + 28 = ((106 : Nat) : Int) by decide), Option.bind_some]) (by simp [hc])
theorem d165_81 : decode (mt 165).2.1 81 = .ok (.iload 6, 2) := by decide +kernel
theorem s165_81 {a0 a1 a2 a3 a4 a5 : Option AV} {st : List AV} {m : MM} {x : Int32} : go 165 81 [a0, a1, a2, a3, a4, a5, some (.inl x)] st m = go 165 83 [a0, a1, a2, a3, a4, a5, some (.inl x)] (.inl x :: st) m := e_1 d165_81 (Or.inl rfl) rfl
theorem d165_83 : decode (mt 165).2.1 83 = .ok (.istore 5, 2) := by decide +kernel
theorem s165_83i {a0 a1 a2 a3 a5 a6 : Option AV} {z : Int32} {st : List AV} {m : MM} {x : Int32} : go 165 83 [a0, a1, a2, a3, some (.inl z), a5, a6] (.inl x :: st) m = go 165 85 [a0, a1, a2, a3, some (.inl z), some (.inl x), a6] st m := e_1 d165_83 (Or.inl rfl) rfl
theorem s165_83r {a0 a1 a2 a3 a5 a6 : Option AV} {z : Nat × Option Nat} {st : List AV} {m : MM} {x : Int32} : go 165 83 [a0, a1, a2, a3, some (.inr (.inr z)), a5, a6] (.inl x :: st) m = go 165 85 [a0, a1, a2, a3, some (.inr (.inr z)), some (.inl x), a6] st m := e_1 d165_83 (Or.inl rfl) rfl
theorem s165_83n {a0 a1 a2 a3 a5 a6 : Option AV} {st : List AV} {m : MM} {x : Int32} : go 165 83 [a0, a1, a2, a3, none, a5, a6] (.inl x :: st) m = go 165 85 [a0, a1, a2, a3, none, some (.inl x), a6] st m := e_1 d165_83 (Or.inl rfl) rfl
theorem d165_85 : decode (mt 165).2.1 85 = .ok (.iinc 4 1, 3) := by decide +kernel
theorem s165_85i {a0 a1 a2 a5 a6 : Option AV} {z : Int32} {st : List AV} {m : MM} {x : Int32} : go 165 85 [a0, a1, a2, some (.inl z), some (.inl x), a5, a6] st m = go 165 88 [a0, a1, a2, some (.inl z), some (.inl (x + 1)), a5, a6] st m := e_1 d165_85 (Or.inl rfl) rfl
theorem s165_85r {a0 a1 a2 a5 a6 : Option AV} {z : Nat × Option Nat} {st : List AV} {m : MM} {x : Int32} : go 165 85 [a0, a1, a2, some (.inr (.inr z)), some (.inl x), a5, a6] st m = go 165 88 [a0, a1, a2, some (.inr (.inr z)), some (.inl (x + 1)), a5, a6] st m := e_1 d165_85 (Or.inl rfl) rfl
theorem s165_85n {a0 a1 a2 a5 a6 : Option AV} {st : List AV} {m : MM} {x : Int32} : go 165 85 [a0, a1, a2, none, some (.inl x), a5, a6] st m = go 165 88 [a0, a1, a2, none, some (.inl (x + 1)), a5, a6] st m := e_1 d165_85 (Or.inl rfl) rfl
theorem d165_88 : decode (mt 165).2.1 88 = .ok (.aload_n 0, 1) := by decide +kernel
theorem s165_88 {a1 a2 a3 a4 a5 a6 : Option AV} {st : List AV} {m : MM} {x : Nat × Option Nat} : go 165 88 [some (.inr (.inr x)), a1, a2, a3, a4, a5, a6] st m = go 165 89 [some (.inr (.inr x)), a1, a2, a3, a4, a5, a6] (.inr (.inr x) :: st) m := e_1 d165_88 (Or.inl rfl) rfl
theorem d165_89 : decode (mt 165).2.1 89 = .ok (.iload 5, 2) := by decide +kernel
theorem s165_89 {a0 a1 a2 a3 a4 a6 : Option AV} {st : List AV} {m : MM} {x : Int32} : go 165 89 [a0, a1, a2, a3, a4, some (.inl x), a6] st m = go 165 91 [a0, a1, a2, a3, a4, some (.inl x), a6] (.inl x :: st) m := e_1 d165_89 (Or.inl rfl) rfl
theorem d165_91 : decode (mt 165).2.1 91 = .ok (.aload_n 0, 1) := by decide +kernel
theorem s165_91 {a1 a2 a3 a4 a5 a6 : Option AV} {st : List AV} {m : MM} {x : Nat × Option Nat} : go 165 91 [some (.inr (.inr x)), a1, a2, a3, a4, a5, a6] st m = go 165 92 [some (.inr (.inr x)), a1, a2, a3, a4, a5, a6] (.inr (.inr x) :: st) m := e_1 d165_91 (Or.inl rfl) rfl
theorem d165_92 : decode (mt 165).2.1 92 = .ok (.getfield 13, 3) := by decide +kernel
theorem s165_92 {ls : LV} {st : List AV} {m : MM} {n : Nat} : go 165 92 ls (.inr (.inr (8, some n)) :: st) m = go 165 95 ls (.inr (.inr (19, mR m 8 n 2)) :: st) m := e_1 d165_92 (Or.inl rfl) (by rw [xi, pA, show lk fdL (mt 165).2.2.1 13 = some (8, 2) by decide +kernel]; rfl)
theorem d165_95 : decode (mt 165).2.1 95 = .ok (.iload_n 3, 1) := by decide +kernel
theorem s165_95 {a0 a1 a2 a4 a5 a6 : Option AV} {st : List AV} {m : MM} {x : Int32} : go 165 95 [a0, a1, a2, some (.inl x), a4, a5, a6] st m = go 165 96 [a0, a1, a2, some (.inl x), a4, a5, a6] (.inl x :: st) m := e_1 d165_95 (Or.inl rfl) rfl
theorem d165_96 : decode (mt 165).2.1 96 = .ok (.iaload, 1) := by decide +kernel
theorem s165_96 {ls : LV} {st : List AV} {m : MM} {n : Nat} {i : Int32} : go 165 96 ls (.inl i :: .inr (.inr (19, some n)) :: st) m = ixk (ix i (mN m 19 n)) (fun j => go 165 97 ls (.inl (mI m 19 n j) :: st) m) := e_ald d165_96 (fun j hj => by simp only [xi, pI, pA, hj, Option.bind_some]; rfl) (fun hj => by simp only [xi, pI, pA, hj, Option.bind_none])
theorem d165_97 : decode (mt 165).2.1 97 = .ok (.i2l, 1) := by decide +kernel
theorem s165_97 {ls : LV} {st : List AV} {m : MM} {a : Int32} : go 165 97 ls (.inl a :: st) m = go 165 98 ls (.inr (.inl a.toInt64) :: st) m := e_1 d165_97 (Or.inl rfl) rfl
theorem d165_98 : decode (mt 165).2.1 98 = .ok (.invokevirtual 149, 3) := by decide +kernel
theorem s165_98 {ls : LV} {m : MM} {x0 : Int32} {x1 : Int64} {n : Nat} : go 165 98 ls [.inr (.inl x1), .inl x0, .inr (.inr (8, some n))] m = bd (go 121 0 [some (.inr (.inr (8, some n))), some (.inl x0), some (.inr (.inl x1)), none, none, none] [] m) (fun v m2 => go 165 101 ls (v.toList ++ []) m2) := e_virt (y1 := 121) (na := 2) (as := [.inl x0, .inr (.inl x1)]) (rest := []) d165_98 (by decide +kernel) rfl (by decide +kernel) (show (ent [.inr (.inr (8, some n)), .inl x0, .inr (.inl x1)]).length ≤ (mt 121).2.2.2.1 from Nat.le_of_ble_eq_true rfl) (cats_le (Nat.le_of_ble_eq_true rfl)) (by decide +kernel)
theorem d165_101 : decode (mt 165).2.1 101 = .ok (.istore 6, 2) := by decide +kernel
theorem s165_101i {a0 a1 a2 a3 a4 a6 : Option AV} {z : Int32} {st : List AV} {m : MM} {x : Int32} : go 165 101 [a0, a1, a2, a3, a4, some (.inl z), a6] (.inl x :: st) m = go 165 103 [a0, a1, a2, a3, a4, some (.inl z), some (.inl x)] st m := e_1 d165_101 (Or.inl rfl) rfl
theorem s165_101r {a0 a1 a2 a3 a4 a6 : Option AV} {z : Nat × Option Nat} {st : List AV} {m : MM} {x : Int32} : go 165 101 [a0, a1, a2, a3, a4, some (.inr (.inr z)), a6] (.inl x :: st) m = go 165 103 [a0, a1, a2, a3, a4, some (.inr (.inr z)), some (.inl x)] st m := e_1 d165_101 (Or.inl rfl) rfl
theorem s165_101n {a0 a1 a2 a3 a4 a6 : Option AV} {st : List AV} {m : MM} {x : Int32} : go 165 101 [a0, a1, a2, a3, a4, none, a6] (.inl x :: st) m = go 165 103 [a0, a1, a2, a3, a4, none, some (.inl x)] st m := e_1 d165_101 (Or.inl rfl) rfl
theorem d165_103 : decode (mt 165).2.1 103 = .ok (.goto (-29), 3) := by decide +kernel
theorem s165_103 {ls : LV} {st : List AV} {m : MM} : go 165 103 ls st m = go 165 74 ls st m := e_1 d165_103 (Or.inl rfl) (by rw [xi, jm_some (t := 74) (by decide)]; rfl)
theorem d165_106 : decode (mt 165).2.1 106 = .ok (.iload 4, 2) := by decide +kernel
theorem s165_106 {a0 a1 a2 a3 a5 a6 : Option AV} {st : List AV} {m : MM} {x : Int32} : go 165 106 [a0, a1, a2, a3, some (.inl x), a5, a6] st m = go 165 108 [a0, a1, a2, a3, some (.inl x), a5, a6] (.inl x :: st) m := e_1 d165_106 (Or.inl rfl) rfl
theorem d165_108 : decode (mt 165).2.1 108 = .ok (.iload_n 1, 1) := by decide +kernel
theorem s165_108 {a0 a2 a3 a4 a5 a6 : Option AV} {st : List AV} {m : MM} {x : Int32} : go 165 108 [a0, some (.inl x), a2, a3, a4, a5, a6] st m = go 165 109 [a0, some (.inl x), a2, a3, a4, a5, a6] (.inl x :: st) m := e_1 d165_108 (Or.inl rfl) rfl
theorem d165_109 : decode (mt 165).2.1 109 = .ok (.if_icmp .le 8, 3) := by decide +kernel
theorem s165_109 {ls : LV} {st : List AV} {m : MM} {a b : Int32} : go 165 109 ls (.inl b :: .inl a :: st) m = if a ≤ b then go 165 117 ls st m else go 165 112 ls st m := e_if (t := 117) (b := hc .le a b) d165_109 (Or.inl rfl) (by simp only [xi, pI, jm_some (t := 117) (show ((109 : Nat) : Int) + 8 = ((117 : Nat) : Int) by decide), Option.bind_some]) (by simp [hc])
theorem d165_112 : decode (mt 165).2.1 112 = .ok (.iload 4, 2) := by decide +kernel
theorem s165_112 {a0 a1 a2 a3 a5 a6 : Option AV} {st : List AV} {m : MM} {x : Int32} : go 165 112 [a0, a1, a2, a3, some (.inl x), a5, a6] st m = go 165 114 [a0, a1, a2, a3, some (.inl x), a5, a6] (.inl x :: st) m := e_1 d165_112 (Or.inl rfl) rfl
theorem d165_114 : decode (mt 165).2.1 114 = .ok (.goto 4, 3) := by decide +kernel
theorem s165_114 {ls : LV} {st : List AV} {m : MM} : go 165 114 ls st m = go 165 118 ls st m := e_1 d165_114 (Or.inl rfl) (by rw [xi, jm_some (t := 118) (by decide)]; rfl)
theorem d165_117 : decode (mt 165).2.1 117 = .ok (.iload_n 1, 1) := by decide +kernel
theorem s165_117 {a0 a2 a3 a4 a5 a6 : Option AV} {st : List AV} {m : MM} {x : Int32} : go 165 117 [a0, some (.inl x), a2, a3, a4, a5, a6] st m = go 165 118 [a0, some (.inl x), a2, a3, a4, a5, a6] (.inl x :: st) m := e_1 d165_117 (Or.inl rfl) rfl
theorem d165_118 : decode (mt 165).2.1 118 = .ok (.istore_n 1, 1) := by decide +kernel
theorem s165_118i {a1 a2 a3 a4 a5 a6 : Option AV} {z : Int32} {st : List AV} {m : MM} {x : Int32} : go 165 118 [some (.inl z), a1, a2, a3, a4, a5, a6] (.inl x :: st) m = go 165 119 [some (.inl z), some (.inl x), a2, a3, a4, a5, a6] st m := e_1 d165_118 (Or.inl rfl) rfl
theorem s165_118r {a1 a2 a3 a4 a5 a6 : Option AV} {z : Nat × Option Nat} {st : List AV} {m : MM} {x : Int32} : go 165 118 [some (.inr (.inr z)), a1, a2, a3, a4, a5, a6] (.inl x :: st) m = go 165 119 [some (.inr (.inr z)), some (.inl x), a2, a3, a4, a5, a6] st m := e_1 d165_118 (Or.inl rfl) rfl
theorem s165_118n {a1 a2 a3 a4 a5 a6 : Option AV} {st : List AV} {m : MM} {x : Int32} : go 165 118 [none, a1, a2, a3, a4, a5, a6] (.inl x :: st) m = go 165 119 [none, some (.inl x), a2, a3, a4, a5, a6] st m := e_1 d165_118 (Or.inl rfl) rfl
theorem d165_119 : decode (mt 165).2.1 119 = .ok (.iinc 3 1, 3) := by decide +kernel
theorem s165_119i {a0 a1 a4 a5 a6 : Option AV} {z : Int32} {st : List AV} {m : MM} {x : Int32} : go 165 119 [a0, a1, some (.inl z), some (.inl x), a4, a5, a6] st m = go 165 122 [a0, a1, some (.inl z), some (.inl (x + 1)), a4, a5, a6] st m := e_1 d165_119 (Or.inl rfl) rfl
theorem s165_119r {a0 a1 a4 a5 a6 : Option AV} {z : Nat × Option Nat} {st : List AV} {m : MM} {x : Int32} : go 165 119 [a0, a1, some (.inr (.inr z)), some (.inl x), a4, a5, a6] st m = go 165 122 [a0, a1, some (.inr (.inr z)), some (.inl (x + 1)), a4, a5, a6] st m := e_1 d165_119 (Or.inl rfl) rfl
theorem s165_119n {a0 a1 a4 a5 a6 : Option AV} {st : List AV} {m : MM} {x : Int32} : go 165 119 [a0, a1, none, some (.inl x), a4, a5, a6] st m = go 165 122 [a0, a1, none, some (.inl (x + 1)), a4, a5, a6] st m := e_1 d165_119 (Or.inl rfl) rfl
theorem d165_122 : decode (mt 165).2.1 122 = .ok (.goto (-97), 3) := by decide +kernel
theorem s165_122 {ls : LV} {st : List AV} {m : MM} : go 165 122 ls st m = go 165 25 ls st m := e_1 d165_122 (Or.inl rfl) (by rw [xi, jm_some (t := 25) (by decide)]; rfl)
theorem d165_125 : decode (mt 165).2.1 125 = .ok (.iinc 2 1, 3) := by decide +kernel
theorem s165_125i {a0 a3 a4 a5 a6 : Option AV} {z : Int32} {st : List AV} {m : MM} {x : Int32} : go 165 125 [a0, some (.inl z), some (.inl x), a3, a4, a5, a6] st m = go 165 128 [a0, some (.inl z), some (.inl (x + 1)), a3, a4, a5, a6] st m := e_1 d165_125 (Or.inl rfl) rfl
theorem s165_125r {a0 a3 a4 a5 a6 : Option AV} {z : Nat × Option Nat} {st : List AV} {m : MM} {x : Int32} : go 165 125 [a0, some (.inr (.inr z)), some (.inl x), a3, a4, a5, a6] st m = go 165 128 [a0, some (.inr (.inr z)), some (.inl (x + 1)), a3, a4, a5, a6] st m := e_1 d165_125 (Or.inl rfl) rfl
theorem s165_125n {a0 a3 a4 a5 a6 : Option AV} {st : List AV} {m : MM} {x : Int32} : go 165 125 [a0, none, some (.inl x), a3, a4, a5, a6] st m = go 165 128 [a0, none, some (.inl (x + 1)), a3, a4, a5, a6] st m := e_1 d165_125 (Or.inl rfl) rfl
theorem d165_128 : decode (mt 165).2.1 128 = .ok (.goto (-113), 3) := by decide +kernel
theorem s165_128 {ls : LV} {st : List AV} {m : MM} : go 165 128 ls st m = go 165 15 ls st m := e_1 d165_128 (Or.inl rfl) (by rw [xi, jm_some (t := 15) (by decide)]; rfl)
theorem d165_131 : decode (mt 165).2.1 131 = .ok (.iload_n 1, 1) := by decide +kernel
theorem s165_131 {a0 a2 a3 a4 a5 a6 : Option AV} {st : List AV} {m : MM} {x : Int32} : go 165 131 [a0, some (.inl x), a2, a3, a4, a5, a6] st m = go 165 132 [a0, some (.inl x), a2, a3, a4, a5, a6] (.inl x :: st) m := e_1 d165_131 (Or.inl rfl) rfl
theorem d165_132 : decode (mt 165).2.1 132 = .ok (.ireturn, 1) := by decide +kernel
theorem s165_132 {ls : LV} {m : MM} {x : Int32} : go 165 132 ls [.inl x] m = some (some (.inl x), m) := e_int d165_132 (by decide +kernel)
/-! X7_count: 166 -/
theorem d166_0 : decode (mt 166).2.1 0 = .ok (.iload_n 1, 1) := by decide +kernel
theorem s166_0 {a0 : Option AV} {st : List AV} {m : MM} {x : Int32} : go 166 0 [a0, some (.inl x)] st m = go 166 1 [a0, some (.inl x)] (.inl x :: st) m := e_1 d166_0 (Or.inl rfl) rfl
theorem d166_1 : decode (mt 166).2.1 1 = .ok (.tableswitch 96 0 8 #[51, 56, 61, 66, 71, 76, 81, 86, 91], 51) := by decide +kernel
theorem s166_1_0 {ls : LV} {st : List AV} {m : MM} : go 166 1 ls (.inl 0 :: st) m = go 166 52 ls st m := e_1 d166_1 (Or.inr rfl) (by rw [xi]; rfl)
theorem s166_1_1 {ls : LV} {st : List AV} {m : MM} : go 166 1 ls (.inl 1 :: st) m = go 166 57 ls st m := e_1 d166_1 (Or.inr rfl) (by rw [xi]; rfl)
theorem s166_1_2 {ls : LV} {st : List AV} {m : MM} : go 166 1 ls (.inl 2 :: st) m = go 166 62 ls st m := e_1 d166_1 (Or.inr rfl) (by rw [xi]; rfl)
theorem s166_1_3 {ls : LV} {st : List AV} {m : MM} : go 166 1 ls (.inl 3 :: st) m = go 166 67 ls st m := e_1 d166_1 (Or.inr rfl) (by rw [xi]; rfl)
theorem s166_1_4 {ls : LV} {st : List AV} {m : MM} : go 166 1 ls (.inl 4 :: st) m = go 166 72 ls st m := e_1 d166_1 (Or.inr rfl) (by rw [xi]; rfl)
theorem s166_1_5 {ls : LV} {st : List AV} {m : MM} : go 166 1 ls (.inl 5 :: st) m = go 166 77 ls st m := e_1 d166_1 (Or.inr rfl) (by rw [xi]; rfl)
theorem s166_1_6 {ls : LV} {st : List AV} {m : MM} : go 166 1 ls (.inl 6 :: st) m = go 166 82 ls st m := e_1 d166_1 (Or.inr rfl) (by rw [xi]; rfl)
theorem s166_1_7 {ls : LV} {st : List AV} {m : MM} : go 166 1 ls (.inl 7 :: st) m = go 166 87 ls st m := e_1 d166_1 (Or.inr rfl) (by rw [xi]; rfl)
theorem s166_1_8 {ls : LV} {st : List AV} {m : MM} : go 166 1 ls (.inl 8 :: st) m = go 166 92 ls st m := e_1 d166_1 (Or.inr rfl) (by rw [xi]; rfl)
theorem s166_1_d {ls : LV} {st : List AV} {m : MM} {a : Int32} (h : a.toInt < 0 ∨ 8 < a.toInt) : go 166 1 ls (.inl a :: st) m = go 166 97 ls st m := e_1 d166_1 (Or.inr rfl) (by simp only [xi, pI, if_pos h, jm_some (t := 97) (show ((1 : Nat) : Int) + 96 = ((97 : Nat) : Int) by decide), Option.bind_some]; rw [if_pos (by omega)])
theorem d166_52 : decode (mt 166).2.1 52 = .ok (.aload_n 0, 1) := by decide +kernel
theorem s166_52 {a1 : Option AV} {st : List AV} {m : MM} {x : Nat × Option Nat} : go 166 52 [some (.inr (.inr x)), a1] st m = go 166 53 [some (.inr (.inr x)), a1] (.inr (.inr x) :: st) m := e_1 d166_52 (Or.inl rfl) rfl
theorem d166_53 : decode (mt 166).2.1 53 = .ok (.getfield 115, 3) := by decide +kernel
theorem s166_53 {ls : LV} {st : List AV} {m : MM} {n : Nat} : go 166 53 ls (.inr (.inr (8, some n)) :: st) m = go 166 56 ls (.inl (mI m 8 n 0) :: st) m := e_1 d166_53 (Or.inl rfl) (by rw [xi, pA, show lk fdL (mt 166).2.2.1 115 = some (8, 0) by decide +kernel]; rfl)
theorem d166_56 : decode (mt 166).2.1 56 = .ok (.ireturn, 1) := by decide +kernel
theorem s166_56 {ls : LV} {m : MM} {x : Int32} : go 166 56 ls [.inl x] m = some (some (.inl x), m) := e_int d166_56 (by decide +kernel)
theorem d166_57 : decode (mt 166).2.1 57 = .ok (.aload_n 0, 1) := by decide +kernel
theorem s166_57 {a1 : Option AV} {st : List AV} {m : MM} {x : Nat × Option Nat} : go 166 57 [some (.inr (.inr x)), a1] st m = go 166 58 [some (.inr (.inr x)), a1] (.inr (.inr x) :: st) m := e_1 d166_57 (Or.inl rfl) rfl
theorem d166_58 : decode (mt 166).2.1 58 = .ok (.invokevirtual 206, 3) := by decide +kernel
theorem s166_58 {ls : LV} {m : MM} {n : Nat} : go 166 58 ls [.inr (.inr (8, some n))] m = bd (go 133 0 [some (.inr (.inr (8, some n))), none, none] [] m) (fun v m2 => go 166 61 ls (v.toList ++ []) m2) := e_virt (y1 := 133) (na := 0) (as := []) (rest := []) d166_58 (by decide +kernel) rfl (by decide +kernel) (show (ent [.inr (.inr (8, some n))]).length ≤ (mt 133).2.2.2.1 from Nat.le_of_ble_eq_true rfl) (cats_le (Nat.le_of_ble_eq_true rfl)) (by decide +kernel)
theorem d166_61 : decode (mt 166).2.1 61 = .ok (.ireturn, 1) := by decide +kernel
theorem s166_61 {ls : LV} {m : MM} {x : Int32} : go 166 61 ls [.inl x] m = some (some (.inl x), m) := e_int d166_61 (by decide +kernel)
theorem d166_62 : decode (mt 166).2.1 62 = .ok (.aload_n 0, 1) := by decide +kernel
theorem s166_62 {a1 : Option AV} {st : List AV} {m : MM} {x : Nat × Option Nat} : go 166 62 [some (.inr (.inr x)), a1] st m = go 166 63 [some (.inr (.inr x)), a1] (.inr (.inr x) :: st) m := e_1 d166_62 (Or.inl rfl) rfl
theorem d166_63 : decode (mt 166).2.1 63 = .ok (.getfield 140, 3) := by decide +kernel
theorem s166_63 {ls : LV} {st : List AV} {m : MM} {n : Nat} : go 166 63 ls (.inr (.inr (8, some n)) :: st) m = go 166 66 ls (.inl (mI m 8 n 30) :: st) m := e_1 d166_63 (Or.inl rfl) (by rw [xi, pA, show lk fdL (mt 166).2.2.1 140 = some (8, 30) by decide +kernel]; rfl)
theorem d166_66 : decode (mt 166).2.1 66 = .ok (.ireturn, 1) := by decide +kernel
theorem s166_66 {ls : LV} {m : MM} {x : Int32} : go 166 66 ls [.inl x] m = some (some (.inl x), m) := e_int d166_66 (by decide +kernel)
theorem d166_67 : decode (mt 166).2.1 67 = .ok (.aload_n 0, 1) := by decide +kernel
theorem s166_67 {a1 : Option AV} {st : List AV} {m : MM} {x : Nat × Option Nat} : go 166 67 [some (.inr (.inr x)), a1] st m = go 166 68 [some (.inr (.inr x)), a1] (.inr (.inr x) :: st) m := e_1 d166_67 (Or.inl rfl) rfl
theorem d166_68 : decode (mt 166).2.1 68 = .ok (.getfield 222, 3) := by decide +kernel
theorem s166_68 {ls : LV} {st : List AV} {m : MM} {n : Nat} : go 166 68 ls (.inr (.inr (8, some n)) :: st) m = go 166 71 ls (.inl (mI m 8 n 16) :: st) m := e_1 d166_68 (Or.inl rfl) (by rw [xi, pA, show lk fdL (mt 166).2.2.1 222 = some (8, 16) by decide +kernel]; rfl)
theorem d166_71 : decode (mt 166).2.1 71 = .ok (.ireturn, 1) := by decide +kernel
theorem s166_71 {ls : LV} {m : MM} {x : Int32} : go 166 71 ls [.inl x] m = some (some (.inl x), m) := e_int d166_71 (by decide +kernel)
theorem d166_72 : decode (mt 166).2.1 72 = .ok (.aload_n 0, 1) := by decide +kernel
theorem s166_72 {a1 : Option AV} {st : List AV} {m : MM} {x : Nat × Option Nat} : go 166 72 [some (.inr (.inr x)), a1] st m = go 166 73 [some (.inr (.inr x)), a1] (.inr (.inr x) :: st) m := e_1 d166_72 (Or.inl rfl) rfl
theorem d166_73 : decode (mt 166).2.1 73 = .ok (.getfield 137, 3) := by decide +kernel
theorem s166_73 {ls : LV} {st : List AV} {m : MM} {n : Nat} : go 166 73 ls (.inr (.inr (8, some n)) :: st) m = go 166 76 ls (.inl (mI m 8 n 17) :: st) m := e_1 d166_73 (Or.inl rfl) (by rw [xi, pA, show lk fdL (mt 166).2.2.1 137 = some (8, 17) by decide +kernel]; rfl)
theorem d166_76 : decode (mt 166).2.1 76 = .ok (.ireturn, 1) := by decide +kernel
theorem s166_76 {ls : LV} {m : MM} {x : Int32} : go 166 76 ls [.inl x] m = some (some (.inl x), m) := e_int d166_76 (by decide +kernel)
theorem d166_77 : decode (mt 166).2.1 77 = .ok (.aload_n 0, 1) := by decide +kernel
theorem s166_77 {a1 : Option AV} {st : List AV} {m : MM} {x : Nat × Option Nat} : go 166 77 [some (.inr (.inr x)), a1] st m = go 166 78 [some (.inr (.inr x)), a1] (.inr (.inr x) :: st) m := e_1 d166_77 (Or.inl rfl) rfl
theorem d166_78 : decode (mt 166).2.1 78 = .ok (.getfield 186, 3) := by decide +kernel
theorem s166_78 {ls : LV} {st : List AV} {m : MM} {n : Nat} : go 166 78 ls (.inr (.inr (8, some n)) :: st) m = go 166 81 ls (.inl (mI m 8 n 41) :: st) m := e_1 d166_78 (Or.inl rfl) (by rw [xi, pA, show lk fdL (mt 166).2.2.1 186 = some (8, 41) by decide +kernel]; rfl)
theorem d166_81 : decode (mt 166).2.1 81 = .ok (.ireturn, 1) := by decide +kernel
theorem s166_81 {ls : LV} {m : MM} {x : Int32} : go 166 81 ls [.inl x] m = some (some (.inl x), m) := e_int d166_81 (by decide +kernel)
theorem d166_82 : decode (mt 166).2.1 82 = .ok (.aload_n 0, 1) := by decide +kernel
theorem s166_82 {a1 : Option AV} {st : List AV} {m : MM} {x : Nat × Option Nat} : go 166 82 [some (.inr (.inr x)), a1] st m = go 166 83 [some (.inr (.inr x)), a1] (.inr (.inr x) :: st) m := e_1 d166_82 (Or.inl rfl) rfl
theorem d166_83 : decode (mt 166).2.1 83 = .ok (.invokevirtual 193, 3) := by decide +kernel
theorem s166_83 {ls : LV} {m : MM} {n : Nat} : go 166 83 ls [.inr (.inr (8, some n))] m = bd (go 124 0 [some (.inr (.inr (8, some n))), none, none] [] m) (fun v m2 => go 166 86 ls (v.toList ++ []) m2) := e_virt (y1 := 124) (na := 0) (as := []) (rest := []) d166_83 (by decide +kernel) rfl (by decide +kernel) (show (ent [.inr (.inr (8, some n))]).length ≤ (mt 124).2.2.2.1 from Nat.le_of_ble_eq_true rfl) (cats_le (Nat.le_of_ble_eq_true rfl)) (by decide +kernel)
theorem d166_86 : decode (mt 166).2.1 86 = .ok (.ireturn, 1) := by decide +kernel
theorem s166_86 {ls : LV} {m : MM} {x : Int32} : go 166 86 ls [.inl x] m = some (some (.inl x), m) := e_int d166_86 (by decide +kernel)
theorem d166_87 : decode (mt 166).2.1 87 = .ok (.aload_n 0, 1) := by decide +kernel
theorem s166_87 {a1 : Option AV} {st : List AV} {m : MM} {x : Nat × Option Nat} : go 166 87 [some (.inr (.inr x)), a1] st m = go 166 88 [some (.inr (.inr x)), a1] (.inr (.inr x) :: st) m := e_1 d166_87 (Or.inl rfl) rfl
theorem d166_88 : decode (mt 166).2.1 88 = .ok (.getfield 219, 3) := by decide +kernel
theorem s166_88 {ls : LV} {st : List AV} {m : MM} {n : Nat} : go 166 88 ls (.inr (.inr (8, some n)) :: st) m = go 166 91 ls (.inl (mI m 8 n 14) :: st) m := e_1 d166_88 (Or.inl rfl) (by rw [xi, pA, show lk fdL (mt 166).2.2.1 219 = some (8, 14) by decide +kernel]; rfl)
theorem d166_91 : decode (mt 166).2.1 91 = .ok (.ireturn, 1) := by decide +kernel
theorem s166_91 {ls : LV} {m : MM} {x : Int32} : go 166 91 ls [.inl x] m = some (some (.inl x), m) := e_int d166_91 (by decide +kernel)
theorem d166_92 : decode (mt 166).2.1 92 = .ok (.aload_n 0, 1) := by decide +kernel
theorem s166_92 {a1 : Option AV} {st : List AV} {m : MM} {x : Nat × Option Nat} : go 166 92 [some (.inr (.inr x)), a1] st m = go 166 93 [some (.inr (.inr x)), a1] (.inr (.inr x) :: st) m := e_1 d166_92 (Or.inl rfl) rfl
theorem d166_93 : decode (mt 166).2.1 93 = .ok (.getfield 153, 3) := by decide +kernel
theorem s166_93 {ls : LV} {st : List AV} {m : MM} {n : Nat} : go 166 93 ls (.inr (.inr (8, some n)) :: st) m = go 166 96 ls (.inl (mI m 8 n 18) :: st) m := e_1 d166_93 (Or.inl rfl) (by rw [xi, pA, show lk fdL (mt 166).2.2.1 153 = some (8, 18) by decide +kernel]; rfl)
theorem d166_96 : decode (mt 166).2.1 96 = .ok (.ireturn, 1) := by decide +kernel
theorem s166_96 {ls : LV} {m : MM} {x : Int32} : go 166 96 ls [.inl x] m = some (some (.inl x), m) := e_int d166_96 (by decide +kernel)
theorem d166_97 : decode (mt 166).2.1 97 = .ok (.iconst (-1), 1) := by decide +kernel
theorem s166_97 {ls : LV} {st : List AV} {m : MM} : go 166 97 ls st m = go 166 98 ls (.inl (-1) :: st) m := e_1 d166_97 (Or.inl rfl) rfl
theorem d166_98 : decode (mt 166).2.1 98 = .ok (.ireturn, 1) := by decide +kernel
theorem s166_98 {ls : LV} {m : MM} {x : Int32} : go 166 98 ls [.inl x] m = some (some (.inl x), m) := e_int d166_98 (by decide +kernel)
