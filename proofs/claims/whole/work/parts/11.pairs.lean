/-! printed by wip/gen/eqs.py: the instructions of these methods, an equation each -/
/-! X4_init: 15 -/
theorem d15_0 : decode (mt 15).2.1 0 = .ok (.aload_n 0, 1) := by decide +kernel
theorem s15_0 {st : List AV} {m : MM} {x : Nat × Option Nat} : go 15 0 [some (.inr (.inr x))] st m = go 15 1 [some (.inr (.inr x))] (.inr (.inr x) :: st) m := e_1 d15_0 (Or.inl rfl) rfl
theorem d15_1 : decode (mt 15).2.1 1 = .ok (.invokespecial 3, 3) := by decide +kernel
theorem s15_1 {ls : LV} {m : MM} {u n : Nat} : go 15 1 ls (.inr (.inr (u, some n)) :: []) m = go 15 4 ls [] m := e_obj d15_1 (by decide +kernel) (cats_le (Nat.le_of_ble_eq_true rfl)) (by decide +kernel)
theorem d15_4 : decode (mt 15).2.1 4 = .ok (.aload_n 0, 1) := by decide +kernel
theorem s15_4 {st : List AV} {m : MM} {x : Nat × Option Nat} : go 15 4 [some (.inr (.inr x))] st m = go 15 5 [some (.inr (.inr x))] (.inr (.inr x) :: st) m := e_1 d15_4 (Or.inl rfl) rfl
theorem d15_5 : decode (mt 15).2.1 5 = .ok (.bipush 16, 2) := by decide +kernel
theorem s15_5 {ls : LV} {st : List AV} {m : MM} : go 15 5 ls st m = go 15 7 ls (.inl 16 :: st) m := e_1 d15_5 (Or.inl rfl) rfl
theorem d15_7 : decode (mt 15).2.1 7 = .ok (.newarray .int, 2) := by decide +kernel
theorem s15_7k16 {ls : LV} {st : List AV} {m : MM} : go 15 7 ls (.inl 16 :: st) m = go 15 9 ls (.inr (.inr (12, some (mC m 12))) :: st) (al m 12 16 16) := e_1 d15_7 (Or.inl rfl) (by rw [xi, pI, show lk naL 15 7 = some 12 by decide +kernel, Option.bind_some, if_pos ⟨by decide, by decide, by decide, by decide⟩]; rfl)
theorem d15_9 : decode (mt 15).2.1 9 = .ok (.putfield 9, 3) := by decide +kernel
theorem s15_9r {ls : LV} {st : List AV} {m : MM} {n : Nat} {p : Option Nat} : go 15 9 ls (.inr (.inr (12, p)) :: .inr (.inr (5, some n)) :: st) m = go 15 12 ls st (sR m 5 n 0 p) := e_put (r := 5) (f := 0) d15_9 (by decide +kernel) (by simp [fc, tk, ek, ekL, fk, fkL]) (by decide +kernel)
theorem s15_9n {ls : LV} {st : List AV} {m : MM} {n w : Nat} : go 15 9 ls (.inr (.inr (w, none)) :: .inr (.inr (5, some n)) :: st) m = go 15 12 ls st (sR m 5 n 0 none) := e_put (r := 5) (f := 0) d15_9 (by decide +kernel) (by simp [fc, tk, ek, ekL, fk, fkL]) (by decide +kernel)
theorem d15_12 : decode (mt 15).2.1 12 = .ok (.aload_n 0, 1) := by decide +kernel
theorem s15_12 {st : List AV} {m : MM} {x : Nat × Option Nat} : go 15 12 [some (.inr (.inr x))] st m = go 15 13 [some (.inr (.inr x))] (.inr (.inr x) :: st) m := e_1 d15_12 (Or.inl rfl) rfl
theorem d15_13 : decode (mt 15).2.1 13 = .ok (.bipush 16, 2) := by decide +kernel
theorem s15_13 {ls : LV} {st : List AV} {m : MM} : go 15 13 ls st m = go 15 15 ls (.inl 16 :: st) m := e_1 d15_13 (Or.inl rfl) rfl
theorem d15_15 : decode (mt 15).2.1 15 = .ok (.newarray .long, 2) := by decide +kernel
theorem s15_15k16 {ls : LV} {st : List AV} {m : MM} : go 15 15 ls (.inl 16 :: st) m = go 15 17 ls (.inr (.inr (13, some (mC m 13))) :: st) (al m 13 16 16) := e_1 d15_15 (Or.inl rfl) (by rw [xi, pI, show lk naL 15 15 = some 13 by decide +kernel, Option.bind_some, if_pos ⟨by decide, by decide, by decide, by decide⟩]; rfl)
theorem d15_17 : decode (mt 15).2.1 17 = .ok (.putfield 15, 3) := by decide +kernel
theorem s15_17r {ls : LV} {st : List AV} {m : MM} {n : Nat} {p : Option Nat} : go 15 17 ls (.inr (.inr (13, p)) :: .inr (.inr (5, some n)) :: st) m = go 15 20 ls st (sR m 5 n 1 p) := e_put (r := 5) (f := 1) d15_17 (by decide +kernel) (by simp [fc, tk, ek, ekL, fk, fkL]) (by decide +kernel)
theorem s15_17n {ls : LV} {st : List AV} {m : MM} {n w : Nat} : go 15 17 ls (.inr (.inr (w, none)) :: .inr (.inr (5, some n)) :: st) m = go 15 20 ls st (sR m 5 n 1 none) := e_put (r := 5) (f := 1) d15_17 (by decide +kernel) (by simp [fc, tk, ek, ekL, fk, fkL]) (by decide +kernel)
theorem d15_20 : decode (mt 15).2.1 20 = .ok (.return_, 1) := by decide +kernel
theorem s15_20 {ls : LV} {m : MM} : go 15 20 ls [] m = some (none, m) := e_void d15_20 (by decide +kernel)
/-! X4_below: 16 -/
theorem d16_0 : decode (mt 16).2.1 0 = .ok (.iconst 0, 1) := by decide +kernel
theorem s16_0 {ls : LV} {st : List AV} {m : MM} : go 16 0 ls st m = go 16 1 ls (.inl 0 :: st) m := e_1 d16_0 (Or.inl rfl) rfl
theorem d16_1 : decode (mt 16).2.1 1 = .ok (.istore_n 2, 1) := by decide +kernel
theorem s16_1i {a0 a2 : Option AV} {z : Int32} {st : List AV} {m : MM} {x : Int32} : go 16 1 [a0, some (.inl z), a2] (.inl x :: st) m = go 16 2 [a0, some (.inl z), some (.inl x)] st m := e_1 d16_1 (Or.inl rfl) rfl
theorem s16_1r {a0 a2 : Option AV} {z : Nat × Option Nat} {st : List AV} {m : MM} {x : Int32} : go 16 1 [a0, some (.inr (.inr z)), a2] (.inl x :: st) m = go 16 2 [a0, some (.inr (.inr z)), some (.inl x)] st m := e_1 d16_1 (Or.inl rfl) rfl
theorem s16_1n {a0 a2 : Option AV} {st : List AV} {m : MM} {x : Int32} : go 16 1 [a0, none, a2] (.inl x :: st) m = go 16 2 [a0, none, some (.inl x)] st m := e_1 d16_1 (Or.inl rfl) rfl
theorem d16_2 : decode (mt 16).2.1 2 = .ok (.iload_n 2, 1) := by decide +kernel
theorem s16_2 {a0 a1 : Option AV} {st : List AV} {m : MM} {x : Int32} : go 16 2 [a0, a1, some (.inl x)] st m = go 16 3 [a0, a1, some (.inl x)] (.inl x :: st) m := e_1 d16_2 (Or.inl rfl) rfl
theorem d16_3 : decode (mt 16).2.1 3 = .ok (.aload_n 0, 1) := by decide +kernel
theorem s16_3 {a1 a2 : Option AV} {st : List AV} {m : MM} {x : Nat × Option Nat} : go 16 3 [some (.inr (.inr x)), a1, a2] st m = go 16 4 [some (.inr (.inr x)), a1, a2] (.inr (.inr x) :: st) m := e_1 d16_3 (Or.inl rfl) rfl
theorem d16_4 : decode (mt 16).2.1 4 = .ok (.getfield 19, 3) := by decide +kernel
theorem s16_4 {ls : LV} {st : List AV} {m : MM} {n : Nat} : go 16 4 ls (.inr (.inr (5, some n)) :: st) m = go 16 7 ls (.inl (mI m 5 n 2) :: st) m := e_1 d16_4 (Or.inl rfl) (by rw [xi, pA, show lk fdL (mt 16).2.2.1 19 = some (5, 2) by decide +kernel]; rfl)
theorem d16_7 : decode (mt 16).2.1 7 = .ok (.if_icmp .ge 19, 3) := by decide +kernel
theorem s16_7 {ls : LV} {st : List AV} {m : MM} {a b : Int32} : go 16 7 ls (.inl b :: .inl a :: st) m = if b ≤ a then go 16 26 ls st m else go 16 10 ls st m := e_if (t := 26) (b := hc .ge a b) d16_7 (Or.inl rfl) (by simp only [xi, pI, jm_some (t := 26) (show ((7 : Nat) : Int) + 19 = ((26 : Nat) : Int) by decide), Option.bind_some]) (by simp [hc])
theorem d16_10 : decode (mt 16).2.1 10 = .ok (.aload_n 0, 1) := by decide +kernel
theorem s16_10 {a1 a2 : Option AV} {st : List AV} {m : MM} {x : Nat × Option Nat} : go 16 10 [some (.inr (.inr x)), a1, a2] st m = go 16 11 [some (.inr (.inr x)), a1, a2] (.inr (.inr x) :: st) m := e_1 d16_10 (Or.inl rfl) rfl
theorem d16_11 : decode (mt 16).2.1 11 = .ok (.getfield 9, 3) := by decide +kernel
theorem s16_11 {ls : LV} {st : List AV} {m : MM} {n : Nat} : go 16 11 ls (.inr (.inr (5, some n)) :: st) m = go 16 14 ls (.inr (.inr (12, mR m 5 n 0)) :: st) m := e_1 d16_11 (Or.inl rfl) (by rw [xi, pA, show lk fdL (mt 16).2.2.1 9 = some (5, 0) by decide +kernel]; rfl)
theorem d16_14 : decode (mt 16).2.1 14 = .ok (.iload_n 2, 1) := by decide +kernel
theorem s16_14 {a0 a1 : Option AV} {st : List AV} {m : MM} {x : Int32} : go 16 14 [a0, a1, some (.inl x)] st m = go 16 15 [a0, a1, some (.inl x)] (.inl x :: st) m := e_1 d16_14 (Or.inl rfl) rfl
theorem d16_15 : decode (mt 16).2.1 15 = .ok (.iaload, 1) := by decide +kernel
theorem s16_15 {ls : LV} {st : List AV} {m : MM} {n : Nat} {i : Int32} : go 16 15 ls (.inl i :: .inr (.inr (12, some n)) :: st) m = ixk (ix i (mN m 12 n)) (fun j => go 16 16 ls (.inl (mI m 12 n j) :: st) m) := e_ald d16_15 (fun j hj => by simp only [xi, pI, pA, hj, Option.bind_some]; rfl) (fun hj => by simp only [xi, pI, pA, hj, Option.bind_none])
theorem d16_16 : decode (mt 16).2.1 16 = .ok (.iload_n 1, 1) := by decide +kernel
theorem s16_16 {a0 a2 : Option AV} {st : List AV} {m : MM} {x : Int32} : go 16 16 [a0, some (.inl x), a2] st m = go 16 17 [a0, some (.inl x), a2] (.inl x :: st) m := e_1 d16_16 (Or.inl rfl) rfl
theorem d16_17 : decode (mt 16).2.1 17 = .ok (.if_icmp .ge 9, 3) := by decide +kernel
theorem s16_17 {ls : LV} {st : List AV} {m : MM} {a b : Int32} : go 16 17 ls (.inl b :: .inl a :: st) m = if b ≤ a then go 16 26 ls st m else go 16 20 ls st m := e_if (t := 26) (b := hc .ge a b) d16_17 (Or.inl rfl) (by simp only [xi, pI, jm_some (t := 26) (show ((17 : Nat) : Int) + 9 = ((26 : Nat) : Int) by decide), Option.bind_some]) (by simp [hc])
theorem d16_20 : decode (mt 16).2.1 20 = .ok (.iinc 2 1, 3) := by decide +kernel
theorem s16_20i {a0 : Option AV} {z : Int32} {st : List AV} {m : MM} {x : Int32} : go 16 20 [a0, some (.inl z), some (.inl x)] st m = go 16 23 [a0, some (.inl z), some (.inl (x + 1))] st m := e_1 d16_20 (Or.inl rfl) rfl
theorem s16_20r {a0 : Option AV} {z : Nat × Option Nat} {st : List AV} {m : MM} {x : Int32} : go 16 20 [a0, some (.inr (.inr z)), some (.inl x)] st m = go 16 23 [a0, some (.inr (.inr z)), some (.inl (x + 1))] st m := e_1 d16_20 (Or.inl rfl) rfl
theorem s16_20n {a0 : Option AV} {st : List AV} {m : MM} {x : Int32} : go 16 20 [a0, none, some (.inl x)] st m = go 16 23 [a0, none, some (.inl (x + 1))] st m := e_1 d16_20 (Or.inl rfl) rfl
theorem d16_23 : decode (mt 16).2.1 23 = .ok (.goto (-21), 3) := by decide +kernel
theorem s16_23 {ls : LV} {st : List AV} {m : MM} : go 16 23 ls st m = go 16 2 ls st m := e_1 d16_23 (Or.inl rfl) (by rw [xi, jm_some (t := 2) (by decide)]; rfl)
theorem d16_26 : decode (mt 16).2.1 26 = .ok (.iload_n 2, 1) := by decide +kernel
theorem s16_26 {a0 a1 : Option AV} {st : List AV} {m : MM} {x : Int32} : go 16 26 [a0, a1, some (.inl x)] st m = go 16 27 [a0, a1, some (.inl x)] (.inl x :: st) m := e_1 d16_26 (Or.inl rfl) rfl
theorem d16_27 : decode (mt 16).2.1 27 = .ok (.ireturn, 1) := by decide +kernel
theorem s16_27 {ls : LV} {m : MM} {x : Int32} : go 16 27 ls [.inl x] m = some (some (.inl x), m) := e_int d16_27 (by decide +kernel)
/-! X4_holds: 17 -/
theorem d17_0 : decode (mt 17).2.1 0 = .ok (.aload_n 0, 1) := by decide +kernel
theorem s17_0 {a1 a2 : Option AV} {st : List AV} {m : MM} {x : Nat × Option Nat} : go 17 0 [some (.inr (.inr x)), a1, a2] st m = go 17 1 [some (.inr (.inr x)), a1, a2] (.inr (.inr x) :: st) m := e_1 d17_0 (Or.inl rfl) rfl
theorem d17_1 : decode (mt 17).2.1 1 = .ok (.iload_n 1, 1) := by decide +kernel
theorem s17_1 {a0 a2 : Option AV} {st : List AV} {m : MM} {x : Int32} : go 17 1 [a0, some (.inl x), a2] st m = go 17 2 [a0, some (.inl x), a2] (.inl x :: st) m := e_1 d17_1 (Or.inl rfl) rfl
theorem d17_2 : decode (mt 17).2.1 2 = .ok (.invokevirtual 23, 3) := by decide +kernel
theorem s17_2 {ls : LV} {m : MM} {x0 : Int32} {n : Nat} : go 17 2 ls [.inl x0, .inr (.inr (5, some n))] m = bd (go 16 0 [some (.inr (.inr (5, some n))), some (.inl x0), none] [] m) (fun v m2 => go 17 5 ls (v.toList ++ []) m2) := e_virt (y1 := 16) (na := 1) (as := [.inl x0]) (rest := []) d17_2 (by decide +kernel) rfl (by decide +kernel) (show (ent [.inr (.inr (5, some n)), .inl x0]).length ≤ (mt 16).2.2.2.1 from Nat.le_of_ble_eq_true rfl) (cats_le (Nat.le_of_ble_eq_true rfl)) (by decide +kernel)
theorem d17_5 : decode (mt 17).2.1 5 = .ok (.istore_n 2, 1) := by decide +kernel
theorem s17_5i {a0 a2 : Option AV} {z : Int32} {st : List AV} {m : MM} {x : Int32} : go 17 5 [a0, some (.inl z), a2] (.inl x :: st) m = go 17 6 [a0, some (.inl z), some (.inl x)] st m := e_1 d17_5 (Or.inl rfl) rfl
theorem s17_5r {a0 a2 : Option AV} {z : Nat × Option Nat} {st : List AV} {m : MM} {x : Int32} : go 17 5 [a0, some (.inr (.inr z)), a2] (.inl x :: st) m = go 17 6 [a0, some (.inr (.inr z)), some (.inl x)] st m := e_1 d17_5 (Or.inl rfl) rfl
theorem s17_5n {a0 a2 : Option AV} {st : List AV} {m : MM} {x : Int32} : go 17 5 [a0, none, a2] (.inl x :: st) m = go 17 6 [a0, none, some (.inl x)] st m := e_1 d17_5 (Or.inl rfl) rfl
theorem d17_6 : decode (mt 17).2.1 6 = .ok (.iload_n 2, 1) := by decide +kernel
theorem s17_6 {a0 a1 : Option AV} {st : List AV} {m : MM} {x : Int32} : go 17 6 [a0, a1, some (.inl x)] st m = go 17 7 [a0, a1, some (.inl x)] (.inl x :: st) m := e_1 d17_6 (Or.inl rfl) rfl
theorem d17_7 : decode (mt 17).2.1 7 = .ok (.aload_n 0, 1) := by decide +kernel
theorem s17_7 {a1 a2 : Option AV} {st : List AV} {m : MM} {x : Nat × Option Nat} : go 17 7 [some (.inr (.inr x)), a1, a2] st m = go 17 8 [some (.inr (.inr x)), a1, a2] (.inr (.inr x) :: st) m := e_1 d17_7 (Or.inl rfl) rfl
theorem d17_8 : decode (mt 17).2.1 8 = .ok (.getfield 19, 3) := by decide +kernel
theorem s17_8 {ls : LV} {st : List AV} {m : MM} {n : Nat} : go 17 8 ls (.inr (.inr (5, some n)) :: st) m = go 17 11 ls (.inl (mI m 5 n 2) :: st) m := e_1 d17_8 (Or.inl rfl) (by rw [xi, pA, show lk fdL (mt 17).2.2.1 19 = some (5, 2) by decide +kernel]; rfl)
theorem d17_11 : decode (mt 17).2.1 11 = .ok (.if_icmp .ge 17, 3) := by decide +kernel
theorem s17_11 {ls : LV} {st : List AV} {m : MM} {a b : Int32} : go 17 11 ls (.inl b :: .inl a :: st) m = if b ≤ a then go 17 28 ls st m else go 17 14 ls st m := e_if (t := 28) (b := hc .ge a b) d17_11 (Or.inl rfl) (by simp only [xi, pI, jm_some (t := 28) (show ((11 : Nat) : Int) + 17 = ((28 : Nat) : Int) by decide), Option.bind_some]) (by simp [hc])
theorem d17_14 : decode (mt 17).2.1 14 = .ok (.aload_n 0, 1) := by decide +kernel
theorem s17_14 {a1 a2 : Option AV} {st : List AV} {m : MM} {x : Nat × Option Nat} : go 17 14 [some (.inr (.inr x)), a1, a2] st m = go 17 15 [some (.inr (.inr x)), a1, a2] (.inr (.inr x) :: st) m := e_1 d17_14 (Or.inl rfl) rfl
theorem d17_15 : decode (mt 17).2.1 15 = .ok (.getfield 9, 3) := by decide +kernel
theorem s17_15 {ls : LV} {st : List AV} {m : MM} {n : Nat} : go 17 15 ls (.inr (.inr (5, some n)) :: st) m = go 17 18 ls (.inr (.inr (12, mR m 5 n 0)) :: st) m := e_1 d17_15 (Or.inl rfl) (by rw [xi, pA, show lk fdL (mt 17).2.2.1 9 = some (5, 0) by decide +kernel]; rfl)
theorem d17_18 : decode (mt 17).2.1 18 = .ok (.iload_n 2, 1) := by decide +kernel
theorem s17_18 {a0 a1 : Option AV} {st : List AV} {m : MM} {x : Int32} : go 17 18 [a0, a1, some (.inl x)] st m = go 17 19 [a0, a1, some (.inl x)] (.inl x :: st) m := e_1 d17_18 (Or.inl rfl) rfl
theorem d17_19 : decode (mt 17).2.1 19 = .ok (.iaload, 1) := by decide +kernel
theorem s17_19 {ls : LV} {st : List AV} {m : MM} {n : Nat} {i : Int32} : go 17 19 ls (.inl i :: .inr (.inr (12, some n)) :: st) m = ixk (ix i (mN m 12 n)) (fun j => go 17 20 ls (.inl (mI m 12 n j) :: st) m) := e_ald d17_19 (fun j hj => by simp only [xi, pI, pA, hj, Option.bind_some]; rfl) (fun hj => by simp only [xi, pI, pA, hj, Option.bind_none])
theorem d17_20 : decode (mt 17).2.1 20 = .ok (.iload_n 1, 1) := by decide +kernel
theorem s17_20 {a0 a2 : Option AV} {st : List AV} {m : MM} {x : Int32} : go 17 20 [a0, some (.inl x), a2] st m = go 17 21 [a0, some (.inl x), a2] (.inl x :: st) m := e_1 d17_20 (Or.inl rfl) rfl
theorem d17_21 : decode (mt 17).2.1 21 = .ok (.if_icmp .ne 7, 3) := by decide +kernel
theorem s17_21 {ls : LV} {st : List AV} {m : MM} {a b : Int32} : go 17 21 ls (.inl b :: .inl a :: st) m = if ¬ a = b then go 17 28 ls st m else go 17 24 ls st m := e_if (t := 28) (b := hc .ne a b) d17_21 (Or.inl rfl) (by simp only [xi, pI, jm_some (t := 28) (show ((21 : Nat) : Int) + 7 = ((28 : Nat) : Int) by decide), Option.bind_some]) (by simp [hc])
theorem d17_24 : decode (mt 17).2.1 24 = .ok (.iconst 1, 1) := by decide +kernel
theorem s17_24 {ls : LV} {st : List AV} {m : MM} : go 17 24 ls st m = go 17 25 ls (.inl 1 :: st) m := e_1 d17_24 (Or.inl rfl) rfl
theorem d17_25 : decode (mt 17).2.1 25 = .ok (.goto 4, 3) := by decide +kernel
theorem s17_25 {ls : LV} {st : List AV} {m : MM} : go 17 25 ls st m = go 17 29 ls st m := e_1 d17_25 (Or.inl rfl) (by rw [xi, jm_some (t := 29) (by decide)]; rfl)
theorem d17_28 : decode (mt 17).2.1 28 = .ok (.iconst 0, 1) := by decide +kernel
theorem s17_28 {ls : LV} {st : List AV} {m : MM} : go 17 28 ls st m = go 17 29 ls (.inl 0 :: st) m := e_1 d17_28 (Or.inl rfl) rfl
theorem d17_29 : decode (mt 17).2.1 29 = .ok (.ireturn, 1) := by decide +kernel
theorem s17_29b0 {ls : LV} {m : MM} : go 17 29 ls [.inl 0] m = some (some (.inl 0), m) := e_bool d17_29 (by decide +kernel) (by decide)
theorem s17_29b1 {ls : LV} {m : MM} : go 17 29 ls [.inl 1] m = some (some (.inl 1), m) := e_bool d17_29 (by decide +kernel) (by decide)
/-! X4_keyAt: 18 -/
theorem d18_0 : decode (mt 18).2.1 0 = .ok (.iload_n 1, 1) := by decide +kernel
theorem s18_0 {a0 : Option AV} {st : List AV} {m : MM} {x : Int32} : go 18 0 [a0, some (.inl x)] st m = go 18 1 [a0, some (.inl x)] (.inl x :: st) m := e_1 d18_0 (Or.inl rfl) rfl
theorem d18_1 : decode (mt 18).2.1 1 = .ok (.ifCond .lt 20, 3) := by decide +kernel
theorem s18_1 {ls : LV} {st : List AV} {m : MM} {a : Int32} : go 18 1 ls (.inl a :: st) m = if a < 0 then go 18 21 ls st m else go 18 4 ls st m := e_if (t := 21) (b := hc .lt a 0) d18_1 (Or.inl rfl) (by simp only [xi, pI, jm_some (t := 21) (show ((1 : Nat) : Int) + 20 = ((21 : Nat) : Int) by decide), Option.bind_some]) (by simp [hc])
theorem d18_4 : decode (mt 18).2.1 4 = .ok (.iload_n 1, 1) := by decide +kernel
theorem s18_4 {a0 : Option AV} {st : List AV} {m : MM} {x : Int32} : go 18 4 [a0, some (.inl x)] st m = go 18 5 [a0, some (.inl x)] (.inl x :: st) m := e_1 d18_4 (Or.inl rfl) rfl
theorem d18_5 : decode (mt 18).2.1 5 = .ok (.aload_n 0, 1) := by decide +kernel
theorem s18_5 {a1 : Option AV} {st : List AV} {m : MM} {x : Nat × Option Nat} : go 18 5 [some (.inr (.inr x)), a1] st m = go 18 6 [some (.inr (.inr x)), a1] (.inr (.inr x) :: st) m := e_1 d18_5 (Or.inl rfl) rfl
theorem d18_6 : decode (mt 18).2.1 6 = .ok (.getfield 19, 3) := by decide +kernel
theorem s18_6 {ls : LV} {st : List AV} {m : MM} {n : Nat} : go 18 6 ls (.inr (.inr (5, some n)) :: st) m = go 18 9 ls (.inl (mI m 5 n 2) :: st) m := e_1 d18_6 (Or.inl rfl) (by rw [xi, pA, show lk fdL (mt 18).2.2.1 19 = some (5, 2) by decide +kernel]; rfl)
theorem d18_9 : decode (mt 18).2.1 9 = .ok (.if_icmp .ge 12, 3) := by decide +kernel
theorem s18_9 {ls : LV} {st : List AV} {m : MM} {a b : Int32} : go 18 9 ls (.inl b :: .inl a :: st) m = if b ≤ a then go 18 21 ls st m else go 18 12 ls st m := e_if (t := 21) (b := hc .ge a b) d18_9 (Or.inl rfl) (by simp only [xi, pI, jm_some (t := 21) (show ((9 : Nat) : Int) + 12 = ((21 : Nat) : Int) by decide), Option.bind_some]) (by simp [hc])
theorem d18_12 : decode (mt 18).2.1 12 = .ok (.aload_n 0, 1) := by decide +kernel
theorem s18_12 {a1 : Option AV} {st : List AV} {m : MM} {x : Nat × Option Nat} : go 18 12 [some (.inr (.inr x)), a1] st m = go 18 13 [some (.inr (.inr x)), a1] (.inr (.inr x) :: st) m := e_1 d18_12 (Or.inl rfl) rfl
theorem d18_13 : decode (mt 18).2.1 13 = .ok (.getfield 9, 3) := by decide +kernel
theorem s18_13 {ls : LV} {st : List AV} {m : MM} {n : Nat} : go 18 13 ls (.inr (.inr (5, some n)) :: st) m = go 18 16 ls (.inr (.inr (12, mR m 5 n 0)) :: st) m := e_1 d18_13 (Or.inl rfl) (by rw [xi, pA, show lk fdL (mt 18).2.2.1 9 = some (5, 0) by decide +kernel]; rfl)
theorem d18_16 : decode (mt 18).2.1 16 = .ok (.iload_n 1, 1) := by decide +kernel
theorem s18_16 {a0 : Option AV} {st : List AV} {m : MM} {x : Int32} : go 18 16 [a0, some (.inl x)] st m = go 18 17 [a0, some (.inl x)] (.inl x :: st) m := e_1 d18_16 (Or.inl rfl) rfl
theorem d18_17 : decode (mt 18).2.1 17 = .ok (.iaload, 1) := by decide +kernel
theorem s18_17 {ls : LV} {st : List AV} {m : MM} {n : Nat} {i : Int32} : go 18 17 ls (.inl i :: .inr (.inr (12, some n)) :: st) m = ixk (ix i (mN m 12 n)) (fun j => go 18 18 ls (.inl (mI m 12 n j) :: st) m) := e_ald d18_17 (fun j hj => by simp only [xi, pI, pA, hj, Option.bind_some]; rfl) (fun hj => by simp only [xi, pI, pA, hj, Option.bind_none])
theorem d18_18 : decode (mt 18).2.1 18 = .ok (.goto 4, 3) := by decide +kernel
theorem s18_18 {ls : LV} {st : List AV} {m : MM} : go 18 18 ls st m = go 18 22 ls st m := e_1 d18_18 (Or.inl rfl) (by rw [xi, jm_some (t := 22) (by decide)]; rfl)
theorem d18_21 : decode (mt 18).2.1 21 = .ok (.iconst 0, 1) := by decide +kernel
theorem s18_21 {ls : LV} {st : List AV} {m : MM} : go 18 21 ls st m = go 18 22 ls (.inl 0 :: st) m := e_1 d18_21 (Or.inl rfl) rfl
theorem d18_22 : decode (mt 18).2.1 22 = .ok (.ireturn, 1) := by decide +kernel
theorem s18_22 {ls : LV} {m : MM} {x : Int32} : go 18 22 ls [.inl x] m = some (some (.inl x), m) := e_int d18_22 (by decide +kernel)
/-! X4_valueAt: 19 -/
theorem d19_0 : decode (mt 19).2.1 0 = .ok (.iload_n 1, 1) := by decide +kernel
theorem s19_0 {a0 : Option AV} {st : List AV} {m : MM} {x : Int32} : go 19 0 [a0, some (.inl x)] st m = go 19 1 [a0, some (.inl x)] (.inl x :: st) m := e_1 d19_0 (Or.inl rfl) rfl
theorem d19_1 : decode (mt 19).2.1 1 = .ok (.ifCond .lt 20, 3) := by decide +kernel
theorem s19_1 {ls : LV} {st : List AV} {m : MM} {a : Int32} : go 19 1 ls (.inl a :: st) m = if a < 0 then go 19 21 ls st m else go 19 4 ls st m := e_if (t := 21) (b := hc .lt a 0) d19_1 (Or.inl rfl) (by simp only [xi, pI, jm_some (t := 21) (show ((1 : Nat) : Int) + 20 = ((21 : Nat) : Int) by decide), Option.bind_some]) (by simp [hc])
theorem d19_4 : decode (mt 19).2.1 4 = .ok (.iload_n 1, 1) := by decide +kernel
theorem s19_4 {a0 : Option AV} {st : List AV} {m : MM} {x : Int32} : go 19 4 [a0, some (.inl x)] st m = go 19 5 [a0, some (.inl x)] (.inl x :: st) m := e_1 d19_4 (Or.inl rfl) rfl
theorem d19_5 : decode (mt 19).2.1 5 = .ok (.aload_n 0, 1) := by decide +kernel
theorem s19_5 {a1 : Option AV} {st : List AV} {m : MM} {x : Nat × Option Nat} : go 19 5 [some (.inr (.inr x)), a1] st m = go 19 6 [some (.inr (.inr x)), a1] (.inr (.inr x) :: st) m := e_1 d19_5 (Or.inl rfl) rfl
theorem d19_6 : decode (mt 19).2.1 6 = .ok (.getfield 19, 3) := by decide +kernel
theorem s19_6 {ls : LV} {st : List AV} {m : MM} {n : Nat} : go 19 6 ls (.inr (.inr (5, some n)) :: st) m = go 19 9 ls (.inl (mI m 5 n 2) :: st) m := e_1 d19_6 (Or.inl rfl) (by rw [xi, pA, show lk fdL (mt 19).2.2.1 19 = some (5, 2) by decide +kernel]; rfl)
theorem d19_9 : decode (mt 19).2.1 9 = .ok (.if_icmp .ge 12, 3) := by decide +kernel
theorem s19_9 {ls : LV} {st : List AV} {m : MM} {a b : Int32} : go 19 9 ls (.inl b :: .inl a :: st) m = if b ≤ a then go 19 21 ls st m else go 19 12 ls st m := e_if (t := 21) (b := hc .ge a b) d19_9 (Or.inl rfl) (by simp only [xi, pI, jm_some (t := 21) (show ((9 : Nat) : Int) + 12 = ((21 : Nat) : Int) by decide), Option.bind_some]) (by simp [hc])
theorem d19_12 : decode (mt 19).2.1 12 = .ok (.aload_n 0, 1) := by decide +kernel
theorem s19_12 {a1 : Option AV} {st : List AV} {m : MM} {x : Nat × Option Nat} : go 19 12 [some (.inr (.inr x)), a1] st m = go 19 13 [some (.inr (.inr x)), a1] (.inr (.inr x) :: st) m := e_1 d19_12 (Or.inl rfl) rfl
theorem d19_13 : decode (mt 19).2.1 13 = .ok (.getfield 15, 3) := by decide +kernel
theorem s19_13 {ls : LV} {st : List AV} {m : MM} {n : Nat} : go 19 13 ls (.inr (.inr (5, some n)) :: st) m = go 19 16 ls (.inr (.inr (13, mR m 5 n 1)) :: st) m := e_1 d19_13 (Or.inl rfl) (by rw [xi, pA, show lk fdL (mt 19).2.2.1 15 = some (5, 1) by decide +kernel]; rfl)
theorem d19_16 : decode (mt 19).2.1 16 = .ok (.iload_n 1, 1) := by decide +kernel
theorem s19_16 {a0 : Option AV} {st : List AV} {m : MM} {x : Int32} : go 19 16 [a0, some (.inl x)] st m = go 19 17 [a0, some (.inl x)] (.inl x :: st) m := e_1 d19_16 (Or.inl rfl) rfl
theorem d19_17 : decode (mt 19).2.1 17 = .ok (.laload, 1) := by decide +kernel
theorem s19_17 {ls : LV} {st : List AV} {m : MM} {n : Nat} {i : Int32} : go 19 17 ls (.inl i :: .inr (.inr (13, some n)) :: st) m = ixk (ix i (mN m 13 n)) (fun j => go 19 18 ls (.inr (.inl (mL m 13 n j)) :: st) m) := e_ald d19_17 (fun j hj => by simp only [xi, pI, pA, hj, Option.bind_some]; rfl) (fun hj => by simp only [xi, pI, pA, hj, Option.bind_none])
theorem d19_18 : decode (mt 19).2.1 18 = .ok (.goto 4, 3) := by decide +kernel
theorem s19_18 {ls : LV} {st : List AV} {m : MM} : go 19 18 ls st m = go 19 22 ls st m := e_1 d19_18 (Or.inl rfl) (by rw [xi, jm_some (t := 22) (by decide)]; rfl)
theorem d19_21 : decode (mt 19).2.1 21 = .ok (.lconst 0, 1) := by decide +kernel
theorem s19_21 {ls : LV} {st : List AV} {m : MM} : go 19 21 ls st m = go 19 22 ls (.inr (.inl 0) :: st) m := e_1 d19_21 (Or.inl rfl) rfl
theorem d19_22 : decode (mt 19).2.1 22 = .ok (.lreturn, 1) := by decide +kernel
theorem s19_22 {ls : LV} {m : MM} {x : Int64} : go 19 22 ls [.inr (.inl x)] m = some (some (.inr (.inl x)), m) := e_long d19_22 (by decide +kernel)
/-! X4_set: 20 -/
theorem d20_0 : decode (mt 20).2.1 0 = .ok (.aload_n 0, 1) := by decide +kernel
theorem s20_0 {a1 a2 a3 a4 a5 : Option AV} {st : List AV} {m : MM} {x : Nat × Option Nat} : go 20 0 [some (.inr (.inr x)), a1, a2, a3, a4, a5] st m = go 20 1 [some (.inr (.inr x)), a1, a2, a3, a4, a5] (.inr (.inr x) :: st) m := e_1 d20_0 (Or.inl rfl) rfl
theorem d20_1 : decode (mt 20).2.1 1 = .ok (.iload_n 1, 1) := by decide +kernel
theorem s20_1 {a0 a2 a3 a4 a5 : Option AV} {st : List AV} {m : MM} {x : Int32} : go 20 1 [a0, some (.inl x), a2, a3, a4, a5] st m = go 20 2 [a0, some (.inl x), a2, a3, a4, a5] (.inl x :: st) m := e_1 d20_1 (Or.inl rfl) rfl
theorem d20_2 : decode (mt 20).2.1 2 = .ok (.invokevirtual 23, 3) := by decide +kernel
theorem s20_2 {ls : LV} {m : MM} {x0 : Int32} {n : Nat} : go 20 2 ls [.inl x0, .inr (.inr (5, some n))] m = bd (go 16 0 [some (.inr (.inr (5, some n))), some (.inl x0), none] [] m) (fun v m2 => go 20 5 ls (v.toList ++ []) m2) := e_virt (y1 := 16) (na := 1) (as := [.inl x0]) (rest := []) d20_2 (by decide +kernel) rfl (by decide +kernel) (show (ent [.inr (.inr (5, some n)), .inl x0]).length ≤ (mt 16).2.2.2.1 from Nat.le_of_ble_eq_true rfl) (cats_le (Nat.le_of_ble_eq_true rfl)) (by decide +kernel)
theorem d20_5 : decode (mt 20).2.1 5 = .ok (.istore 4, 2) := by decide +kernel
theorem s20_5i {a0 a1 a2 a4 a5 : Option AV} {z : Int32} {st : List AV} {m : MM} {x : Int32} : go 20 5 [a0, a1, a2, some (.inl z), a4, a5] (.inl x :: st) m = go 20 7 [a0, a1, a2, some (.inl z), some (.inl x), a5] st m := e_1 d20_5 (Or.inl rfl) rfl
theorem s20_5r {a0 a1 a2 a4 a5 : Option AV} {z : Nat × Option Nat} {st : List AV} {m : MM} {x : Int32} : go 20 5 [a0, a1, a2, some (.inr (.inr z)), a4, a5] (.inl x :: st) m = go 20 7 [a0, a1, a2, some (.inr (.inr z)), some (.inl x), a5] st m := e_1 d20_5 (Or.inl rfl) rfl
theorem s20_5n {a0 a1 a2 a4 a5 : Option AV} {st : List AV} {m : MM} {x : Int32} : go 20 5 [a0, a1, a2, none, a4, a5] (.inl x :: st) m = go 20 7 [a0, a1, a2, none, some (.inl x), a5] st m := e_1 d20_5 (Or.inl rfl) rfl
theorem d20_7 : decode (mt 20).2.1 7 = .ok (.iload 4, 2) := by decide +kernel
theorem s20_7 {a0 a1 a2 a3 a5 : Option AV} {st : List AV} {m : MM} {x : Int32} : go 20 7 [a0, a1, a2, a3, some (.inl x), a5] st m = go 20 9 [a0, a1, a2, a3, some (.inl x), a5] (.inl x :: st) m := e_1 d20_7 (Or.inl rfl) rfl
theorem d20_9 : decode (mt 20).2.1 9 = .ok (.aload_n 0, 1) := by decide +kernel
theorem s20_9 {a1 a2 a3 a4 a5 : Option AV} {st : List AV} {m : MM} {x : Nat × Option Nat} : go 20 9 [some (.inr (.inr x)), a1, a2, a3, a4, a5] st m = go 20 10 [some (.inr (.inr x)), a1, a2, a3, a4, a5] (.inr (.inr x) :: st) m := e_1 d20_9 (Or.inl rfl) rfl
theorem d20_10 : decode (mt 20).2.1 10 = .ok (.getfield 19, 3) := by decide +kernel
theorem s20_10 {ls : LV} {st : List AV} {m : MM} {n : Nat} : go 20 10 ls (.inr (.inr (5, some n)) :: st) m = go 20 13 ls (.inl (mI m 5 n 2) :: st) m := e_1 d20_10 (Or.inl rfl) (by rw [xi, pA, show lk fdL (mt 20).2.2.1 19 = some (5, 2) by decide +kernel]; rfl)
theorem d20_13 : decode (mt 20).2.1 13 = .ok (.if_icmp .ge 23, 3) := by decide +kernel
theorem s20_13 {ls : LV} {st : List AV} {m : MM} {a b : Int32} : go 20 13 ls (.inl b :: .inl a :: st) m = if b ≤ a then go 20 36 ls st m else go 20 16 ls st m := e_if (t := 36) (b := hc .ge a b) d20_13 (Or.inl rfl) (by simp only [xi, pI, jm_some (t := 36) (show ((13 : Nat) : Int) + 23 = ((36 : Nat) : Int) by decide), Option.bind_some]) (by simp [hc])
theorem d20_16 : decode (mt 20).2.1 16 = .ok (.aload_n 0, 1) := by decide +kernel
theorem s20_16 {a1 a2 a3 a4 a5 : Option AV} {st : List AV} {m : MM} {x : Nat × Option Nat} : go 20 16 [some (.inr (.inr x)), a1, a2, a3, a4, a5] st m = go 20 17 [some (.inr (.inr x)), a1, a2, a3, a4, a5] (.inr (.inr x) :: st) m := e_1 d20_16 (Or.inl rfl) rfl
theorem d20_17 : decode (mt 20).2.1 17 = .ok (.getfield 9, 3) := by decide +kernel
theorem s20_17 {ls : LV} {st : List AV} {m : MM} {n : Nat} : go 20 17 ls (.inr (.inr (5, some n)) :: st) m = go 20 20 ls (.inr (.inr (12, mR m 5 n 0)) :: st) m := e_1 d20_17 (Or.inl rfl) (by rw [xi, pA, show lk fdL (mt 20).2.2.1 9 = some (5, 0) by decide +kernel]; rfl)
theorem d20_20 : decode (mt 20).2.1 20 = .ok (.iload 4, 2) := by decide +kernel
theorem s20_20 {a0 a1 a2 a3 a5 : Option AV} {st : List AV} {m : MM} {x : Int32} : go 20 20 [a0, a1, a2, a3, some (.inl x), a5] st m = go 20 22 [a0, a1, a2, a3, some (.inl x), a5] (.inl x :: st) m := e_1 d20_20 (Or.inl rfl) rfl
theorem d20_22 : decode (mt 20).2.1 22 = .ok (.iaload, 1) := by decide +kernel
theorem s20_22 {ls : LV} {st : List AV} {m : MM} {n : Nat} {i : Int32} : go 20 22 ls (.inl i :: .inr (.inr (12, some n)) :: st) m = ixk (ix i (mN m 12 n)) (fun j => go 20 23 ls (.inl (mI m 12 n j) :: st) m) := e_ald d20_22 (fun j hj => by simp only [xi, pI, pA, hj, Option.bind_some]; rfl) (fun hj => by simp only [xi, pI, pA, hj, Option.bind_none])
theorem d20_23 : decode (mt 20).2.1 23 = .ok (.iload_n 1, 1) := by decide +kernel
theorem s20_23 {a0 a2 a3 a4 a5 : Option AV} {st : List AV} {m : MM} {x : Int32} : go 20 23 [a0, some (.inl x), a2, a3, a4, a5] st m = go 20 24 [a0, some (.inl x), a2, a3, a4, a5] (.inl x :: st) m := e_1 d20_23 (Or.inl rfl) rfl
theorem d20_24 : decode (mt 20).2.1 24 = .ok (.if_icmp .ne 12, 3) := by decide +kernel
theorem s20_24 {ls : LV} {st : List AV} {m : MM} {a b : Int32} : go 20 24 ls (.inl b :: .inl a :: st) m = if ¬ a = b then go 20 36 ls st m else go 20 27 ls st m := e_if (t := 36) (b := hc .ne a b) d20_24 (Or.inl rfl) (by simp only [xi, pI, jm_some (t := 36) (show ((24 : Nat) : Int) + 12 = ((36 : Nat) : Int) by decide), Option.bind_some]) (by simp [hc])
theorem d20_27 : decode (mt 20).2.1 27 = .ok (.aload_n 0, 1) := by decide +kernel
theorem s20_27 {a1 a2 a3 a4 a5 : Option AV} {st : List AV} {m : MM} {x : Nat × Option Nat} : go 20 27 [some (.inr (.inr x)), a1, a2, a3, a4, a5] st m = go 20 28 [some (.inr (.inr x)), a1, a2, a3, a4, a5] (.inr (.inr x) :: st) m := e_1 d20_27 (Or.inl rfl) rfl
theorem d20_28 : decode (mt 20).2.1 28 = .ok (.getfield 15, 3) := by decide +kernel
theorem s20_28 {ls : LV} {st : List AV} {m : MM} {n : Nat} : go 20 28 ls (.inr (.inr (5, some n)) :: st) m = go 20 31 ls (.inr (.inr (13, mR m 5 n 1)) :: st) m := e_1 d20_28 (Or.inl rfl) (by rw [xi, pA, show lk fdL (mt 20).2.2.1 15 = some (5, 1) by decide +kernel]; rfl)
theorem d20_31 : decode (mt 20).2.1 31 = .ok (.iload 4, 2) := by decide +kernel
theorem s20_31 {a0 a1 a2 a3 a5 : Option AV} {st : List AV} {m : MM} {x : Int32} : go 20 31 [a0, a1, a2, a3, some (.inl x), a5] st m = go 20 33 [a0, a1, a2, a3, some (.inl x), a5] (.inl x :: st) m := e_1 d20_31 (Or.inl rfl) rfl
theorem d20_33 : decode (mt 20).2.1 33 = .ok (.lload_n 2, 1) := by decide +kernel
theorem s20_33 {a0 a1 a3 a4 a5 : Option AV} {st : List AV} {m : MM} {x : Int64} : go 20 33 [a0, a1, some (.inr (.inl x)), a3, a4, a5] st m = go 20 34 [a0, a1, some (.inr (.inl x)), a3, a4, a5] (.inr (.inl x) :: st) m := e_1 d20_33 (Or.inl rfl) rfl
theorem d20_34 : decode (mt 20).2.1 34 = .ok (.lastore, 1) := by decide +kernel
theorem s20_34 {ls : LV} {st : List AV} {m : MM} {n : Nat} {i : Int32} {x : Int64} : go 20 34 ls (.inr (.inl x) :: .inl i :: .inr (.inr (13, some n)) :: st) m = ixk (ix i (mN m 13 n)) (fun j => go 20 35 ls st (sL m 13 n j x)) := e_ald d20_34 (fun j hj => by simp only [xi, pI, pL, pR, pA, hj, Option.bind_some]; exact if_pos rfl) (fun hj => by simp only [xi, pI, pL, pR, pA, hj, Option.bind_none])
theorem d20_35 : decode (mt 20).2.1 35 = .ok (.return_, 1) := by decide +kernel
theorem s20_35 {ls : LV} {m : MM} : go 20 35 ls [] m = some (none, m) := e_void d20_35 (by decide +kernel)
theorem d20_36 : decode (mt 20).2.1 36 = .ok (.aload_n 0, 1) := by decide +kernel
theorem s20_36 {a1 a2 a3 a4 a5 : Option AV} {st : List AV} {m : MM} {x : Nat × Option Nat} : go 20 36 [some (.inr (.inr x)), a1, a2, a3, a4, a5] st m = go 20 37 [some (.inr (.inr x)), a1, a2, a3, a4, a5] (.inr (.inr x) :: st) m := e_1 d20_36 (Or.inl rfl) rfl
theorem d20_37 : decode (mt 20).2.1 37 = .ok (.getfield 19, 3) := by decide +kernel
theorem s20_37 {ls : LV} {st : List AV} {m : MM} {n : Nat} : go 20 37 ls (.inr (.inr (5, some n)) :: st) m = go 20 40 ls (.inl (mI m 5 n 2) :: st) m := e_1 d20_37 (Or.inl rfl) (by rw [xi, pA, show lk fdL (mt 20).2.2.1 19 = some (5, 2) by decide +kernel]; rfl)
theorem d20_40 : decode (mt 20).2.1 40 = .ok (.bipush 16, 2) := by decide +kernel
theorem s20_40 {ls : LV} {st : List AV} {m : MM} : go 20 40 ls st m = go 20 42 ls (.inl 16 :: st) m := e_1 d20_40 (Or.inl rfl) rfl
theorem d20_42 : decode (mt 20).2.1 42 = .ok (.if_icmp .lt 4, 3) := by decide +kernel
theorem s20_42 {ls : LV} {st : List AV} {m : MM} {a b : Int32} : go 20 42 ls (.inl b :: .inl a :: st) m = if a < b then go 20 46 ls st m else go 20 45 ls st m := e_if (t := 46) (b := hc .lt a b) d20_42 (Or.inl rfl) (by simp only [xi, pI, jm_some (t := 46) (show ((42 : Nat) : Int) + 4 = ((46 : Nat) : Int) by decide), Option.bind_some]) (by simp [hc])
theorem d20_45 : decode (mt 20).2.1 45 = .ok (.return_, 1) := by decide +kernel
theorem s20_45 {ls : LV} {m : MM} : go 20 45 ls [] m = some (none, m) := e_void d20_45 (by decide +kernel)
theorem d20_46 : decode (mt 20).2.1 46 = .ok (.aload_n 0, 1) := by decide +kernel
theorem s20_46 {a1 a2 a3 a4 a5 : Option AV} {st : List AV} {m : MM} {x : Nat × Option Nat} : go 20 46 [some (.inr (.inr x)), a1, a2, a3, a4, a5] st m = go 20 47 [some (.inr (.inr x)), a1, a2, a3, a4, a5] (.inr (.inr x) :: st) m := e_1 d20_46 (Or.inl rfl) rfl
theorem d20_47 : decode (mt 20).2.1 47 = .ok (.getfield 19, 3) := by decide +kernel
theorem s20_47 {ls : LV} {st : List AV} {m : MM} {n : Nat} : go 20 47 ls (.inr (.inr (5, some n)) :: st) m = go 20 50 ls (.inl (mI m 5 n 2) :: st) m := e_1 d20_47 (Or.inl rfl) (by rw [xi, pA, show lk fdL (mt 20).2.2.1 19 = some (5, 2) by decide +kernel]; rfl)
theorem d20_50 : decode (mt 20).2.1 50 = .ok (.istore 5, 2) := by decide +kernel
theorem s20_50i {a0 a1 a2 a3 a5 : Option AV} {z : Int32} {st : List AV} {m : MM} {x : Int32} : go 20 50 [a0, a1, a2, a3, some (.inl z), a5] (.inl x :: st) m = go 20 52 [a0, a1, a2, a3, some (.inl z), some (.inl x)] st m := e_1 d20_50 (Or.inl rfl) rfl
theorem s20_50r {a0 a1 a2 a3 a5 : Option AV} {z : Nat × Option Nat} {st : List AV} {m : MM} {x : Int32} : go 20 50 [a0, a1, a2, a3, some (.inr (.inr z)), a5] (.inl x :: st) m = go 20 52 [a0, a1, a2, a3, some (.inr (.inr z)), some (.inl x)] st m := e_1 d20_50 (Or.inl rfl) rfl
theorem s20_50n {a0 a1 a2 a3 a5 : Option AV} {st : List AV} {m : MM} {x : Int32} : go 20 50 [a0, a1, a2, a3, none, a5] (.inl x :: st) m = go 20 52 [a0, a1, a2, a3, none, some (.inl x)] st m := e_1 d20_50 (Or.inl rfl) rfl
theorem d20_52 : decode (mt 20).2.1 52 = .ok (.iload 5, 2) := by decide +kernel
theorem s20_52 {a0 a1 a2 a3 a4 : Option AV} {st : List AV} {m : MM} {x : Int32} : go 20 52 [a0, a1, a2, a3, a4, some (.inl x)] st m = go 20 54 [a0, a1, a2, a3, a4, some (.inl x)] (.inl x :: st) m := e_1 d20_52 (Or.inl rfl) rfl
theorem d20_54 : decode (mt 20).2.1 54 = .ok (.iload 4, 2) := by decide +kernel
theorem s20_54 {a0 a1 a2 a3 a5 : Option AV} {st : List AV} {m : MM} {x : Int32} : go 20 54 [a0, a1, a2, a3, some (.inl x), a5] st m = go 20 56 [a0, a1, a2, a3, some (.inl x), a5] (.inl x :: st) m := e_1 d20_54 (Or.inl rfl) rfl
theorem d20_56 : decode (mt 20).2.1 56 = .ok (.if_icmp .le 41, 3) := by decide +kernel
theorem s20_56 {ls : LV} {st : List AV} {m : MM} {a b : Int32} : go 20 56 ls (.inl b :: .inl a :: st) m = if a ≤ b then go 20 97 ls st m else go 20 59 ls st m := e_if (t := 97) (b := hc .le a b) d20_56 (Or.inl rfl) (by simp only [xi, pI, jm_some (t := 97) (show ((56 : Nat) : Int) + 41 = ((97 : Nat) : Int) by decide), Option.bind_some]) (by simp [hc])
theorem d20_59 : decode (mt 20).2.1 59 = .ok (.aload_n 0, 1) := by decide +kernel
theorem s20_59 {a1 a2 a3 a4 a5 : Option AV} {st : List AV} {m : MM} {x : Nat × Option Nat} : go 20 59 [some (.inr (.inr x)), a1, a2, a3, a4, a5] st m = go 20 60 [some (.inr (.inr x)), a1, a2, a3, a4, a5] (.inr (.inr x) :: st) m := e_1 d20_59 (Or.inl rfl) rfl
theorem d20_60 : decode (mt 20).2.1 60 = .ok (.getfield 9, 3) := by decide +kernel
theorem s20_60 {ls : LV} {st : List AV} {m : MM} {n : Nat} : go 20 60 ls (.inr (.inr (5, some n)) :: st) m = go 20 63 ls (.inr (.inr (12, mR m 5 n 0)) :: st) m := e_1 d20_60 (Or.inl rfl) (by rw [xi, pA, show lk fdL (mt 20).2.2.1 9 = some (5, 0) by decide +kernel]; rfl)
theorem d20_63 : decode (mt 20).2.1 63 = .ok (.iload 5, 2) := by decide +kernel
theorem s20_63 {a0 a1 a2 a3 a4 : Option AV} {st : List AV} {m : MM} {x : Int32} : go 20 63 [a0, a1, a2, a3, a4, some (.inl x)] st m = go 20 65 [a0, a1, a2, a3, a4, some (.inl x)] (.inl x :: st) m := e_1 d20_63 (Or.inl rfl) rfl
theorem d20_65 : decode (mt 20).2.1 65 = .ok (.aload_n 0, 1) := by decide +kernel
theorem s20_65 {a1 a2 a3 a4 a5 : Option AV} {st : List AV} {m : MM} {x : Nat × Option Nat} : go 20 65 [some (.inr (.inr x)), a1, a2, a3, a4, a5] st m = go 20 66 [some (.inr (.inr x)), a1, a2, a3, a4, a5] (.inr (.inr x) :: st) m := e_1 d20_65 (Or.inl rfl) rfl
theorem d20_66 : decode (mt 20).2.1 66 = .ok (.getfield 9, 3) := by decide +kernel
theorem s20_66 {ls : LV} {st : List AV} {m : MM} {n : Nat} : go 20 66 ls (.inr (.inr (5, some n)) :: st) m = go 20 69 ls (.inr (.inr (12, mR m 5 n 0)) :: st) m := e_1 d20_66 (Or.inl rfl) (by rw [xi, pA, show lk fdL (mt 20).2.2.1 9 = some (5, 0) by decide +kernel]; rfl)
theorem d20_69 : decode (mt 20).2.1 69 = .ok (.iload 5, 2) := by decide +kernel
theorem s20_69 {a0 a1 a2 a3 a4 : Option AV} {st : List AV} {m : MM} {x : Int32} : go 20 69 [a0, a1, a2, a3, a4, some (.inl x)] st m = go 20 71 [a0, a1, a2, a3, a4, some (.inl x)] (.inl x :: st) m := e_1 d20_69 (Or.inl rfl) rfl
theorem d20_71 : decode (mt 20).2.1 71 = .ok (.iconst 1, 1) := by decide +kernel
theorem s20_71 {ls : LV} {st : List AV} {m : MM} : go 20 71 ls st m = go 20 72 ls (.inl 1 :: st) m := e_1 d20_71 (Or.inl rfl) rfl
theorem d20_72 : decode (mt 20).2.1 72 = .ok (.isub, 1) := by decide +kernel
theorem s20_72 {ls : LV} {st : List AV} {m : MM} {a b : Int32} : go 20 72 ls (.inl b :: .inl a :: st) m = go 20 73 ls (.inl (a - b) :: st) m := e_1 d20_72 (Or.inl rfl) rfl
theorem d20_73 : decode (mt 20).2.1 73 = .ok (.iaload, 1) := by decide +kernel
theorem s20_73 {ls : LV} {st : List AV} {m : MM} {n : Nat} {i : Int32} : go 20 73 ls (.inl i :: .inr (.inr (12, some n)) :: st) m = ixk (ix i (mN m 12 n)) (fun j => go 20 74 ls (.inl (mI m 12 n j) :: st) m) := e_ald d20_73 (fun j hj => by simp only [xi, pI, pA, hj, Option.bind_some]; rfl) (fun hj => by simp only [xi, pI, pA, hj, Option.bind_none])
theorem d20_74 : decode (mt 20).2.1 74 = .ok (.iastore, 1) := by decide +kernel
theorem s20_74 {ls : LV} {st : List AV} {m : MM} {n : Nat} {i : Int32} {x : Int32} : go 20 74 ls (.inl x :: .inl i :: .inr (.inr (12, some n)) :: st) m = ixk (ix i (mN m 12 n)) (fun j => go 20 75 ls st (sI m 12 n j x)) := e_ald d20_74 (fun j hj => by simp only [xi, pI, pL, pR, pA, hj, Option.bind_some]; exact if_pos ⟨rfl, by decide⟩) (fun hj => by simp only [xi, pI, pL, pR, pA, hj, Option.bind_none])
theorem d20_75 : decode (mt 20).2.1 75 = .ok (.aload_n 0, 1) := by decide +kernel
theorem s20_75 {a1 a2 a3 a4 a5 : Option AV} {st : List AV} {m : MM} {x : Nat × Option Nat} : go 20 75 [some (.inr (.inr x)), a1, a2, a3, a4, a5] st m = go 20 76 [some (.inr (.inr x)), a1, a2, a3, a4, a5] (.inr (.inr x) :: st) m := e_1 d20_75 (Or.inl rfl) rfl
theorem d20_76 : decode (mt 20).2.1 76 = .ok (.getfield 15, 3) := by decide +kernel
theorem s20_76 {ls : LV} {st : List AV} {m : MM} {n : Nat} : go 20 76 ls (.inr (.inr (5, some n)) :: st) m = go 20 79 ls (.inr (.inr (13, mR m 5 n 1)) :: st) m := e_1 d20_76 (Or.inl rfl) (by rw [xi, pA, show lk fdL (mt 20).2.2.1 15 = some (5, 1) by decide +kernel]; rfl)
theorem d20_79 : decode (mt 20).2.1 79 = .ok (.iload 5, 2) := by decide +kernel
theorem s20_79 {a0 a1 a2 a3 a4 : Option AV} {st : List AV} {m : MM} {x : Int32} : go 20 79 [a0, a1, a2, a3, a4, some (.inl x)] st m = go 20 81 [a0, a1, a2, a3, a4, some (.inl x)] (.inl x :: st) m := e_1 d20_79 (Or.inl rfl) rfl
theorem d20_81 : decode (mt 20).2.1 81 = .ok (.aload_n 0, 1) := by decide +kernel
theorem s20_81 {a1 a2 a3 a4 a5 : Option AV} {st : List AV} {m : MM} {x : Nat × Option Nat} : go 20 81 [some (.inr (.inr x)), a1, a2, a3, a4, a5] st m = go 20 82 [some (.inr (.inr x)), a1, a2, a3, a4, a5] (.inr (.inr x) :: st) m := e_1 d20_81 (Or.inl rfl) rfl
theorem d20_82 : decode (mt 20).2.1 82 = .ok (.getfield 15, 3) := by decide +kernel
theorem s20_82 {ls : LV} {st : List AV} {m : MM} {n : Nat} : go 20 82 ls (.inr (.inr (5, some n)) :: st) m = go 20 85 ls (.inr (.inr (13, mR m 5 n 1)) :: st) m := e_1 d20_82 (Or.inl rfl) (by rw [xi, pA, show lk fdL (mt 20).2.2.1 15 = some (5, 1) by decide +kernel]; rfl)
theorem d20_85 : decode (mt 20).2.1 85 = .ok (.iload 5, 2) := by decide +kernel
theorem s20_85 {a0 a1 a2 a3 a4 : Option AV} {st : List AV} {m : MM} {x : Int32} : go 20 85 [a0, a1, a2, a3, a4, some (.inl x)] st m = go 20 87 [a0, a1, a2, a3, a4, some (.inl x)] (.inl x :: st) m := e_1 d20_85 (Or.inl rfl) rfl
theorem d20_87 : decode (mt 20).2.1 87 = .ok (.iconst 1, 1) := by decide +kernel
theorem s20_87 {ls : LV} {st : List AV} {m : MM} : go 20 87 ls st m = go 20 88 ls (.inl 1 :: st) m := e_1 d20_87 (Or.inl rfl) rfl
theorem d20_88 : decode (mt 20).2.1 88 = .ok (.isub, 1) := by decide +kernel
theorem s20_88 {ls : LV} {st : List AV} {m : MM} {a b : Int32} : go 20 88 ls (.inl b :: .inl a :: st) m = go 20 89 ls (.inl (a - b) :: st) m := e_1 d20_88 (Or.inl rfl) rfl
theorem d20_89 : decode (mt 20).2.1 89 = .ok (.laload, 1) := by decide +kernel
theorem s20_89 {ls : LV} {st : List AV} {m : MM} {n : Nat} {i : Int32} : go 20 89 ls (.inl i :: .inr (.inr (13, some n)) :: st) m = ixk (ix i (mN m 13 n)) (fun j => go 20 90 ls (.inr (.inl (mL m 13 n j)) :: st) m) := e_ald d20_89 (fun j hj => by simp only [xi, pI, pA, hj, Option.bind_some]; rfl) (fun hj => by simp only [xi, pI, pA, hj, Option.bind_none])
theorem d20_90 : decode (mt 20).2.1 90 = .ok (.lastore, 1) := by decide +kernel
theorem s20_90 {ls : LV} {st : List AV} {m : MM} {n : Nat} {i : Int32} {x : Int64} : go 20 90 ls (.inr (.inl x) :: .inl i :: .inr (.inr (13, some n)) :: st) m = ixk (ix i (mN m 13 n)) (fun j => go 20 91 ls st (sL m 13 n j x)) := e_ald d20_90 (fun j hj => by simp only [xi, pI, pL, pR, pA, hj, Option.bind_some]; exact if_pos rfl) (fun hj => by simp only [xi, pI, pL, pR, pA, hj, Option.bind_none])
theorem d20_91 : decode (mt 20).2.1 91 = .ok (.iinc 5 (-1), 3) := by decide +kernel
theorem s20_91i {a0 a1 a2 a3 : Option AV} {z : Int32} {st : List AV} {m : MM} {x : Int32} : go 20 91 [a0, a1, a2, a3, some (.inl z), some (.inl x)] st m = go 20 94 [a0, a1, a2, a3, some (.inl z), some (.inl (x + (-1)))] st m := e_1 d20_91 (Or.inl rfl) rfl
theorem s20_91r {a0 a1 a2 a3 : Option AV} {z : Nat × Option Nat} {st : List AV} {m : MM} {x : Int32} : go 20 91 [a0, a1, a2, a3, some (.inr (.inr z)), some (.inl x)] st m = go 20 94 [a0, a1, a2, a3, some (.inr (.inr z)), some (.inl (x + (-1)))] st m := e_1 d20_91 (Or.inl rfl) rfl
theorem s20_91n {a0 a1 a2 a3 : Option AV} {st : List AV} {m : MM} {x : Int32} : go 20 91 [a0, a1, a2, a3, none, some (.inl x)] st m = go 20 94 [a0, a1, a2, a3, none, some (.inl (x + (-1)))] st m := e_1 d20_91 (Or.inl rfl) rfl
theorem d20_94 : decode (mt 20).2.1 94 = .ok (.goto (-42), 3) := by decide +kernel
theorem s20_94 {ls : LV} {st : List AV} {m : MM} : go 20 94 ls st m = go 20 52 ls st m := e_1 d20_94 (Or.inl rfl) (by rw [xi, jm_some (t := 52) (by decide)]; rfl)
theorem d20_97 : decode (mt 20).2.1 97 = .ok (.aload_n 0, 1) := by decide +kernel
theorem s20_97 {a1 a2 a3 a4 a5 : Option AV} {st : List AV} {m : MM} {x : Nat × Option Nat} : go 20 97 [some (.inr (.inr x)), a1, a2, a3, a4, a5] st m = go 20 98 [some (.inr (.inr x)), a1, a2, a3, a4, a5] (.inr (.inr x) :: st) m := e_1 d20_97 (Or.inl rfl) rfl
theorem d20_98 : decode (mt 20).2.1 98 = .ok (.getfield 9, 3) := by decide +kernel
theorem s20_98 {ls : LV} {st : List AV} {m : MM} {n : Nat} : go 20 98 ls (.inr (.inr (5, some n)) :: st) m = go 20 101 ls (.inr (.inr (12, mR m 5 n 0)) :: st) m := e_1 d20_98 (Or.inl rfl) (by rw [xi, pA, show lk fdL (mt 20).2.2.1 9 = some (5, 0) by decide +kernel]; rfl)
theorem d20_101 : decode (mt 20).2.1 101 = .ok (.iload 4, 2) := by decide +kernel
theorem s20_101 {a0 a1 a2 a3 a5 : Option AV} {st : List AV} {m : MM} {x : Int32} : go 20 101 [a0, a1, a2, a3, some (.inl x), a5] st m = go 20 103 [a0, a1, a2, a3, some (.inl x), a5] (.inl x :: st) m := e_1 d20_101 (Or.inl rfl) rfl
theorem d20_103 : decode (mt 20).2.1 103 = .ok (.iload_n 1, 1) := by decide +kernel
theorem s20_103 {a0 a2 a3 a4 a5 : Option AV} {st : List AV} {m : MM} {x : Int32} : go 20 103 [a0, some (.inl x), a2, a3, a4, a5] st m = go 20 104 [a0, some (.inl x), a2, a3, a4, a5] (.inl x :: st) m := e_1 d20_103 (Or.inl rfl) rfl
theorem d20_104 : decode (mt 20).2.1 104 = .ok (.iastore, 1) := by decide +kernel
theorem s20_104 {ls : LV} {st : List AV} {m : MM} {n : Nat} {i : Int32} {x : Int32} : go 20 104 ls (.inl x :: .inl i :: .inr (.inr (12, some n)) :: st) m = ixk (ix i (mN m 12 n)) (fun j => go 20 105 ls st (sI m 12 n j x)) := e_ald d20_104 (fun j hj => by simp only [xi, pI, pL, pR, pA, hj, Option.bind_some]; exact if_pos ⟨rfl, by decide⟩) (fun hj => by simp only [xi, pI, pL, pR, pA, hj, Option.bind_none])
theorem d20_105 : decode (mt 20).2.1 105 = .ok (.aload_n 0, 1) := by decide +kernel
theorem s20_105 {a1 a2 a3 a4 a5 : Option AV} {st : List AV} {m : MM} {x : Nat × Option Nat} : go 20 105 [some (.inr (.inr x)), a1, a2, a3, a4, a5] st m = go 20 106 [some (.inr (.inr x)), a1, a2, a3, a4, a5] (.inr (.inr x) :: st) m := e_1 d20_105 (Or.inl rfl) rfl
theorem d20_106 : decode (mt 20).2.1 106 = .ok (.getfield 15, 3) := by decide +kernel
theorem s20_106 {ls : LV} {st : List AV} {m : MM} {n : Nat} : go 20 106 ls (.inr (.inr (5, some n)) :: st) m = go 20 109 ls (.inr (.inr (13, mR m 5 n 1)) :: st) m := e_1 d20_106 (Or.inl rfl) (by rw [xi, pA, show lk fdL (mt 20).2.2.1 15 = some (5, 1) by decide +kernel]; rfl)
theorem d20_109 : decode (mt 20).2.1 109 = .ok (.iload 4, 2) := by decide +kernel
theorem s20_109 {a0 a1 a2 a3 a5 : Option AV} {st : List AV} {m : MM} {x : Int32} : go 20 109 [a0, a1, a2, a3, some (.inl x), a5] st m = go 20 111 [a0, a1, a2, a3, some (.inl x), a5] (.inl x :: st) m := e_1 d20_109 (Or.inl rfl) rfl
theorem d20_111 : decode (mt 20).2.1 111 = .ok (.lload_n 2, 1) := by decide +kernel
theorem s20_111 {a0 a1 a3 a4 a5 : Option AV} {st : List AV} {m : MM} {x : Int64} : go 20 111 [a0, a1, some (.inr (.inl x)), a3, a4, a5] st m = go 20 112 [a0, a1, some (.inr (.inl x)), a3, a4, a5] (.inr (.inl x) :: st) m := e_1 d20_111 (Or.inl rfl) rfl
theorem d20_112 : decode (mt 20).2.1 112 = .ok (.lastore, 1) := by decide +kernel
theorem s20_112 {ls : LV} {st : List AV} {m : MM} {n : Nat} {i : Int32} {x : Int64} : go 20 112 ls (.inr (.inl x) :: .inl i :: .inr (.inr (13, some n)) :: st) m = ixk (ix i (mN m 13 n)) (fun j => go 20 113 ls st (sL m 13 n j x)) := e_ald d20_112 (fun j hj => by simp only [xi, pI, pL, pR, pA, hj, Option.bind_some]; exact if_pos rfl) (fun hj => by simp only [xi, pI, pL, pR, pA, hj, Option.bind_none])
theorem d20_113 : decode (mt 20).2.1 113 = .ok (.aload_n 0, 1) := by decide +kernel
theorem s20_113 {a1 a2 a3 a4 a5 : Option AV} {st : List AV} {m : MM} {x : Nat × Option Nat} : go 20 113 [some (.inr (.inr x)), a1, a2, a3, a4, a5] st m = go 20 114 [some (.inr (.inr x)), a1, a2, a3, a4, a5] (.inr (.inr x) :: st) m := e_1 d20_113 (Or.inl rfl) rfl
theorem d20_114 : decode (mt 20).2.1 114 = .ok (.dup, 1) := by decide +kernel
theorem s20_114 {ls : LV} {st : List AV} {m : MM} {x : Nat × Option Nat} : go 20 114 ls (.inr (.inr x) :: st) m = go 20 115 ls (.inr (.inr x) :: .inr (.inr x) :: st) m := e_1 d20_114 (Or.inl rfl) rfl
theorem d20_115 : decode (mt 20).2.1 115 = .ok (.getfield 19, 3) := by decide +kernel
theorem s20_115 {ls : LV} {st : List AV} {m : MM} {n : Nat} : go 20 115 ls (.inr (.inr (5, some n)) :: st) m = go 20 118 ls (.inl (mI m 5 n 2) :: st) m := e_1 d20_115 (Or.inl rfl) (by rw [xi, pA, show lk fdL (mt 20).2.2.1 19 = some (5, 2) by decide +kernel]; rfl)
theorem d20_118 : decode (mt 20).2.1 118 = .ok (.iconst 1, 1) := by decide +kernel
theorem s20_118 {ls : LV} {st : List AV} {m : MM} : go 20 118 ls st m = go 20 119 ls (.inl 1 :: st) m := e_1 d20_118 (Or.inl rfl) rfl
theorem d20_119 : decode (mt 20).2.1 119 = .ok (.iadd, 1) := by decide +kernel
theorem s20_119 {ls : LV} {st : List AV} {m : MM} {a b : Int32} : go 20 119 ls (.inl b :: .inl a :: st) m = go 20 120 ls (.inl (a + b) :: st) m := e_1 d20_119 (Or.inl rfl) rfl
theorem d20_120 : decode (mt 20).2.1 120 = .ok (.putfield 19, 3) := by decide +kernel
theorem s20_120 {ls : LV} {st : List AV} {m : MM} {n : Nat} {x : Int32} : go 20 120 ls (.inl x :: .inr (.inr (5, some n)) :: st) m = go 20 123 ls st (sI m 5 n 2 x) := e_put (r := 5) (f := 2) d20_120 (by decide +kernel) rfl (by decide +kernel)
theorem d20_123 : decode (mt 20).2.1 123 = .ok (.return_, 1) := by decide +kernel
theorem s20_123 {ls : LV} {m : MM} : go 20 123 ls [] m = some (none, m) := e_void d20_123 (by decide +kernel)
/-! X4_moveTo: 21 -/
theorem d21_0 : decode (mt 21).2.1 0 = .ok (.iload_n 2, 1) := by decide +kernel
theorem s21_0 {a0 a1 a3 a4 : Option AV} {st : List AV} {m : MM} {x : Int32} : go 21 0 [a0, a1, some (.inl x), a3, a4] st m = go 21 1 [a0, a1, some (.inl x), a3, a4] (.inl x :: st) m := e_1 d21_0 (Or.inl rfl) rfl
theorem d21_1 : decode (mt 21).2.1 1 = .ok (.ifCond .lt 16, 3) := by decide +kernel
theorem s21_1 {ls : LV} {st : List AV} {m : MM} {a : Int32} : go 21 1 ls (.inl a :: st) m = if a < 0 then go 21 17 ls st m else go 21 4 ls st m := e_if (t := 17) (b := hc .lt a 0) d21_1 (Or.inl rfl) (by simp only [xi, pI, jm_some (t := 17) (show ((1 : Nat) : Int) + 16 = ((17 : Nat) : Int) by decide), Option.bind_some]) (by simp [hc])
theorem d21_4 : decode (mt 21).2.1 4 = .ok (.iload_n 3, 1) := by decide +kernel
theorem s21_4 {a0 a1 a2 a4 : Option AV} {st : List AV} {m : MM} {x : Int32} : go 21 4 [a0, a1, a2, some (.inl x), a4] st m = go 21 5 [a0, a1, a2, some (.inl x), a4] (.inl x :: st) m := e_1 d21_4 (Or.inl rfl) rfl
theorem d21_5 : decode (mt 21).2.1 5 = .ok (.aload_n 0, 1) := by decide +kernel
theorem s21_5 {a1 a2 a3 a4 : Option AV} {st : List AV} {m : MM} {x : Nat × Option Nat} : go 21 5 [some (.inr (.inr x)), a1, a2, a3, a4] st m = go 21 6 [some (.inr (.inr x)), a1, a2, a3, a4] (.inr (.inr x) :: st) m := e_1 d21_5 (Or.inl rfl) rfl
theorem d21_6 : decode (mt 21).2.1 6 = .ok (.getfield 19, 3) := by decide +kernel
theorem s21_6 {ls : LV} {st : List AV} {m : MM} {n : Nat} : go 21 6 ls (.inr (.inr (5, some n)) :: st) m = go 21 9 ls (.inl (mI m 5 n 2) :: st) m := e_1 d21_6 (Or.inl rfl) (by rw [xi, pA, show lk fdL (mt 21).2.2.1 19 = some (5, 2) by decide +kernel]; rfl)
theorem d21_9 : decode (mt 21).2.1 9 = .ok (.if_icmp .gt 8, 3) := by decide +kernel
theorem s21_9 {ls : LV} {st : List AV} {m : MM} {a b : Int32} : go 21 9 ls (.inl b :: .inl a :: st) m = if b < a then go 21 17 ls st m else go 21 12 ls st m := e_if (t := 17) (b := hc .gt a b) d21_9 (Or.inl rfl) (by simp only [xi, pI, jm_some (t := 17) (show ((9 : Nat) : Int) + 8 = ((17 : Nat) : Int) by decide), Option.bind_some]) (by simp [hc])
theorem d21_12 : decode (mt 21).2.1 12 = .ok (.iload_n 2, 1) := by decide +kernel
theorem s21_12 {a0 a1 a3 a4 : Option AV} {st : List AV} {m : MM} {x : Int32} : go 21 12 [a0, a1, some (.inl x), a3, a4] st m = go 21 13 [a0, a1, some (.inl x), a3, a4] (.inl x :: st) m := e_1 d21_12 (Or.inl rfl) rfl
theorem d21_13 : decode (mt 21).2.1 13 = .ok (.iload_n 3, 1) := by decide +kernel
theorem s21_13 {a0 a1 a2 a4 : Option AV} {st : List AV} {m : MM} {x : Int32} : go 21 13 [a0, a1, a2, some (.inl x), a4] st m = go 21 14 [a0, a1, a2, some (.inl x), a4] (.inl x :: st) m := e_1 d21_13 (Or.inl rfl) rfl
theorem d21_14 : decode (mt 21).2.1 14 = .ok (.if_icmp .lt 4, 3) := by decide +kernel
theorem s21_14 {ls : LV} {st : List AV} {m : MM} {a b : Int32} : go 21 14 ls (.inl b :: .inl a :: st) m = if a < b then go 21 18 ls st m else go 21 17 ls st m := e_if (t := 18) (b := hc .lt a b) d21_14 (Or.inl rfl) (by simp only [xi, pI, jm_some (t := 18) (show ((14 : Nat) : Int) + 4 = ((18 : Nat) : Int) by decide), Option.bind_some]) (by simp [hc])
theorem d21_17 : decode (mt 21).2.1 17 = .ok (.return_, 1) := by decide +kernel
theorem s21_17 {ls : LV} {m : MM} : go 21 17 ls [] m = some (none, m) := e_void d21_17 (by decide +kernel)
theorem d21_18 : decode (mt 21).2.1 18 = .ok (.iload_n 2, 1) := by decide +kernel
theorem s21_18 {a0 a1 a3 a4 : Option AV} {st : List AV} {m : MM} {x : Int32} : go 21 18 [a0, a1, some (.inl x), a3, a4] st m = go 21 19 [a0, a1, some (.inl x), a3, a4] (.inl x :: st) m := e_1 d21_18 (Or.inl rfl) rfl
theorem d21_19 : decode (mt 21).2.1 19 = .ok (.istore 4, 2) := by decide +kernel
theorem s21_19i {a0 a1 a2 a4 : Option AV} {z : Int32} {st : List AV} {m : MM} {x : Int32} : go 21 19 [a0, a1, a2, some (.inl z), a4] (.inl x :: st) m = go 21 21 [a0, a1, a2, some (.inl z), some (.inl x)] st m := e_1 d21_19 (Or.inl rfl) rfl
theorem s21_19r {a0 a1 a2 a4 : Option AV} {z : Nat × Option Nat} {st : List AV} {m : MM} {x : Int32} : go 21 19 [a0, a1, a2, some (.inr (.inr z)), a4] (.inl x :: st) m = go 21 21 [a0, a1, a2, some (.inr (.inr z)), some (.inl x)] st m := e_1 d21_19 (Or.inl rfl) rfl
theorem s21_19n {a0 a1 a2 a4 : Option AV} {st : List AV} {m : MM} {x : Int32} : go 21 19 [a0, a1, a2, none, a4] (.inl x :: st) m = go 21 21 [a0, a1, a2, none, some (.inl x)] st m := e_1 d21_19 (Or.inl rfl) rfl
theorem d21_21 : decode (mt 21).2.1 21 = .ok (.iload 4, 2) := by decide +kernel
theorem s21_21 {a0 a1 a2 a3 : Option AV} {st : List AV} {m : MM} {x : Int32} : go 21 21 [a0, a1, a2, a3, some (.inl x)] st m = go 21 23 [a0, a1, a2, a3, some (.inl x)] (.inl x :: st) m := e_1 d21_21 (Or.inl rfl) rfl
theorem d21_23 : decode (mt 21).2.1 23 = .ok (.iload_n 3, 1) := by decide +kernel
theorem s21_23 {a0 a1 a2 a4 : Option AV} {st : List AV} {m : MM} {x : Int32} : go 21 23 [a0, a1, a2, some (.inl x), a4] st m = go 21 24 [a0, a1, a2, some (.inl x), a4] (.inl x :: st) m := e_1 d21_23 (Or.inl rfl) rfl
theorem d21_24 : decode (mt 21).2.1 24 = .ok (.if_icmp .ge 27, 3) := by decide +kernel
theorem s21_24 {ls : LV} {st : List AV} {m : MM} {a b : Int32} : go 21 24 ls (.inl b :: .inl a :: st) m = if b ≤ a then go 21 51 ls st m else go 21 27 ls st m := e_if (t := 51) (b := hc .ge a b) d21_24 (Or.inl rfl) (by simp only [xi, pI, jm_some (t := 51) (show ((24 : Nat) : Int) + 27 = ((51 : Nat) : Int) by decide), Option.bind_some]) (by simp [hc])
theorem d21_27 : decode (mt 21).2.1 27 = .ok (.aload_n 1, 1) := by decide +kernel
theorem s21_27 {a0 a2 a3 a4 : Option AV} {st : List AV} {m : MM} {x : Nat × Option Nat} : go 21 27 [a0, some (.inr (.inr x)), a2, a3, a4] st m = go 21 28 [a0, some (.inr (.inr x)), a2, a3, a4] (.inr (.inr x) :: st) m := e_1 d21_27 (Or.inl rfl) rfl
theorem d21_28 : decode (mt 21).2.1 28 = .ok (.aload_n 0, 1) := by decide +kernel
theorem s21_28 {a1 a2 a3 a4 : Option AV} {st : List AV} {m : MM} {x : Nat × Option Nat} : go 21 28 [some (.inr (.inr x)), a1, a2, a3, a4] st m = go 21 29 [some (.inr (.inr x)), a1, a2, a3, a4] (.inr (.inr x) :: st) m := e_1 d21_28 (Or.inl rfl) rfl
theorem d21_29 : decode (mt 21).2.1 29 = .ok (.getfield 9, 3) := by decide +kernel
theorem s21_29 {ls : LV} {st : List AV} {m : MM} {n : Nat} : go 21 29 ls (.inr (.inr (5, some n)) :: st) m = go 21 32 ls (.inr (.inr (12, mR m 5 n 0)) :: st) m := e_1 d21_29 (Or.inl rfl) (by rw [xi, pA, show lk fdL (mt 21).2.2.1 9 = some (5, 0) by decide +kernel]; rfl)
theorem d21_32 : decode (mt 21).2.1 32 = .ok (.iload 4, 2) := by decide +kernel
theorem s21_32 {a0 a1 a2 a3 : Option AV} {st : List AV} {m : MM} {x : Int32} : go 21 32 [a0, a1, a2, a3, some (.inl x)] st m = go 21 34 [a0, a1, a2, a3, some (.inl x)] (.inl x :: st) m := e_1 d21_32 (Or.inl rfl) rfl
theorem d21_34 : decode (mt 21).2.1 34 = .ok (.iaload, 1) := by decide +kernel
theorem s21_34 {ls : LV} {st : List AV} {m : MM} {n : Nat} {i : Int32} : go 21 34 ls (.inl i :: .inr (.inr (12, some n)) :: st) m = ixk (ix i (mN m 12 n)) (fun j => go 21 35 ls (.inl (mI m 12 n j) :: st) m) := e_ald d21_34 (fun j hj => by simp only [xi, pI, pA, hj, Option.bind_some]; rfl) (fun hj => by simp only [xi, pI, pA, hj, Option.bind_none])
theorem d21_35 : decode (mt 21).2.1 35 = .ok (.aload_n 0, 1) := by decide +kernel
theorem s21_35 {a1 a2 a3 a4 : Option AV} {st : List AV} {m : MM} {x : Nat × Option Nat} : go 21 35 [some (.inr (.inr x)), a1, a2, a3, a4] st m = go 21 36 [some (.inr (.inr x)), a1, a2, a3, a4] (.inr (.inr x) :: st) m := e_1 d21_35 (Or.inl rfl) rfl
theorem d21_36 : decode (mt 21).2.1 36 = .ok (.getfield 15, 3) := by decide +kernel
theorem s21_36 {ls : LV} {st : List AV} {m : MM} {n : Nat} : go 21 36 ls (.inr (.inr (5, some n)) :: st) m = go 21 39 ls (.inr (.inr (13, mR m 5 n 1)) :: st) m := e_1 d21_36 (Or.inl rfl) (by rw [xi, pA, show lk fdL (mt 21).2.2.1 15 = some (5, 1) by decide +kernel]; rfl)
theorem d21_39 : decode (mt 21).2.1 39 = .ok (.iload 4, 2) := by decide +kernel
theorem s21_39 {a0 a1 a2 a3 : Option AV} {st : List AV} {m : MM} {x : Int32} : go 21 39 [a0, a1, a2, a3, some (.inl x)] st m = go 21 41 [a0, a1, a2, a3, some (.inl x)] (.inl x :: st) m := e_1 d21_39 (Or.inl rfl) rfl
theorem d21_41 : decode (mt 21).2.1 41 = .ok (.laload, 1) := by decide +kernel
theorem s21_41 {ls : LV} {st : List AV} {m : MM} {n : Nat} {i : Int32} : go 21 41 ls (.inl i :: .inr (.inr (13, some n)) :: st) m = ixk (ix i (mN m 13 n)) (fun j => go 21 42 ls (.inr (.inl (mL m 13 n j)) :: st) m) := e_ald d21_41 (fun j hj => by simp only [xi, pI, pA, hj, Option.bind_some]; rfl) (fun hj => by simp only [xi, pI, pA, hj, Option.bind_none])
theorem d21_42 : decode (mt 21).2.1 42 = .ok (.invokevirtual 27, 3) := by decide +kernel
theorem s21_42 {ls : LV} {m : MM} {x0 : Int32} {x1 : Int64} {n : Nat} : go 21 42 ls [.inr (.inl x1), .inl x0, .inr (.inr (5, some n))] m = bd (go 20 0 [some (.inr (.inr (5, some n))), some (.inl x0), some (.inr (.inl x1)), none, none, none] [] m) (fun v m2 => go 21 45 ls (v.toList ++ []) m2) := e_virt (y1 := 20) (na := 2) (as := [.inl x0, .inr (.inl x1)]) (rest := []) d21_42 (by decide +kernel) rfl (by decide +kernel) (show (ent [.inr (.inr (5, some n)), .inl x0, .inr (.inl x1)]).length ≤ (mt 20).2.2.2.1 from Nat.le_of_ble_eq_true rfl) (cats_le (Nat.le_of_ble_eq_true rfl)) (by decide +kernel)
theorem d21_45 : decode (mt 21).2.1 45 = .ok (.iinc 4 1, 3) := by decide +kernel
theorem s21_45i {a0 a1 a2 : Option AV} {z : Int32} {st : List AV} {m : MM} {x : Int32} : go 21 45 [a0, a1, a2, some (.inl z), some (.inl x)] st m = go 21 48 [a0, a1, a2, some (.inl z), some (.inl (x + 1))] st m := e_1 d21_45 (Or.inl rfl) rfl
theorem s21_45r {a0 a1 a2 : Option AV} {z : Nat × Option Nat} {st : List AV} {m : MM} {x : Int32} : go 21 45 [a0, a1, a2, some (.inr (.inr z)), some (.inl x)] st m = go 21 48 [a0, a1, a2, some (.inr (.inr z)), some (.inl (x + 1))] st m := e_1 d21_45 (Or.inl rfl) rfl
theorem s21_45n {a0 a1 a2 : Option AV} {st : List AV} {m : MM} {x : Int32} : go 21 45 [a0, a1, a2, none, some (.inl x)] st m = go 21 48 [a0, a1, a2, none, some (.inl (x + 1))] st m := e_1 d21_45 (Or.inl rfl) rfl
theorem d21_48 : decode (mt 21).2.1 48 = .ok (.goto (-27), 3) := by decide +kernel
theorem s21_48 {ls : LV} {st : List AV} {m : MM} : go 21 48 ls st m = go 21 21 ls st m := e_1 d21_48 (Or.inl rfl) (by rw [xi, jm_some (t := 21) (by decide)]; rfl)
theorem d21_51 : decode (mt 21).2.1 51 = .ok (.iload_n 3, 1) := by decide +kernel
theorem s21_51 {a0 a1 a2 a4 : Option AV} {st : List AV} {m : MM} {x : Int32} : go 21 51 [a0, a1, a2, some (.inl x), a4] st m = go 21 52 [a0, a1, a2, some (.inl x), a4] (.inl x :: st) m := e_1 d21_51 (Or.inl rfl) rfl
theorem d21_52 : decode (mt 21).2.1 52 = .ok (.istore 4, 2) := by decide +kernel
theorem s21_52i {a0 a1 a2 a4 : Option AV} {z : Int32} {st : List AV} {m : MM} {x : Int32} : go 21 52 [a0, a1, a2, some (.inl z), a4] (.inl x :: st) m = go 21 54 [a0, a1, a2, some (.inl z), some (.inl x)] st m := e_1 d21_52 (Or.inl rfl) rfl
theorem s21_52r {a0 a1 a2 a4 : Option AV} {z : Nat × Option Nat} {st : List AV} {m : MM} {x : Int32} : go 21 52 [a0, a1, a2, some (.inr (.inr z)), a4] (.inl x :: st) m = go 21 54 [a0, a1, a2, some (.inr (.inr z)), some (.inl x)] st m := e_1 d21_52 (Or.inl rfl) rfl
theorem s21_52n {a0 a1 a2 a4 : Option AV} {st : List AV} {m : MM} {x : Int32} : go 21 52 [a0, a1, a2, none, a4] (.inl x :: st) m = go 21 54 [a0, a1, a2, none, some (.inl x)] st m := e_1 d21_52 (Or.inl rfl) rfl
theorem d21_54 : decode (mt 21).2.1 54 = .ok (.iload 4, 2) := by decide +kernel
theorem s21_54 {a0 a1 a2 a3 : Option AV} {st : List AV} {m : MM} {x : Int32} : go 21 54 [a0, a1, a2, a3, some (.inl x)] st m = go 21 56 [a0, a1, a2, a3, some (.inl x)] (.inl x :: st) m := e_1 d21_54 (Or.inl rfl) rfl
theorem d21_56 : decode (mt 21).2.1 56 = .ok (.aload_n 0, 1) := by decide +kernel
theorem s21_56 {a1 a2 a3 a4 : Option AV} {st : List AV} {m : MM} {x : Nat × Option Nat} : go 21 56 [some (.inr (.inr x)), a1, a2, a3, a4] st m = go 21 57 [some (.inr (.inr x)), a1, a2, a3, a4] (.inr (.inr x) :: st) m := e_1 d21_56 (Or.inl rfl) rfl
theorem d21_57 : decode (mt 21).2.1 57 = .ok (.getfield 19, 3) := by decide +kernel
theorem s21_57 {ls : LV} {st : List AV} {m : MM} {n : Nat} : go 21 57 ls (.inr (.inr (5, some n)) :: st) m = go 21 60 ls (.inl (mI m 5 n 2) :: st) m := e_1 d21_57 (Or.inl rfl) (by rw [xi, pA, show lk fdL (mt 21).2.2.1 19 = some (5, 2) by decide +kernel]; rfl)
theorem d21_60 : decode (mt 21).2.1 60 = .ok (.if_icmp .ge 45, 3) := by decide +kernel
theorem s21_60 {ls : LV} {st : List AV} {m : MM} {a b : Int32} : go 21 60 ls (.inl b :: .inl a :: st) m = if b ≤ a then go 21 105 ls st m else go 21 63 ls st m := e_if (t := 105) (b := hc .ge a b) d21_60 (Or.inl rfl) (by simp only [xi, pI, jm_some (t := 105) (show ((60 : Nat) : Int) + 45 = ((105 : Nat) : Int) by decide), Option.bind_some]) (by simp [hc])
theorem d21_63 : decode (mt 21).2.1 63 = .ok (.aload_n 0, 1) := by decide +kernel
theorem s21_63 {a1 a2 a3 a4 : Option AV} {st : List AV} {m : MM} {x : Nat × Option Nat} : go 21 63 [some (.inr (.inr x)), a1, a2, a3, a4] st m = go 21 64 [some (.inr (.inr x)), a1, a2, a3, a4] (.inr (.inr x) :: st) m := e_1 d21_63 (Or.inl rfl) rfl
theorem d21_64 : decode (mt 21).2.1 64 = .ok (.getfield 9, 3) := by decide +kernel
theorem s21_64 {ls : LV} {st : List AV} {m : MM} {n : Nat} : go 21 64 ls (.inr (.inr (5, some n)) :: st) m = go 21 67 ls (.inr (.inr (12, mR m 5 n 0)) :: st) m := e_1 d21_64 (Or.inl rfl) (by rw [xi, pA, show lk fdL (mt 21).2.2.1 9 = some (5, 0) by decide +kernel]; rfl)
theorem d21_67 : decode (mt 21).2.1 67 = .ok (.iload_n 2, 1) := by decide +kernel
theorem s21_67 {a0 a1 a3 a4 : Option AV} {st : List AV} {m : MM} {x : Int32} : go 21 67 [a0, a1, some (.inl x), a3, a4] st m = go 21 68 [a0, a1, some (.inl x), a3, a4] (.inl x :: st) m := e_1 d21_67 (Or.inl rfl) rfl
theorem d21_68 : decode (mt 21).2.1 68 = .ok (.iload 4, 2) := by decide +kernel
theorem s21_68 {a0 a1 a2 a3 : Option AV} {st : List AV} {m : MM} {x : Int32} : go 21 68 [a0, a1, a2, a3, some (.inl x)] st m = go 21 70 [a0, a1, a2, a3, some (.inl x)] (.inl x :: st) m := e_1 d21_68 (Or.inl rfl) rfl
theorem d21_70 : decode (mt 21).2.1 70 = .ok (.iadd, 1) := by decide +kernel
theorem s21_70 {ls : LV} {st : List AV} {m : MM} {a b : Int32} : go 21 70 ls (.inl b :: .inl a :: st) m = go 21 71 ls (.inl (a + b) :: st) m := e_1 d21_70 (Or.inl rfl) rfl
theorem d21_71 : decode (mt 21).2.1 71 = .ok (.iload_n 3, 1) := by decide +kernel
theorem s21_71 {a0 a1 a2 a4 : Option AV} {st : List AV} {m : MM} {x : Int32} : go 21 71 [a0, a1, a2, some (.inl x), a4] st m = go 21 72 [a0, a1, a2, some (.inl x), a4] (.inl x :: st) m := e_1 d21_71 (Or.inl rfl) rfl
theorem d21_72 : decode (mt 21).2.1 72 = .ok (.isub, 1) := by decide +kernel
theorem s21_72 {ls : LV} {st : List AV} {m : MM} {a b : Int32} : go 21 72 ls (.inl b :: .inl a :: st) m = go 21 73 ls (.inl (a - b) :: st) m := e_1 d21_72 (Or.inl rfl) rfl
theorem d21_73 : decode (mt 21).2.1 73 = .ok (.aload_n 0, 1) := by decide +kernel
theorem s21_73 {a1 a2 a3 a4 : Option AV} {st : List AV} {m : MM} {x : Nat × Option Nat} : go 21 73 [some (.inr (.inr x)), a1, a2, a3, a4] st m = go 21 74 [some (.inr (.inr x)), a1, a2, a3, a4] (.inr (.inr x) :: st) m := e_1 d21_73 (Or.inl rfl) rfl
theorem d21_74 : decode (mt 21).2.1 74 = .ok (.getfield 9, 3) := by decide +kernel
theorem s21_74 {ls : LV} {st : List AV} {m : MM} {n : Nat} : go 21 74 ls (.inr (.inr (5, some n)) :: st) m = go 21 77 ls (.inr (.inr (12, mR m 5 n 0)) :: st) m := e_1 d21_74 (Or.inl rfl) (by rw [xi, pA, show lk fdL (mt 21).2.2.1 9 = some (5, 0) by decide +kernel]; rfl)
theorem d21_77 : decode (mt 21).2.1 77 = .ok (.iload 4, 2) := by decide +kernel
theorem s21_77 {a0 a1 a2 a3 : Option AV} {st : List AV} {m : MM} {x : Int32} : go 21 77 [a0, a1, a2, a3, some (.inl x)] st m = go 21 79 [a0, a1, a2, a3, some (.inl x)] (.inl x :: st) m := e_1 d21_77 (Or.inl rfl) rfl
theorem d21_79 : decode (mt 21).2.1 79 = .ok (.iaload, 1) := by decide +kernel
theorem s21_79 {ls : LV} {st : List AV} {m : MM} {n : Nat} {i : Int32} : go 21 79 ls (.inl i :: .inr (.inr (12, some n)) :: st) m = ixk (ix i (mN m 12 n)) (fun j => go 21 80 ls (.inl (mI m 12 n j) :: st) m) := e_ald d21_79 (fun j hj => by simp only [xi, pI, pA, hj, Option.bind_some]; rfl) (fun hj => by simp only [xi, pI, pA, hj, Option.bind_none])
theorem d21_80 : decode (mt 21).2.1 80 = .ok (.iastore, 1) := by decide +kernel
theorem s21_80 {ls : LV} {st : List AV} {m : MM} {n : Nat} {i : Int32} {x : Int32} : go 21 80 ls (.inl x :: .inl i :: .inr (.inr (12, some n)) :: st) m = ixk (ix i (mN m 12 n)) (fun j => go 21 81 ls st (sI m 12 n j x)) := e_ald d21_80 (fun j hj => by simp only [xi, pI, pL, pR, pA, hj, Option.bind_some]; exact if_pos ⟨rfl, by decide⟩) (fun hj => by simp only [xi, pI, pL, pR, pA, hj, Option.bind_none])
theorem d21_81 : decode (mt 21).2.1 81 = .ok (.aload_n 0, 1) := by decide +kernel
theorem s21_81 {a1 a2 a3 a4 : Option AV} {st : List AV} {m : MM} {x : Nat × Option Nat} : go 21 81 [some (.inr (.inr x)), a1, a2, a3, a4] st m = go 21 82 [some (.inr (.inr x)), a1, a2, a3, a4] (.inr (.inr x) :: st) m := e_1 d21_81 (Or.inl rfl) rfl
theorem d21_82 : decode (mt 21).2.1 82 = .ok (.getfield 15, 3) := by decide +kernel
theorem s21_82 {ls : LV} {st : List AV} {m : MM} {n : Nat} : go 21 82 ls (.inr (.inr (5, some n)) :: st) m = go 21 85 ls (.inr (.inr (13, mR m 5 n 1)) :: st) m := e_1 d21_82 (Or.inl rfl) (by rw [xi, pA, show lk fdL (mt 21).2.2.1 15 = some (5, 1) by decide +kernel]; rfl)
theorem d21_85 : decode (mt 21).2.1 85 = .ok (.iload_n 2, 1) := by decide +kernel
theorem s21_85 {a0 a1 a3 a4 : Option AV} {st : List AV} {m : MM} {x : Int32} : go 21 85 [a0, a1, some (.inl x), a3, a4] st m = go 21 86 [a0, a1, some (.inl x), a3, a4] (.inl x :: st) m := e_1 d21_85 (Or.inl rfl) rfl
theorem d21_86 : decode (mt 21).2.1 86 = .ok (.iload 4, 2) := by decide +kernel
theorem s21_86 {a0 a1 a2 a3 : Option AV} {st : List AV} {m : MM} {x : Int32} : go 21 86 [a0, a1, a2, a3, some (.inl x)] st m = go 21 88 [a0, a1, a2, a3, some (.inl x)] (.inl x :: st) m := e_1 d21_86 (Or.inl rfl) rfl
theorem d21_88 : decode (mt 21).2.1 88 = .ok (.iadd, 1) := by decide +kernel
theorem s21_88 {ls : LV} {st : List AV} {m : MM} {a b : Int32} : go 21 88 ls (.inl b :: .inl a :: st) m = go 21 89 ls (.inl (a + b) :: st) m := e_1 d21_88 (Or.inl rfl) rfl
theorem d21_89 : decode (mt 21).2.1 89 = .ok (.iload_n 3, 1) := by decide +kernel
theorem s21_89 {a0 a1 a2 a4 : Option AV} {st : List AV} {m : MM} {x : Int32} : go 21 89 [a0, a1, a2, some (.inl x), a4] st m = go 21 90 [a0, a1, a2, some (.inl x), a4] (.inl x :: st) m := e_1 d21_89 (Or.inl rfl) rfl
theorem d21_90 : decode (mt 21).2.1 90 = .ok (.isub, 1) := by decide +kernel
theorem s21_90 {ls : LV} {st : List AV} {m : MM} {a b : Int32} : go 21 90 ls (.inl b :: .inl a :: st) m = go 21 91 ls (.inl (a - b) :: st) m := e_1 d21_90 (Or.inl rfl) rfl
theorem d21_91 : decode (mt 21).2.1 91 = .ok (.aload_n 0, 1) := by decide +kernel
theorem s21_91 {a1 a2 a3 a4 : Option AV} {st : List AV} {m : MM} {x : Nat × Option Nat} : go 21 91 [some (.inr (.inr x)), a1, a2, a3, a4] st m = go 21 92 [some (.inr (.inr x)), a1, a2, a3, a4] (.inr (.inr x) :: st) m := e_1 d21_91 (Or.inl rfl) rfl
theorem d21_92 : decode (mt 21).2.1 92 = .ok (.getfield 15, 3) := by decide +kernel
theorem s21_92 {ls : LV} {st : List AV} {m : MM} {n : Nat} : go 21 92 ls (.inr (.inr (5, some n)) :: st) m = go 21 95 ls (.inr (.inr (13, mR m 5 n 1)) :: st) m := e_1 d21_92 (Or.inl rfl) (by rw [xi, pA, show lk fdL (mt 21).2.2.1 15 = some (5, 1) by decide +kernel]; rfl)
theorem d21_95 : decode (mt 21).2.1 95 = .ok (.iload 4, 2) := by decide +kernel
theorem s21_95 {a0 a1 a2 a3 : Option AV} {st : List AV} {m : MM} {x : Int32} : go 21 95 [a0, a1, a2, a3, some (.inl x)] st m = go 21 97 [a0, a1, a2, a3, some (.inl x)] (.inl x :: st) m := e_1 d21_95 (Or.inl rfl) rfl
theorem d21_97 : decode (mt 21).2.1 97 = .ok (.laload, 1) := by decide +kernel
theorem s21_97 {ls : LV} {st : List AV} {m : MM} {n : Nat} {i : Int32} : go 21 97 ls (.inl i :: .inr (.inr (13, some n)) :: st) m = ixk (ix i (mN m 13 n)) (fun j => go 21 98 ls (.inr (.inl (mL m 13 n j)) :: st) m) := e_ald d21_97 (fun j hj => by simp only [xi, pI, pA, hj, Option.bind_some]; rfl) (fun hj => by simp only [xi, pI, pA, hj, Option.bind_none])
theorem d21_98 : decode (mt 21).2.1 98 = .ok (.lastore, 1) := by decide +kernel
theorem s21_98 {ls : LV} {st : List AV} {m : MM} {n : Nat} {i : Int32} {x : Int64} : go 21 98 ls (.inr (.inl x) :: .inl i :: .inr (.inr (13, some n)) :: st) m = ixk (ix i (mN m 13 n)) (fun j => go 21 99 ls st (sL m 13 n j x)) := e_ald d21_98 (fun j hj => by simp only [xi, pI, pL, pR, pA, hj, Option.bind_some]; exact if_pos rfl) (fun hj => by simp only [xi, pI, pL, pR, pA, hj, Option.bind_none])
theorem d21_99 : decode (mt 21).2.1 99 = .ok (.iinc 4 1, 3) := by decide +kernel
theorem s21_99i {a0 a1 a2 : Option AV} {z : Int32} {st : List AV} {m : MM} {x : Int32} : go 21 99 [a0, a1, a2, some (.inl z), some (.inl x)] st m = go 21 102 [a0, a1, a2, some (.inl z), some (.inl (x + 1))] st m := e_1 d21_99 (Or.inl rfl) rfl
theorem s21_99r {a0 a1 a2 : Option AV} {z : Nat × Option Nat} {st : List AV} {m : MM} {x : Int32} : go 21 99 [a0, a1, a2, some (.inr (.inr z)), some (.inl x)] st m = go 21 102 [a0, a1, a2, some (.inr (.inr z)), some (.inl (x + 1))] st m := e_1 d21_99 (Or.inl rfl) rfl
theorem s21_99n {a0 a1 a2 : Option AV} {st : List AV} {m : MM} {x : Int32} : go 21 99 [a0, a1, a2, none, some (.inl x)] st m = go 21 102 [a0, a1, a2, none, some (.inl (x + 1))] st m := e_1 d21_99 (Or.inl rfl) rfl
theorem d21_102 : decode (mt 21).2.1 102 = .ok (.goto (-48), 3) := by decide +kernel
theorem s21_102 {ls : LV} {st : List AV} {m : MM} : go 21 102 ls st m = go 21 54 ls st m := e_1 d21_102 (Or.inl rfl) (by rw [xi, jm_some (t := 54) (by decide)]; rfl)
theorem d21_105 : decode (mt 21).2.1 105 = .ok (.aload_n 0, 1) := by decide +kernel
theorem s21_105 {a1 a2 a3 a4 : Option AV} {st : List AV} {m : MM} {x : Nat × Option Nat} : go 21 105 [some (.inr (.inr x)), a1, a2, a3, a4] st m = go 21 106 [some (.inr (.inr x)), a1, a2, a3, a4] (.inr (.inr x) :: st) m := e_1 d21_105 (Or.inl rfl) rfl
theorem d21_106 : decode (mt 21).2.1 106 = .ok (.dup, 1) := by decide +kernel
theorem s21_106 {ls : LV} {st : List AV} {m : MM} {x : Nat × Option Nat} : go 21 106 ls (.inr (.inr x) :: st) m = go 21 107 ls (.inr (.inr x) :: .inr (.inr x) :: st) m := e_1 d21_106 (Or.inl rfl) rfl
theorem d21_107 : decode (mt 21).2.1 107 = .ok (.getfield 19, 3) := by decide +kernel
theorem s21_107 {ls : LV} {st : List AV} {m : MM} {n : Nat} : go 21 107 ls (.inr (.inr (5, some n)) :: st) m = go 21 110 ls (.inl (mI m 5 n 2) :: st) m := e_1 d21_107 (Or.inl rfl) (by rw [xi, pA, show lk fdL (mt 21).2.2.1 19 = some (5, 2) by decide +kernel]; rfl)
theorem d21_110 : decode (mt 21).2.1 110 = .ok (.iload_n 3, 1) := by decide +kernel
theorem s21_110 {a0 a1 a2 a4 : Option AV} {st : List AV} {m : MM} {x : Int32} : go 21 110 [a0, a1, a2, some (.inl x), a4] st m = go 21 111 [a0, a1, a2, some (.inl x), a4] (.inl x :: st) m := e_1 d21_110 (Or.inl rfl) rfl
theorem d21_111 : decode (mt 21).2.1 111 = .ok (.iload_n 2, 1) := by decide +kernel
theorem s21_111 {a0 a1 a3 a4 : Option AV} {st : List AV} {m : MM} {x : Int32} : go 21 111 [a0, a1, some (.inl x), a3, a4] st m = go 21 112 [a0, a1, some (.inl x), a3, a4] (.inl x :: st) m := e_1 d21_111 (Or.inl rfl) rfl
theorem d21_112 : decode (mt 21).2.1 112 = .ok (.isub, 1) := by decide +kernel
theorem s21_112 {ls : LV} {st : List AV} {m : MM} {a b : Int32} : go 21 112 ls (.inl b :: .inl a :: st) m = go 21 113 ls (.inl (a - b) :: st) m := e_1 d21_112 (Or.inl rfl) rfl
theorem d21_113 : decode (mt 21).2.1 113 = .ok (.isub, 1) := by decide +kernel
theorem s21_113 {ls : LV} {st : List AV} {m : MM} {a b : Int32} : go 21 113 ls (.inl b :: .inl a :: st) m = go 21 114 ls (.inl (a - b) :: st) m := e_1 d21_113 (Or.inl rfl) rfl
theorem d21_114 : decode (mt 21).2.1 114 = .ok (.putfield 19, 3) := by decide +kernel
theorem s21_114 {ls : LV} {st : List AV} {m : MM} {n : Nat} {x : Int32} : go 21 114 ls (.inl x :: .inr (.inr (5, some n)) :: st) m = go 21 117 ls st (sI m 5 n 2 x) := e_put (r := 5) (f := 2) d21_114 (by decide +kernel) rfl (by decide +kernel)
theorem d21_117 : decode (mt 21).2.1 117 = .ok (.return_, 1) := by decide +kernel
theorem s21_117 {ls : LV} {m : MM} : go 21 117 ls [] m = some (none, m) := e_void d21_117 (by decide +kernel)
