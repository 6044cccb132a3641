/-! printed by wip/gen/eqs.py: the instructions of these methods, an equation each -/
/-! X6_init: 37 -/
theorem d37_0 : decode (mt 37).2.1 0 = .ok (.aload_n 0, 1) := by decide +kernel
theorem s37_0 {st : List AV} {m : MM} {x : Nat × Option Nat} : go 37 0 [some (.inr (.inr x))] st m = go 37 1 [some (.inr (.inr x))] (.inr (.inr x) :: st) m := e_1 d37_0 (Or.inl rfl) rfl
theorem d37_1 : decode (mt 37).2.1 1 = .ok (.invokespecial 3, 3) := by decide +kernel
theorem s37_1 {ls : LV} {m : MM} {u n : Nat} : go 37 1 ls (.inr (.inr (u, some n)) :: []) m = go 37 4 ls [] m := e_obj d37_1 (by decide +kernel) (cats_le (Nat.le_of_ble_eq_true rfl)) (by decide +kernel)
theorem d37_4 : decode (mt 37).2.1 4 = .ok (.aload_n 0, 1) := by decide +kernel
theorem s37_4 {st : List AV} {m : MM} {x : Nat × Option Nat} : go 37 4 [some (.inr (.inr x))] st m = go 37 5 [some (.inr (.inr x))] (.inr (.inr x) :: st) m := e_1 d37_4 (Or.inl rfl) rfl
theorem d37_5 : decode (mt 37).2.1 5 = .ok (.bipush 32, 2) := by decide +kernel
theorem s37_5 {ls : LV} {st : List AV} {m : MM} : go 37 5 ls st m = go 37 7 ls (.inl 32 :: st) m := e_1 d37_5 (Or.inl rfl) rfl
theorem d37_7 : decode (mt 37).2.1 7 = .ok (.anewarray 9, 3) := by decide +kernel
theorem s37_7k1 {ls : LV} {st : List AV} {m : MM} : go 37 7 ls (.inl 1 :: st) m = go 37 10 ls (.inr (.inr (16, some (mC m 16))) :: st) (al m 16 1 1) := e_1 d37_7 (Or.inl rfl) (by rw [xi, pI, show lk naL 37 7 = some 16 by decide +kernel, Option.bind_some, show lk nwL (mt 37).2.2.1 9 = some 6 by decide +kernel, Option.bind_some, if_pos ⟨by decide, by decide, by decide⟩]; rfl)
theorem s37_7k16 {ls : LV} {st : List AV} {m : MM} : go 37 7 ls (.inl 16 :: st) m = go 37 10 ls (.inr (.inr (16, some (mC m 16))) :: st) (al m 16 16 16) := e_1 d37_7 (Or.inl rfl) (by rw [xi, pI, show lk naL 37 7 = some 16 by decide +kernel, Option.bind_some, show lk nwL (mt 37).2.2.1 9 = some 6 by decide +kernel, Option.bind_some, if_pos ⟨by decide, by decide, by decide⟩]; rfl)
theorem s37_7k32 {ls : LV} {st : List AV} {m : MM} : go 37 7 ls (.inl 32 :: st) m = go 37 10 ls (.inr (.inr (16, some (mC m 16))) :: st) (al m 16 32 32) := e_1 d37_7 (Or.inl rfl) (by rw [xi, pI, show lk naL 37 7 = some 16 by decide +kernel, Option.bind_some, show lk nwL (mt 37).2.2.1 9 = some 6 by decide +kernel, Option.bind_some, if_pos ⟨by decide, by decide, by decide⟩]; rfl)
theorem s37_7k160 {ls : LV} {st : List AV} {m : MM} : go 37 7 ls (.inl 160 :: st) m = go 37 10 ls (.inr (.inr (16, some (mC m 16))) :: st) (al m 16 160 160) := e_1 d37_7 (Or.inl rfl) (by rw [xi, pI, show lk naL 37 7 = some 16 by decide +kernel, Option.bind_some, show lk nwL (mt 37).2.2.1 9 = some 6 by decide +kernel, Option.bind_some, if_pos ⟨by decide, by decide, by decide⟩]; rfl)
theorem d37_10 : decode (mt 37).2.1 10 = .ok (.putfield 11, 3) := by decide +kernel
theorem s37_10r {ls : LV} {st : List AV} {m : MM} {n : Nat} {p : Option Nat} : go 37 10 ls (.inr (.inr (16, p)) :: .inr (.inr (7, some n)) :: st) m = go 37 13 ls st (sR m 7 n 0 p) := e_put (r := 7) (f := 0) d37_10 (by decide +kernel) (by simp [fc, tk, ek, ekL, fk, fkL]) (by decide +kernel)
theorem s37_10n {ls : LV} {st : List AV} {m : MM} {n w : Nat} : go 37 10 ls (.inr (.inr (w, none)) :: .inr (.inr (7, some n)) :: st) m = go 37 13 ls st (sR m 7 n 0 none) := e_put (r := 7) (f := 0) d37_10 (by decide +kernel) (by simp [fc, tk, ek, ekL, fk, fkL]) (by decide +kernel)
theorem d37_13 : decode (mt 37).2.1 13 = .ok (.aload_n 0, 1) := by decide +kernel
theorem s37_13 {st : List AV} {m : MM} {x : Nat × Option Nat} : go 37 13 [some (.inr (.inr x))] st m = go 37 14 [some (.inr (.inr x))] (.inr (.inr x) :: st) m := e_1 d37_13 (Or.inl rfl) rfl
theorem d37_14 : decode (mt 37).2.1 14 = .ok (.sipush 160, 3) := by decide +kernel
theorem s37_14 {ls : LV} {st : List AV} {m : MM} : go 37 14 ls st m = go 37 17 ls (.inl 160 :: st) m := e_1 d37_14 (Or.inl rfl) rfl
theorem d37_17 : decode (mt 37).2.1 17 = .ok (.anewarray 15, 3) := by decide +kernel
theorem s37_17k1 {ls : LV} {st : List AV} {m : MM} : go 37 17 ls (.inl 1 :: st) m = go 37 20 ls (.inr (.inr (17, some (mC m 17))) :: st) (al m 17 1 1) := e_1 d37_17 (Or.inl rfl) (by rw [xi, pI, show lk naL 37 17 = some 17 by decide +kernel, Option.bind_some, show lk nwL (mt 37).2.2.1 15 = some 1 by decide +kernel, Option.bind_some, if_pos ⟨by decide, by decide, by decide⟩]; rfl)
theorem s37_17k16 {ls : LV} {st : List AV} {m : MM} : go 37 17 ls (.inl 16 :: st) m = go 37 20 ls (.inr (.inr (17, some (mC m 17))) :: st) (al m 17 16 16) := e_1 d37_17 (Or.inl rfl) (by rw [xi, pI, show lk naL 37 17 = some 17 by decide +kernel, Option.bind_some, show lk nwL (mt 37).2.2.1 15 = some 1 by decide +kernel, Option.bind_some, if_pos ⟨by decide, by decide, by decide⟩]; rfl)
theorem s37_17k32 {ls : LV} {st : List AV} {m : MM} : go 37 17 ls (.inl 32 :: st) m = go 37 20 ls (.inr (.inr (17, some (mC m 17))) :: st) (al m 17 32 32) := e_1 d37_17 (Or.inl rfl) (by rw [xi, pI, show lk naL 37 17 = some 17 by decide +kernel, Option.bind_some, show lk nwL (mt 37).2.2.1 15 = some 1 by decide +kernel, Option.bind_some, if_pos ⟨by decide, by decide, by decide⟩]; rfl)
theorem s37_17k160 {ls : LV} {st : List AV} {m : MM} : go 37 17 ls (.inl 160 :: st) m = go 37 20 ls (.inr (.inr (17, some (mC m 17))) :: st) (al m 17 160 160) := e_1 d37_17 (Or.inl rfl) (by rw [xi, pI, show lk naL 37 17 = some 17 by decide +kernel, Option.bind_some, show lk nwL (mt 37).2.2.1 15 = some 1 by decide +kernel, Option.bind_some, if_pos ⟨by decide, by decide, by decide⟩]; rfl)
theorem d37_20 : decode (mt 37).2.1 20 = .ok (.putfield 17, 3) := by decide +kernel
theorem s37_20r {ls : LV} {st : List AV} {m : MM} {n : Nat} {p : Option Nat} : go 37 20 ls (.inr (.inr (17, p)) :: .inr (.inr (7, some n)) :: st) m = go 37 23 ls st (sR m 7 n 2 p) := e_put (r := 7) (f := 2) d37_20 (by decide +kernel) (by simp [fc, tk, ek, ekL, fk, fkL]) (by decide +kernel)
theorem s37_20n {ls : LV} {st : List AV} {m : MM} {n w : Nat} : go 37 20 ls (.inr (.inr (w, none)) :: .inr (.inr (7, some n)) :: st) m = go 37 23 ls st (sR m 7 n 2 none) := e_put (r := 7) (f := 2) d37_20 (by decide +kernel) (by simp [fc, tk, ek, ekL, fk, fkL]) (by decide +kernel)
theorem d37_23 : decode (mt 37).2.1 23 = .ok (.aload_n 0, 1) := by decide +kernel
theorem s37_23 {st : List AV} {m : MM} {x : Nat × Option Nat} : go 37 23 [some (.inr (.inr x))] st m = go 37 24 [some (.inr (.inr x))] (.inr (.inr x) :: st) m := e_1 d37_23 (Or.inl rfl) rfl
theorem d37_24 : decode (mt 37).2.1 24 = .ok (.bipush 16, 2) := by decide +kernel
theorem s37_24 {ls : LV} {st : List AV} {m : MM} : go 37 24 ls st m = go 37 26 ls (.inl 16 :: st) m := e_1 d37_24 (Or.inl rfl) rfl
theorem d37_26 : decode (mt 37).2.1 26 = .ok (.newarray .int, 2) := by decide +kernel
theorem s37_26k1 {ls : LV} {st : List AV} {m : MM} : go 37 26 ls (.inl 1 :: st) m = go 37 28 ls (.inr (.inr (18, some (mC m 18))) :: st) (al m 18 1 1) := e_1 d37_26 (Or.inl rfl) (by rw [xi, pI, show lk naL 37 26 = some 18 by decide +kernel, Option.bind_some, if_pos ⟨by decide, by decide, by decide, by decide⟩]; rfl)
theorem s37_26k16 {ls : LV} {st : List AV} {m : MM} : go 37 26 ls (.inl 16 :: st) m = go 37 28 ls (.inr (.inr (18, some (mC m 18))) :: st) (al m 18 16 16) := e_1 d37_26 (Or.inl rfl) (by rw [xi, pI, show lk naL 37 26 = some 18 by decide +kernel, Option.bind_some, if_pos ⟨by decide, by decide, by decide, by decide⟩]; rfl)
theorem s37_26k32 {ls : LV} {st : List AV} {m : MM} : go 37 26 ls (.inl 32 :: st) m = go 37 28 ls (.inr (.inr (18, some (mC m 18))) :: st) (al m 18 32 32) := e_1 d37_26 (Or.inl rfl) (by rw [xi, pI, show lk naL 37 26 = some 18 by decide +kernel, Option.bind_some, if_pos ⟨by decide, by decide, by decide, by decide⟩]; rfl)
theorem s37_26k160 {ls : LV} {st : List AV} {m : MM} : go 37 26 ls (.inl 160 :: st) m = go 37 28 ls (.inr (.inr (18, some (mC m 18))) :: st) (al m 18 160 160) := e_1 d37_26 (Or.inl rfl) (by rw [xi, pI, show lk naL 37 26 = some 18 by decide +kernel, Option.bind_some, if_pos ⟨by decide, by decide, by decide, by decide⟩]; rfl)
theorem d37_28 : decode (mt 37).2.1 28 = .ok (.putfield 21, 3) := by decide +kernel
theorem s37_28r {ls : LV} {st : List AV} {m : MM} {n : Nat} {p : Option Nat} : go 37 28 ls (.inr (.inr (18, p)) :: .inr (.inr (7, some n)) :: st) m = go 37 31 ls st (sR m 7 n 4 p) := e_put (r := 7) (f := 4) d37_28 (by decide +kernel) (by simp [fc, tk, ek, ekL, fk, fkL]) (by decide +kernel)
theorem s37_28n {ls : LV} {st : List AV} {m : MM} {n w : Nat} : go 37 28 ls (.inr (.inr (w, none)) :: .inr (.inr (7, some n)) :: st) m = go 37 31 ls st (sR m 7 n 4 none) := e_put (r := 7) (f := 4) d37_28 (by decide +kernel) (by simp [fc, tk, ek, ekL, fk, fkL]) (by decide +kernel)
theorem d37_31 : decode (mt 37).2.1 31 = .ok (.aload_n 0, 1) := by decide +kernel
theorem s37_31 {st : List AV} {m : MM} {x : Nat × Option Nat} : go 37 31 [some (.inr (.inr x))] st m = go 37 32 [some (.inr (.inr x))] (.inr (.inr x) :: st) m := e_1 d37_31 (Or.inl rfl) rfl
theorem d37_32 : decode (mt 37).2.1 32 = .ok (.new 25, 3) := by decide +kernel
theorem s37_32 {ls : LV} {st : List AV} {m : MM} : go 37 32 ls st m = go 37 35 ls (.inr (.inr (3, some (mC m 3))) :: st) (al m 3 0 4) := e_1 d37_32 (Or.inl rfl) (by rw [xi, show lk nwL (mt 37).2.2.1 25 = some 3 by decide +kernel]; rfl)
theorem d37_35 : decode (mt 37).2.1 35 = .ok (.dup, 1) := by decide +kernel
theorem s37_35 {ls : LV} {st : List AV} {m : MM} {x : Nat × Option Nat} : go 37 35 ls (.inr (.inr x) :: st) m = go 37 36 ls (.inr (.inr x) :: .inr (.inr x) :: st) m := e_1 d37_35 (Or.inl rfl) rfl
theorem d37_36 : decode (mt 37).2.1 36 = .ok (.invokespecial 27, 3) := by decide +kernel
theorem s37_36 {ls : LV} {m : MM} {w0 w1 : AV} {n : Nat} : go 37 36 ls [.inr (.inr (3, some n)), w0, w1] m = bd (go 8 0 [some (.inr (.inr (3, some n)))] [] m) (fun v m2 => go 37 39 ls (v.toList ++ [w0, w1]) m2) := e_spec (y1 := 8) (na := 0) (as := []) (rest := [w0, w1]) d37_36 (by decide +kernel) rfl (by decide +kernel) (show (ent [.inr (.inr (3, some n))]).length ≤ (mt 8).2.2.2.1 from Nat.le_of_ble_eq_true rfl) (cats_le (Nat.le_of_ble_eq_true rfl)) (by decide +kernel)
theorem d37_39 : decode (mt 37).2.1 39 = .ok (.putfield 28, 3) := by decide +kernel
theorem s37_39r {ls : LV} {st : List AV} {m : MM} {n : Nat} {p : Option Nat} : go 37 39 ls (.inr (.inr (3, p)) :: .inr (.inr (7, some n)) :: st) m = go 37 42 ls st (sR m 7 n 6 p) := e_put (r := 7) (f := 6) d37_39 (by decide +kernel) (by simp [fc, tk, ek, ekL, fk, fkL]) (by decide +kernel)
theorem s37_39n {ls : LV} {st : List AV} {m : MM} {n w : Nat} : go 37 39 ls (.inr (.inr (w, none)) :: .inr (.inr (7, some n)) :: st) m = go 37 42 ls st (sR m 7 n 6 none) := e_put (r := 7) (f := 6) d37_39 (by decide +kernel) (by simp [fc, tk, ek, ekL, fk, fkL]) (by decide +kernel)
theorem d37_42 : decode (mt 37).2.1 42 = .ok (.aload_n 0, 1) := by decide +kernel
theorem s37_42 {st : List AV} {m : MM} {x : Nat × Option Nat} : go 37 42 [some (.inr (.inr x))] st m = go 37 43 [some (.inr (.inr x))] (.inr (.inr x) :: st) m := e_1 d37_42 (Or.inl rfl) rfl
theorem d37_43 : decode (mt 37).2.1 43 = .ok (.new 32, 3) := by decide +kernel
theorem s37_43 {ls : LV} {st : List AV} {m : MM} : go 37 43 ls st m = go 37 46 ls (.inr (.inr (2, some (mC m 2))) :: st) (al m 2 0 5) := e_1 d37_43 (Or.inl rfl) (by rw [xi, show lk nwL (mt 37).2.2.1 32 = some 2 by decide +kernel]; rfl)
theorem d37_46 : decode (mt 37).2.1 46 = .ok (.dup, 1) := by decide +kernel
theorem s37_46 {ls : LV} {st : List AV} {m : MM} {x : Nat × Option Nat} : go 37 46 ls (.inr (.inr x) :: st) m = go 37 47 ls (.inr (.inr x) :: .inr (.inr x) :: st) m := e_1 d37_46 (Or.inl rfl) rfl
theorem d37_47 : decode (mt 37).2.1 47 = .ok (.invokespecial 34, 3) := by decide +kernel
theorem s37_47 {ls : LV} {m : MM} {w0 w1 : AV} {n : Nat} : go 37 47 ls [.inr (.inr (2, some n)), w0, w1] m = bd (go 5 0 [some (.inr (.inr (2, some n)))] [] m) (fun v m2 => go 37 50 ls (v.toList ++ [w0, w1]) m2) := e_spec (y1 := 5) (na := 0) (as := []) (rest := [w0, w1]) d37_47 (by decide +kernel) rfl (by decide +kernel) (show (ent [.inr (.inr (2, some n))]).length ≤ (mt 5).2.2.2.1 from Nat.le_of_ble_eq_true rfl) (cats_le (Nat.le_of_ble_eq_true rfl)) (by decide +kernel)
theorem d37_50 : decode (mt 37).2.1 50 = .ok (.putfield 35, 3) := by decide +kernel
theorem s37_50r {ls : LV} {st : List AV} {m : MM} {n : Nat} {p : Option Nat} : go 37 50 ls (.inr (.inr (2, p)) :: .inr (.inr (7, some n)) :: st) m = go 37 53 ls st (sR m 7 n 7 p) := e_put (r := 7) (f := 7) d37_50 (by decide +kernel) (by simp [fc, tk, ek, ekL, fk, fkL]) (by decide +kernel)
theorem s37_50n {ls : LV} {st : List AV} {m : MM} {n w : Nat} : go 37 50 ls (.inr (.inr (w, none)) :: .inr (.inr (7, some n)) :: st) m = go 37 53 ls st (sR m 7 n 7 none) := e_put (r := 7) (f := 7) d37_50 (by decide +kernel) (by simp [fc, tk, ek, ekL, fk, fkL]) (by decide +kernel)
theorem d37_53 : decode (mt 37).2.1 53 = .ok (.aload_n 0, 1) := by decide +kernel
theorem s37_53 {st : List AV} {m : MM} {x : Nat × Option Nat} : go 37 53 [some (.inr (.inr x))] st m = go 37 54 [some (.inr (.inr x))] (.inr (.inr x) :: st) m := e_1 d37_53 (Or.inl rfl) rfl
theorem d37_54 : decode (mt 37).2.1 54 = .ok (.iconst 1, 1) := by decide +kernel
theorem s37_54 {ls : LV} {st : List AV} {m : MM} : go 37 54 ls st m = go 37 55 ls (.inl 1 :: st) m := e_1 d37_54 (Or.inl rfl) rfl
theorem d37_55 : decode (mt 37).2.1 55 = .ok (.putfield 39, 3) := by decide +kernel
theorem s37_55 {ls : LV} {st : List AV} {m : MM} {n : Nat} {x : Int32} : go 37 55 ls (.inl x :: .inr (.inr (7, some n)) :: st) m = go 37 58 ls st (sI m 7 n 8 x) := e_put (r := 7) (f := 8) d37_55 (by decide +kernel) rfl (by decide +kernel)
theorem d37_58 : decode (mt 37).2.1 58 = .ok (.return_, 1) := by decide +kernel
theorem s37_58 {ls : LV} {m : MM} : go 37 58 ls [] m = some (none, m) := e_void d37_58 (by decide +kernel)
/-! X6_peer: 38 -/
theorem d38_0 : decode (mt 38).2.1 0 = .ok (.iload_n 2, 1) := by decide +kernel
theorem s38_0 {a0 a1 : Option AV} {st : List AV} {m : MM} {x : Int32} : go 38 0 [a0, a1, some (.inl x)] st m = go 38 1 [a0, a1, some (.inl x)] (.inl x :: st) m := e_1 d38_0 (Or.inl rfl) rfl
theorem d38_1 : decode (mt 38).2.1 1 = .ok (.ifCond .lt 18, 3) := by decide +kernel
theorem s38_1 {ls : LV} {st : List AV} {m : MM} {a : Int32} : go 38 1 ls (.inl a :: st) m = if a < 0 then go 38 19 ls st m else go 38 4 ls st m := e_if (t := 19) (b := hc .lt a 0) d38_1 (Or.inl rfl) (by simp only [xi, pI, jm_some (t := 19) (show ((1 : Nat) : Int) + 18 = ((19 : Nat) : Int) by decide), Option.bind_some]) (by simp [hc])
theorem d38_4 : decode (mt 38).2.1 4 = .ok (.iload_n 2, 1) := by decide +kernel
theorem s38_4 {a0 a1 : Option AV} {st : List AV} {m : MM} {x : Int32} : go 38 4 [a0, a1, some (.inl x)] st m = go 38 5 [a0, a1, some (.inl x)] (.inl x :: st) m := e_1 d38_4 (Or.inl rfl) rfl
theorem d38_5 : decode (mt 38).2.1 5 = .ok (.sipush 255, 3) := by decide +kernel
theorem s38_5 {ls : LV} {st : List AV} {m : MM} : go 38 5 ls st m = go 38 8 ls (.inl 255 :: st) m := e_1 d38_5 (Or.inl rfl) rfl
theorem d38_8 : decode (mt 38).2.1 8 = .ok (.if_icmp .gt 11, 3) := by decide +kernel
theorem s38_8 {ls : LV} {st : List AV} {m : MM} {a b : Int32} : go 38 8 ls (.inl b :: .inl a :: st) m = if b < a then go 38 19 ls st m else go 38 11 ls st m := e_if (t := 19) (b := hc .gt a b) d38_8 (Or.inl rfl) (by simp only [xi, pI, jm_some (t := 19) (show ((8 : Nat) : Int) + 11 = ((19 : Nat) : Int) by decide), Option.bind_some]) (by simp [hc])
theorem d38_11 : decode (mt 38).2.1 11 = .ok (.aload_n 0, 1) := by decide +kernel
theorem s38_11 {a1 a2 : Option AV} {st : List AV} {m : MM} {x : Nat × Option Nat} : go 38 11 [some (.inr (.inr x)), a1, a2] st m = go 38 12 [some (.inr (.inr x)), a1, a2] (.inr (.inr x) :: st) m := e_1 d38_11 (Or.inl rfl) rfl
theorem d38_12 : decode (mt 38).2.1 12 = .ok (.iload_n 1, 1) := by decide +kernel
theorem s38_12 {a0 a2 : Option AV} {st : List AV} {m : MM} {x : Int32} : go 38 12 [a0, some (.inl x), a2] st m = go 38 13 [a0, some (.inl x), a2] (.inl x :: st) m := e_1 d38_12 (Or.inl rfl) rfl
theorem d38_13 : decode (mt 38).2.1 13 = .ok (.invokevirtual 43, 3) := by decide +kernel
theorem s38_13 {ls : LV} {m : MM} {x0 : Int32} {n : Nat} : go 38 13 ls [.inl x0, .inr (.inr (7, some n))] m = bd (go 42 0 [some (.inr (.inr (7, some n))), some (.inl x0), none] [] m) (fun v m2 => go 38 16 ls (v.toList ++ []) m2) := e_virt (y1 := 42) (na := 1) (as := [.inl x0]) (rest := []) d38_13 (by decide +kernel) rfl (by decide +kernel) (show (ent [.inr (.inr (7, some n)), .inl x0]).length ≤ (mt 42).2.2.2.1 from Nat.le_of_ble_eq_true rfl) (cats_le (Nat.le_of_ble_eq_true rfl)) (by decide +kernel)
theorem d38_16 : decode (mt 38).2.1 16 = .ok (.ifCond .eq 5, 3) := by decide +kernel
theorem s38_16 {ls : LV} {st : List AV} {m : MM} {a : Int32} : go 38 16 ls (.inl a :: st) m = if a = 0 then go 38 21 ls st m else go 38 19 ls st m := e_if (t := 21) (b := hc .eq a 0) d38_16 (Or.inl rfl) (by simp only [xi, pI, jm_some (t := 21) (show ((16 : Nat) : Int) + 5 = ((21 : Nat) : Int) by decide), Option.bind_some]) (by simp [hc])
theorem d38_19 : decode (mt 38).2.1 19 = .ok (.iconst (-1), 1) := by decide +kernel
theorem s38_19 {ls : LV} {st : List AV} {m : MM} : go 38 19 ls st m = go 38 20 ls (.inl (-1) :: st) m := e_1 d38_19 (Or.inl rfl) rfl
theorem d38_20 : decode (mt 38).2.1 20 = .ok (.ireturn, 1) := by decide +kernel
theorem s38_20 {ls : LV} {m : MM} {x : Int32} : go 38 20 ls [.inl x] m = some (some (.inl x), m) := e_int d38_20 (by decide +kernel)
theorem d38_21 : decode (mt 38).2.1 21 = .ok (.aload_n 0, 1) := by decide +kernel
theorem s38_21 {a1 a2 : Option AV} {st : List AV} {m : MM} {x : Nat × Option Nat} : go 38 21 [some (.inr (.inr x)), a1, a2] st m = go 38 22 [some (.inr (.inr x)), a1, a2] (.inr (.inr x) :: st) m := e_1 d38_21 (Or.inl rfl) rfl
theorem d38_22 : decode (mt 38).2.1 22 = .ok (.iload_n 1, 1) := by decide +kernel
theorem s38_22 {a0 a2 : Option AV} {st : List AV} {m : MM} {x : Int32} : go 38 22 [a0, some (.inl x), a2] st m = go 38 23 [a0, some (.inl x), a2] (.inl x :: st) m := e_1 d38_22 (Or.inl rfl) rfl
theorem d38_23 : decode (mt 38).2.1 23 = .ok (.iload_n 2, 1) := by decide +kernel
theorem s38_23 {a0 a1 : Option AV} {st : List AV} {m : MM} {x : Int32} : go 38 23 [a0, a1, some (.inl x)] st m = go 38 24 [a0, a1, some (.inl x)] (.inl x :: st) m := e_1 d38_23 (Or.inl rfl) rfl
theorem d38_24 : decode (mt 38).2.1 24 = .ok (.invokevirtual 47, 3) := by decide +kernel
theorem s38_24 {ls : LV} {m : MM} {x0 : Int32} {x1 : Int32} {n : Nat} : go 38 24 ls [.inl x1, .inl x0, .inr (.inr (7, some n))] m = bd (go 41 0 [some (.inr (.inr (7, some n))), some (.inl x0), some (.inl x1)] [] m) (fun v m2 => go 38 27 ls (v.toList ++ []) m2) := e_virt (y1 := 41) (na := 2) (as := [.inl x0, .inl x1]) (rest := []) d38_24 (by decide +kernel) rfl (by decide +kernel) (show (ent [.inr (.inr (7, some n)), .inl x0, .inl x1]).length ≤ (mt 41).2.2.2.1 from Nat.le_of_ble_eq_true rfl) (cats_le (Nat.le_of_ble_eq_true rfl)) (by decide +kernel)
theorem d38_27 : decode (mt 38).2.1 27 = .ok (.ireturn, 1) := by decide +kernel
theorem s38_27 {ls : LV} {m : MM} {x : Int32} : go 38 27 ls [.inl x] m = some (some (.inl x), m) := e_int d38_27 (by decide +kernel)
/-! X6_drawn: 39 -/
theorem d39_0 : decode (mt 39).2.1 0 = .ok (.aload_n 0, 1) := by decide +kernel
theorem s39_0 {a1 a2 a3 : Option AV} {st : List AV} {m : MM} {x : Nat × Option Nat} : go 39 0 [some (.inr (.inr x)), a1, a2, a3] st m = go 39 1 [some (.inr (.inr x)), a1, a2, a3] (.inr (.inr x) :: st) m := e_1 d39_0 (Or.inl rfl) rfl
theorem d39_1 : decode (mt 39).2.1 1 = .ok (.iload_n 1, 1) := by decide +kernel
theorem s39_1 {a0 a2 a3 : Option AV} {st : List AV} {m : MM} {x : Int32} : go 39 1 [a0, some (.inl x), a2, a3] st m = go 39 2 [a0, some (.inl x), a2, a3] (.inl x :: st) m := e_1 d39_1 (Or.inl rfl) rfl
theorem d39_2 : decode (mt 39).2.1 2 = .ok (.invokevirtual 43, 3) := by decide +kernel
theorem s39_2 {ls : LV} {m : MM} {x0 : Int32} {n : Nat} : go 39 2 ls [.inl x0, .inr (.inr (7, some n))] m = bd (go 42 0 [some (.inr (.inr (7, some n))), some (.inl x0), none] [] m) (fun v m2 => go 39 5 ls (v.toList ++ []) m2) := e_virt (y1 := 42) (na := 1) (as := [.inl x0]) (rest := []) d39_2 (by decide +kernel) rfl (by decide +kernel) (show (ent [.inr (.inr (7, some n)), .inl x0]).length ≤ (mt 42).2.2.2.1 from Nat.le_of_ble_eq_true rfl) (cats_le (Nat.le_of_ble_eq_true rfl)) (by decide +kernel)
theorem d39_5 : decode (mt 39).2.1 5 = .ok (.ifCond .eq 5, 3) := by decide +kernel
theorem s39_5 {ls : LV} {st : List AV} {m : MM} {a : Int32} : go 39 5 ls (.inl a :: st) m = if a = 0 then go 39 10 ls st m else go 39 8 ls st m := e_if (t := 10) (b := hc .eq a 0) d39_5 (Or.inl rfl) (by simp only [xi, pI, jm_some (t := 10) (show ((5 : Nat) : Int) + 5 = ((10 : Nat) : Int) by decide), Option.bind_some]) (by simp [hc])
theorem d39_8 : decode (mt 39).2.1 8 = .ok (.iconst (-1), 1) := by decide +kernel
theorem s39_8 {ls : LV} {st : List AV} {m : MM} : go 39 8 ls st m = go 39 9 ls (.inl (-1) :: st) m := e_1 d39_8 (Or.inl rfl) rfl
theorem d39_9 : decode (mt 39).2.1 9 = .ok (.ireturn, 1) := by decide +kernel
theorem s39_9 {ls : LV} {m : MM} {x : Int32} : go 39 9 ls [.inl x] m = some (some (.inl x), m) := e_int d39_9 (by decide +kernel)
theorem d39_10 : decode (mt 39).2.1 10 = .ok (.aload_n 0, 1) := by decide +kernel
theorem s39_10 {a1 a2 a3 : Option AV} {st : List AV} {m : MM} {x : Nat × Option Nat} : go 39 10 [some (.inr (.inr x)), a1, a2, a3] st m = go 39 11 [some (.inr (.inr x)), a1, a2, a3] (.inr (.inr x) :: st) m := e_1 d39_10 (Or.inl rfl) rfl
theorem d39_11 : decode (mt 39).2.1 11 = .ok (.getfield 39, 3) := by decide +kernel
theorem s39_11 {ls : LV} {st : List AV} {m : MM} {n : Nat} : go 39 11 ls (.inr (.inr (7, some n)) :: st) m = go 39 14 ls (.inl (mI m 7 n 8) :: st) m := e_1 d39_11 (Or.inl rfl) (by rw [xi, pA, show lk fdL (mt 39).2.2.1 39 = some (7, 8) by decide +kernel]; rfl)
theorem d39_14 : decode (mt 39).2.1 14 = .ok (.ldc 51, 2) := by decide +kernel
theorem s39_14 {ls : LV} {st : List AV} {m : MM} : go 39 14 ls st m = go 39 16 ls (.inl 1103515245 :: st) m := e_1 d39_14 (Or.inl rfl) (by rw [xi, show lk ciL (mt 39).2.2.1 51 = some 1103515245 by decide +kernel]; rfl)
theorem d39_16 : decode (mt 39).2.1 16 = .ok (.imul, 1) := by decide +kernel
theorem s39_16 {ls : LV} {st : List AV} {m : MM} {a b : Int32} : go 39 16 ls (.inl b :: .inl a :: st) m = go 39 17 ls (.inl (a * b) :: st) m := e_1 d39_16 (Or.inl rfl) rfl
theorem d39_17 : decode (mt 39).2.1 17 = .ok (.sipush 12345, 3) := by decide +kernel
theorem s39_17 {ls : LV} {st : List AV} {m : MM} : go 39 17 ls st m = go 39 20 ls (.inl 12345 :: st) m := e_1 d39_17 (Or.inl rfl) rfl
theorem d39_20 : decode (mt 39).2.1 20 = .ok (.iadd, 1) := by decide +kernel
theorem s39_20 {ls : LV} {st : List AV} {m : MM} {a b : Int32} : go 39 20 ls (.inl b :: .inl a :: st) m = go 39 21 ls (.inl (a + b) :: st) m := e_1 d39_20 (Or.inl rfl) rfl
theorem d39_21 : decode (mt 39).2.1 21 = .ok (.istore_n 2, 1) := by decide +kernel
theorem s39_21i {a0 a2 a3 : Option AV} {z : Int32} {st : List AV} {m : MM} {x : Int32} : go 39 21 [a0, some (.inl z), a2, a3] (.inl x :: st) m = go 39 22 [a0, some (.inl z), some (.inl x), a3] st m := e_1 d39_21 (Or.inl rfl) rfl
theorem s39_21r {a0 a2 a3 : Option AV} {z : Nat × Option Nat} {st : List AV} {m : MM} {x : Int32} : go 39 21 [a0, some (.inr (.inr z)), a2, a3] (.inl x :: st) m = go 39 22 [a0, some (.inr (.inr z)), some (.inl x), a3] st m := e_1 d39_21 (Or.inl rfl) rfl
theorem s39_21n {a0 a2 a3 : Option AV} {st : List AV} {m : MM} {x : Int32} : go 39 21 [a0, none, a2, a3] (.inl x :: st) m = go 39 22 [a0, none, some (.inl x), a3] st m := e_1 d39_21 (Or.inl rfl) rfl
theorem d39_22 : decode (mt 39).2.1 22 = .ok (.aload_n 0, 1) := by decide +kernel
theorem s39_22 {a1 a2 a3 : Option AV} {st : List AV} {m : MM} {x : Nat × Option Nat} : go 39 22 [some (.inr (.inr x)), a1, a2, a3] st m = go 39 23 [some (.inr (.inr x)), a1, a2, a3] (.inr (.inr x) :: st) m := e_1 d39_22 (Or.inl rfl) rfl
theorem d39_23 : decode (mt 39).2.1 23 = .ok (.iload_n 1, 1) := by decide +kernel
theorem s39_23 {a0 a2 a3 : Option AV} {st : List AV} {m : MM} {x : Int32} : go 39 23 [a0, some (.inl x), a2, a3] st m = go 39 24 [a0, some (.inl x), a2, a3] (.inl x :: st) m := e_1 d39_23 (Or.inl rfl) rfl
theorem d39_24 : decode (mt 39).2.1 24 = .ok (.iload_n 2, 1) := by decide +kernel
theorem s39_24 {a0 a1 a3 : Option AV} {st : List AV} {m : MM} {x : Int32} : go 39 24 [a0, a1, some (.inl x), a3] st m = go 39 25 [a0, a1, some (.inl x), a3] (.inl x :: st) m := e_1 d39_24 (Or.inl rfl) rfl
theorem d39_25 : decode (mt 39).2.1 25 = .ok (.bipush 16, 2) := by decide +kernel
theorem s39_25 {ls : LV} {st : List AV} {m : MM} : go 39 25 ls st m = go 39 27 ls (.inl 16 :: st) m := e_1 d39_25 (Or.inl rfl) rfl
theorem d39_27 : decode (mt 39).2.1 27 = .ok (.ishr, 1) := by decide +kernel
theorem s39_27 {ls : LV} {st : List AV} {m : MM} {a b : Int32} : go 39 27 ls (.inl b :: .inl a :: st) m = go 39 28 ls (.inl (a >>> (b &&& 31)) :: st) m := e_1 d39_27 (Or.inl rfl) rfl
theorem d39_28 : decode (mt 39).2.1 28 = .ok (.sipush 255, 3) := by decide +kernel
theorem s39_28 {ls : LV} {st : List AV} {m : MM} : go 39 28 ls st m = go 39 31 ls (.inl 255 :: st) m := e_1 d39_28 (Or.inl rfl) rfl
theorem d39_31 : decode (mt 39).2.1 31 = .ok (.iand, 1) := by decide +kernel
theorem s39_31 {ls : LV} {st : List AV} {m : MM} {a b : Int32} : go 39 31 ls (.inl b :: .inl a :: st) m = go 39 32 ls (.inl (a &&& b) :: st) m := e_1 d39_31 (Or.inl rfl) rfl
theorem d39_32 : decode (mt 39).2.1 32 = .ok (.invokevirtual 47, 3) := by decide +kernel
theorem s39_32 {ls : LV} {m : MM} {x0 : Int32} {x1 : Int32} {n : Nat} : go 39 32 ls [.inl x1, .inl x0, .inr (.inr (7, some n))] m = bd (go 41 0 [some (.inr (.inr (7, some n))), some (.inl x0), some (.inl x1)] [] m) (fun v m2 => go 39 35 ls (v.toList ++ []) m2) := e_virt (y1 := 41) (na := 2) (as := [.inl x0, .inl x1]) (rest := []) d39_32 (by decide +kernel) rfl (by decide +kernel) (show (ent [.inr (.inr (7, some n)), .inl x0, .inl x1]).length ≤ (mt 41).2.2.2.1 from Nat.le_of_ble_eq_true rfl) (cats_le (Nat.le_of_ble_eq_true rfl)) (by decide +kernel)
theorem d39_35 : decode (mt 39).2.1 35 = .ok (.istore_n 3, 1) := by decide +kernel
theorem s39_35i {a0 a1 a3 : Option AV} {z : Int32} {st : List AV} {m : MM} {x : Int32} : go 39 35 [a0, a1, some (.inl z), a3] (.inl x :: st) m = go 39 36 [a0, a1, some (.inl z), some (.inl x)] st m := e_1 d39_35 (Or.inl rfl) rfl
theorem s39_35r {a0 a1 a3 : Option AV} {z : Nat × Option Nat} {st : List AV} {m : MM} {x : Int32} : go 39 35 [a0, a1, some (.inr (.inr z)), a3] (.inl x :: st) m = go 39 36 [a0, a1, some (.inr (.inr z)), some (.inl x)] st m := e_1 d39_35 (Or.inl rfl) rfl
theorem s39_35n {a0 a1 a3 : Option AV} {st : List AV} {m : MM} {x : Int32} : go 39 35 [a0, a1, none, a3] (.inl x :: st) m = go 39 36 [a0, a1, none, some (.inl x)] st m := e_1 d39_35 (Or.inl rfl) rfl
theorem d39_36 : decode (mt 39).2.1 36 = .ok (.iload_n 3, 1) := by decide +kernel
theorem s39_36 {a0 a1 a2 : Option AV} {st : List AV} {m : MM} {x : Int32} : go 39 36 [a0, a1, a2, some (.inl x)] st m = go 39 37 [a0, a1, a2, some (.inl x)] (.inl x :: st) m := e_1 d39_36 (Or.inl rfl) rfl
theorem d39_37 : decode (mt 39).2.1 37 = .ok (.bipush (-3), 2) := by decide +kernel
theorem s39_37 {ls : LV} {st : List AV} {m : MM} : go 39 37 ls st m = go 39 39 ls (.inl (-3) :: st) m := e_1 d39_37 (Or.inl rfl) rfl
theorem d39_39 : decode (mt 39).2.1 39 = .ok (.if_icmp .eq 8, 3) := by decide +kernel
theorem s39_39 {ls : LV} {st : List AV} {m : MM} {a b : Int32} : go 39 39 ls (.inl b :: .inl a :: st) m = if a = b then go 39 47 ls st m else go 39 42 ls st m := e_if (t := 47) (b := hc .eq a b) d39_39 (Or.inl rfl) (by simp only [xi, pI, jm_some (t := 47) (show ((39 : Nat) : Int) + 8 = ((47 : Nat) : Int) by decide), Option.bind_some]) (by simp [hc])
theorem d39_42 : decode (mt 39).2.1 42 = .ok (.aload_n 0, 1) := by decide +kernel
theorem s39_42 {a1 a2 a3 : Option AV} {st : List AV} {m : MM} {x : Nat × Option Nat} : go 39 42 [some (.inr (.inr x)), a1, a2, a3] st m = go 39 43 [some (.inr (.inr x)), a1, a2, a3] (.inr (.inr x) :: st) m := e_1 d39_42 (Or.inl rfl) rfl
theorem d39_43 : decode (mt 39).2.1 43 = .ok (.iload_n 2, 1) := by decide +kernel
theorem s39_43 {a0 a1 a3 : Option AV} {st : List AV} {m : MM} {x : Int32} : go 39 43 [a0, a1, some (.inl x), a3] st m = go 39 44 [a0, a1, some (.inl x), a3] (.inl x :: st) m := e_1 d39_43 (Or.inl rfl) rfl
theorem d39_44 : decode (mt 39).2.1 44 = .ok (.putfield 39, 3) := by decide +kernel
theorem s39_44 {ls : LV} {st : List AV} {m : MM} {n : Nat} {x : Int32} : go 39 44 ls (.inl x :: .inr (.inr (7, some n)) :: st) m = go 39 47 ls st (sI m 7 n 8 x) := e_put (r := 7) (f := 8) d39_44 (by decide +kernel) rfl (by decide +kernel)
theorem d39_47 : decode (mt 39).2.1 47 = .ok (.iload_n 3, 1) := by decide +kernel
theorem s39_47 {a0 a1 a2 : Option AV} {st : List AV} {m : MM} {x : Int32} : go 39 47 [a0, a1, a2, some (.inl x)] st m = go 39 48 [a0, a1, a2, some (.inl x)] (.inl x :: st) m := e_1 d39_47 (Or.inl rfl) rfl
theorem d39_48 : decode (mt 39).2.1 48 = .ok (.ireturn, 1) := by decide +kernel
theorem s39_48 {ls : LV} {m : MM} {x : Int32} : go 39 48 ls [.inl x] m = some (some (.inl x), m) := e_int d39_48 (by decide +kernel)
/-! X6_seed: 40 -/
theorem d40_0 : decode (mt 40).2.1 0 = .ok (.aload_n 0, 1) := by decide +kernel
theorem s40_0 {a1 : Option AV} {st : List AV} {m : MM} {x : Nat × Option Nat} : go 40 0 [some (.inr (.inr x)), a1] st m = go 40 1 [some (.inr (.inr x)), a1] (.inr (.inr x) :: st) m := e_1 d40_0 (Or.inl rfl) rfl
theorem d40_1 : decode (mt 40).2.1 1 = .ok (.iload_n 1, 1) := by decide +kernel
theorem s40_1 {a0 : Option AV} {st : List AV} {m : MM} {x : Int32} : go 40 1 [a0, some (.inl x)] st m = go 40 2 [a0, some (.inl x)] (.inl x :: st) m := e_1 d40_1 (Or.inl rfl) rfl
theorem d40_2 : decode (mt 40).2.1 2 = .ok (.putfield 39, 3) := by decide +kernel
theorem s40_2 {ls : LV} {st : List AV} {m : MM} {n : Nat} {x : Int32} : go 40 2 ls (.inl x :: .inr (.inr (7, some n)) :: st) m = go 40 5 ls st (sI m 7 n 8 x) := e_put (r := 7) (f := 8) d40_2 (by decide +kernel) rfl (by decide +kernel)
theorem d40_5 : decode (mt 40).2.1 5 = .ok (.iconst 1, 1) := by decide +kernel
theorem s40_5 {ls : LV} {st : List AV} {m : MM} : go 40 5 ls st m = go 40 6 ls (.inl 1 :: st) m := e_1 d40_5 (Or.inl rfl) rfl
theorem d40_6 : decode (mt 40).2.1 6 = .ok (.ireturn, 1) := by decide +kernel
theorem s40_6 {ls : LV} {m : MM} {x : Int32} : go 40 6 ls [.inl x] m = some (some (.inl x), m) := e_int d40_6 (by decide +kernel)
/-! X6_addPeer: 41 -/
theorem d41_0 : decode (mt 41).2.1 0 = .ok (.aload_n 0, 1) := by decide +kernel
theorem s41_0 {a1 a2 : Option AV} {st : List AV} {m : MM} {x : Nat × Option Nat} : go 41 0 [some (.inr (.inr x)), a1, a2] st m = go 41 1 [some (.inr (.inr x)), a1, a2] (.inr (.inr x) :: st) m := e_1 d41_0 (Or.inl rfl) rfl
theorem d41_1 : decode (mt 41).2.1 1 = .ok (.getfield 52, 3) := by decide +kernel
theorem s41_1 {ls : LV} {st : List AV} {m : MM} {n : Nat} : go 41 1 ls (.inr (.inr (7, some n)) :: st) m = go 41 4 ls (.inl (mI m 7 n 1) :: st) m := e_1 d41_1 (Or.inl rfl) (by rw [xi, pA, show lk fdL (mt 41).2.2.1 52 = some (7, 1) by decide +kernel]; rfl)
theorem d41_4 : decode (mt 41).2.1 4 = .ok (.bipush 32, 2) := by decide +kernel
theorem s41_4 {ls : LV} {st : List AV} {m : MM} : go 41 4 ls st m = go 41 6 ls (.inl 32 :: st) m := e_1 d41_4 (Or.inl rfl) rfl
theorem d41_6 : decode (mt 41).2.1 6 = .ok (.if_icmp .lt 6, 3) := by decide +kernel
theorem s41_6 {ls : LV} {st : List AV} {m : MM} {a b : Int32} : go 41 6 ls (.inl b :: .inl a :: st) m = if a < b then go 41 12 ls st m else go 41 9 ls st m := e_if (t := 12) (b := hc .lt a b) d41_6 (Or.inl rfl) (by simp only [xi, pI, jm_some (t := 12) (show ((6 : Nat) : Int) + 6 = ((12 : Nat) : Int) by decide), Option.bind_some]) (by simp [hc])
theorem d41_9 : decode (mt 41).2.1 9 = .ok (.bipush (-3), 2) := by decide +kernel
theorem s41_9 {ls : LV} {st : List AV} {m : MM} : go 41 9 ls st m = go 41 11 ls (.inl (-3) :: st) m := e_1 d41_9 (Or.inl rfl) rfl
theorem d41_11 : decode (mt 41).2.1 11 = .ok (.ireturn, 1) := by decide +kernel
theorem s41_11 {ls : LV} {m : MM} {x : Int32} : go 41 11 ls [.inl x] m = some (some (.inl x), m) := e_int d41_11 (by decide +kernel)
theorem d41_12 : decode (mt 41).2.1 12 = .ok (.aload_n 0, 1) := by decide +kernel
theorem s41_12 {a1 a2 : Option AV} {st : List AV} {m : MM} {x : Nat × Option Nat} : go 41 12 [some (.inr (.inr x)), a1, a2] st m = go 41 13 [some (.inr (.inr x)), a1, a2] (.inr (.inr x) :: st) m := e_1 d41_12 (Or.inl rfl) rfl
theorem d41_13 : decode (mt 41).2.1 13 = .ok (.getfield 11, 3) := by decide +kernel
theorem s41_13 {ls : LV} {st : List AV} {m : MM} {n : Nat} : go 41 13 ls (.inr (.inr (7, some n)) :: st) m = go 41 16 ls (.inr (.inr (16, mR m 7 n 0)) :: st) m := e_1 d41_13 (Or.inl rfl) (by rw [xi, pA, show lk fdL (mt 41).2.2.1 11 = some (7, 0) by decide +kernel]; rfl)
theorem d41_16 : decode (mt 41).2.1 16 = .ok (.aload_n 0, 1) := by decide +kernel
theorem s41_16 {a1 a2 : Option AV} {st : List AV} {m : MM} {x : Nat × Option Nat} : go 41 16 [some (.inr (.inr x)), a1, a2] st m = go 41 17 [some (.inr (.inr x)), a1, a2] (.inr (.inr x) :: st) m := e_1 d41_16 (Or.inl rfl) rfl
theorem d41_17 : decode (mt 41).2.1 17 = .ok (.getfield 52, 3) := by decide +kernel
theorem s41_17 {ls : LV} {st : List AV} {m : MM} {n : Nat} : go 41 17 ls (.inr (.inr (7, some n)) :: st) m = go 41 20 ls (.inl (mI m 7 n 1) :: st) m := e_1 d41_17 (Or.inl rfl) (by rw [xi, pA, show lk fdL (mt 41).2.2.1 52 = some (7, 1) by decide +kernel]; rfl)
theorem d41_20 : decode (mt 41).2.1 20 = .ok (.new 9, 3) := by decide +kernel
theorem s41_20 {ls : LV} {st : List AV} {m : MM} : go 41 20 ls st m = go 41 23 ls (.inr (.inr (6, some (mC m 6))) :: st) (al m 6 0 10) := e_1 d41_20 (Or.inl rfl) (by rw [xi, show lk nwL (mt 41).2.2.1 9 = some 6 by decide +kernel]; rfl)
theorem d41_23 : decode (mt 41).2.1 23 = .ok (.dup, 1) := by decide +kernel
theorem s41_23 {ls : LV} {st : List AV} {m : MM} {x : Nat × Option Nat} : go 41 23 ls (.inr (.inr x) :: st) m = go 41 24 ls (.inr (.inr x) :: .inr (.inr x) :: st) m := e_1 d41_23 (Or.inl rfl) rfl
theorem d41_24 : decode (mt 41).2.1 24 = .ok (.aload_n 0, 1) := by decide +kernel
theorem s41_24 {a1 a2 : Option AV} {st : List AV} {m : MM} {x : Nat × Option Nat} : go 41 24 [some (.inr (.inr x)), a1, a2] st m = go 41 25 [some (.inr (.inr x)), a1, a2] (.inr (.inr x) :: st) m := e_1 d41_24 (Or.inl rfl) rfl
theorem d41_25 : decode (mt 41).2.1 25 = .ok (.getfield 52, 3) := by decide +kernel
theorem s41_25 {ls : LV} {st : List AV} {m : MM} {n : Nat} : go 41 25 ls (.inr (.inr (7, some n)) :: st) m = go 41 28 ls (.inl (mI m 7 n 1) :: st) m := e_1 d41_25 (Or.inl rfl) (by rw [xi, pA, show lk fdL (mt 41).2.2.1 52 = some (7, 1) by decide +kernel]; rfl)
theorem d41_28 : decode (mt 41).2.1 28 = .ok (.iload_n 1, 1) := by decide +kernel
theorem s41_28 {a0 a2 : Option AV} {st : List AV} {m : MM} {x : Int32} : go 41 28 [a0, some (.inl x), a2] st m = go 41 29 [a0, some (.inl x), a2] (.inl x :: st) m := e_1 d41_28 (Or.inl rfl) rfl
theorem d41_29 : decode (mt 41).2.1 29 = .ok (.iload_n 2, 1) := by decide +kernel
theorem s41_29 {a0 a1 : Option AV} {st : List AV} {m : MM} {x : Int32} : go 41 29 [a0, a1, some (.inl x)] st m = go 41 30 [a0, a1, some (.inl x)] (.inl x :: st) m := e_1 d41_29 (Or.inl rfl) rfl
theorem d41_30 : decode (mt 41).2.1 30 = .ok (.invokespecial 55, 3) := by decide +kernel
theorem s41_30 {ls : LV} {m : MM} {x0 : Int32} {x1 : Int32} {x2 : Int32} {w0 w1 w2 : AV} {n : Nat} : go 41 30 ls [.inl x2, .inl x1, .inl x0, .inr (.inr (6, some n)), w0, w1, w2] m = bd (go 22 0 [some (.inr (.inr (6, some n))), some (.inl x0), some (.inl x1), some (.inl x2)] [] m) (fun v m2 => go 41 33 ls (v.toList ++ [w0, w1, w2]) m2) := e_spec (y1 := 22) (na := 3) (as := [.inl x0, .inl x1, .inl x2]) (rest := [w0, w1, w2]) d41_30 (by decide +kernel) rfl (by decide +kernel) (show (ent [.inr (.inr (6, some n)), .inl x0, .inl x1, .inl x2]).length ≤ (mt 22).2.2.2.1 from Nat.le_of_ble_eq_true rfl) (cats_le (Nat.le_of_ble_eq_true rfl)) (by decide +kernel)
theorem d41_33 : decode (mt 41).2.1 33 = .ok (.aastore, 1) := by decide +kernel
theorem s41_33r {ls : LV} {st : List AV} {m : MM} {n : Nat} {i : Int32} {p : Option Nat} : go 41 33 ls (.inr (.inr (6, p)) :: .inl i :: .inr (.inr (16, some n)) :: st) m = ixk (ix i (mN m 16 n)) (fun j => go 41 34 ls st (sR m 16 n j p)) := e_ald d41_33 (fun j hj => by simp only [xi, pI, pL, pR, pA, hj, Option.bind_some]; exact if_pos (Or.inl rfl)) (fun hj => by simp only [xi, pI, pL, pR, pA, hj, Option.bind_none])
theorem s41_33n {ls : LV} {st : List AV} {m : MM} {n : Nat} {i : Int32} {w : Nat} : go 41 33 ls (.inr (.inr (w, none)) :: .inl i :: .inr (.inr (16, some n)) :: st) m = ixk (ix i (mN m 16 n)) (fun j => go 41 34 ls st (sR m 16 n j none)) := e_ald d41_33 (fun j hj => by simp only [xi, pI, pL, pR, pA, hj, Option.bind_some]; exact if_pos (Or.inr ⟨trivial, by decide⟩)) (fun hj => by simp only [xi, pI, pL, pR, pA, hj, Option.bind_none])
theorem d41_34 : decode (mt 41).2.1 34 = .ok (.aload_n 0, 1) := by decide +kernel
theorem s41_34 {a1 a2 : Option AV} {st : List AV} {m : MM} {x : Nat × Option Nat} : go 41 34 [some (.inr (.inr x)), a1, a2] st m = go 41 35 [some (.inr (.inr x)), a1, a2] (.inr (.inr x) :: st) m := e_1 d41_34 (Or.inl rfl) rfl
theorem d41_35 : decode (mt 41).2.1 35 = .ok (.dup, 1) := by decide +kernel
theorem s41_35 {ls : LV} {st : List AV} {m : MM} {x : Nat × Option Nat} : go 41 35 ls (.inr (.inr x) :: st) m = go 41 36 ls (.inr (.inr x) :: .inr (.inr x) :: st) m := e_1 d41_35 (Or.inl rfl) rfl
theorem d41_36 : decode (mt 41).2.1 36 = .ok (.getfield 52, 3) := by decide +kernel
theorem s41_36 {ls : LV} {st : List AV} {m : MM} {n : Nat} : go 41 36 ls (.inr (.inr (7, some n)) :: st) m = go 41 39 ls (.inl (mI m 7 n 1) :: st) m := e_1 d41_36 (Or.inl rfl) (by rw [xi, pA, show lk fdL (mt 41).2.2.1 52 = some (7, 1) by decide +kernel]; rfl)
theorem d41_39 : decode (mt 41).2.1 39 = .ok (.iconst 1, 1) := by decide +kernel
theorem s41_39 {ls : LV} {st : List AV} {m : MM} : go 41 39 ls st m = go 41 40 ls (.inl 1 :: st) m := e_1 d41_39 (Or.inl rfl) rfl
theorem d41_40 : decode (mt 41).2.1 40 = .ok (.iadd, 1) := by decide +kernel
theorem s41_40 {ls : LV} {st : List AV} {m : MM} {a b : Int32} : go 41 40 ls (.inl b :: .inl a :: st) m = go 41 41 ls (.inl (a + b) :: st) m := e_1 d41_40 (Or.inl rfl) rfl
theorem d41_41 : decode (mt 41).2.1 41 = .ok (.putfield 52, 3) := by decide +kernel
theorem s41_41 {ls : LV} {st : List AV} {m : MM} {n : Nat} {x : Int32} : go 41 41 ls (.inl x :: .inr (.inr (7, some n)) :: st) m = go 41 44 ls st (sI m 7 n 1 x) := e_put (r := 7) (f := 1) d41_41 (by decide +kernel) rfl (by decide +kernel)
theorem d41_44 : decode (mt 41).2.1 44 = .ok (.aload_n 0, 1) := by decide +kernel
theorem s41_44 {a1 a2 : Option AV} {st : List AV} {m : MM} {x : Nat × Option Nat} : go 41 44 [some (.inr (.inr x)), a1, a2] st m = go 41 45 [some (.inr (.inr x)), a1, a2] (.inr (.inr x) :: st) m := e_1 d41_44 (Or.inl rfl) rfl
theorem d41_45 : decode (mt 41).2.1 45 = .ok (.getfield 52, 3) := by decide +kernel
theorem s41_45 {ls : LV} {st : List AV} {m : MM} {n : Nat} : go 41 45 ls (.inr (.inr (7, some n)) :: st) m = go 41 48 ls (.inl (mI m 7 n 1) :: st) m := e_1 d41_45 (Or.inl rfl) (by rw [xi, pA, show lk fdL (mt 41).2.2.1 52 = some (7, 1) by decide +kernel]; rfl)
theorem d41_48 : decode (mt 41).2.1 48 = .ok (.iconst 1, 1) := by decide +kernel
theorem s41_48 {ls : LV} {st : List AV} {m : MM} : go 41 48 ls st m = go 41 49 ls (.inl 1 :: st) m := e_1 d41_48 (Or.inl rfl) rfl
theorem d41_49 : decode (mt 41).2.1 49 = .ok (.isub, 1) := by decide +kernel
theorem s41_49 {ls : LV} {st : List AV} {m : MM} {a b : Int32} : go 41 49 ls (.inl b :: .inl a :: st) m = go 41 50 ls (.inl (a - b) :: st) m := e_1 d41_49 (Or.inl rfl) rfl
theorem d41_50 : decode (mt 41).2.1 50 = .ok (.ireturn, 1) := by decide +kernel
theorem s41_50 {ls : LV} {m : MM} {x : Int32} : go 41 50 ls [.inl x] m = some (some (.inl x), m) := e_int d41_50 (by decide +kernel)
/-! X6_isNamed: 42 -/
theorem d42_0 : decode (mt 42).2.1 0 = .ok (.iconst 0, 1) := by decide +kernel
theorem s42_0 {ls : LV} {st : List AV} {m : MM} : go 42 0 ls st m = go 42 1 ls (.inl 0 :: st) m := e_1 d42_0 (Or.inl rfl) rfl
theorem d42_1 : decode (mt 42).2.1 1 = .ok (.istore_n 2, 1) := by decide +kernel
theorem s42_1i {a0 a2 : Option AV} {z : Int32} {st : List AV} {m : MM} {x : Int32} : go 42 1 [a0, some (.inl z), a2] (.inl x :: st) m = go 42 2 [a0, some (.inl z), some (.inl x)] st m := e_1 d42_1 (Or.inl rfl) rfl
theorem s42_1r {a0 a2 : Option AV} {z : Nat × Option Nat} {st : List AV} {m : MM} {x : Int32} : go 42 1 [a0, some (.inr (.inr z)), a2] (.inl x :: st) m = go 42 2 [a0, some (.inr (.inr z)), some (.inl x)] st m := e_1 d42_1 (Or.inl rfl) rfl
theorem s42_1n {a0 a2 : Option AV} {st : List AV} {m : MM} {x : Int32} : go 42 1 [a0, none, a2] (.inl x :: st) m = go 42 2 [a0, none, some (.inl x)] st m := e_1 d42_1 (Or.inl rfl) rfl
theorem d42_2 : decode (mt 42).2.1 2 = .ok (.iload_n 2, 1) := by decide +kernel
theorem s42_2 {a0 a1 : Option AV} {st : List AV} {m : MM} {x : Int32} : go 42 2 [a0, a1, some (.inl x)] st m = go 42 3 [a0, a1, some (.inl x)] (.inl x :: st) m := e_1 d42_2 (Or.inl rfl) rfl
theorem d42_3 : decode (mt 42).2.1 3 = .ok (.aload_n 0, 1) := by decide +kernel
theorem s42_3 {a1 a2 : Option AV} {st : List AV} {m : MM} {x : Nat × Option Nat} : go 42 3 [some (.inr (.inr x)), a1, a2] st m = go 42 4 [some (.inr (.inr x)), a1, a2] (.inr (.inr x) :: st) m := e_1 d42_3 (Or.inl rfl) rfl
theorem d42_4 : decode (mt 42).2.1 4 = .ok (.getfield 52, 3) := by decide +kernel
theorem s42_4 {ls : LV} {st : List AV} {m : MM} {n : Nat} : go 42 4 ls (.inr (.inr (7, some n)) :: st) m = go 42 7 ls (.inl (mI m 7 n 1) :: st) m := e_1 d42_4 (Or.inl rfl) (by rw [xi, pA, show lk fdL (mt 42).2.2.1 52 = some (7, 1) by decide +kernel]; rfl)
theorem d42_7 : decode (mt 42).2.1 7 = .ok (.if_icmp .ge 24, 3) := by decide +kernel
theorem s42_7 {ls : LV} {st : List AV} {m : MM} {a b : Int32} : go 42 7 ls (.inl b :: .inl a :: st) m = if b ≤ a then go 42 31 ls st m else go 42 10 ls st m := e_if (t := 31) (b := hc .ge a b) d42_7 (Or.inl rfl) (by simp only [xi, pI, jm_some (t := 31) (show ((7 : Nat) : Int) + 24 = ((31 : Nat) : Int) by decide), Option.bind_some]) (by simp [hc])
theorem d42_10 : decode (mt 42).2.1 10 = .ok (.aload_n 0, 1) := by decide +kernel
theorem s42_10 {a1 a2 : Option AV} {st : List AV} {m : MM} {x : Nat × Option Nat} : go 42 10 [some (.inr (.inr x)), a1, a2] st m = go 42 11 [some (.inr (.inr x)), a1, a2] (.inr (.inr x) :: st) m := e_1 d42_10 (Or.inl rfl) rfl
theorem d42_11 : decode (mt 42).2.1 11 = .ok (.getfield 11, 3) := by decide +kernel
theorem s42_11 {ls : LV} {st : List AV} {m : MM} {n : Nat} : go 42 11 ls (.inr (.inr (7, some n)) :: st) m = go 42 14 ls (.inr (.inr (16, mR m 7 n 0)) :: st) m := e_1 d42_11 (Or.inl rfl) (by rw [xi, pA, show lk fdL (mt 42).2.2.1 11 = some (7, 0) by decide +kernel]; rfl)
theorem d42_14 : decode (mt 42).2.1 14 = .ok (.iload_n 2, 1) := by decide +kernel
theorem s42_14 {a0 a1 : Option AV} {st : List AV} {m : MM} {x : Int32} : go 42 14 [a0, a1, some (.inl x)] st m = go 42 15 [a0, a1, some (.inl x)] (.inl x :: st) m := e_1 d42_14 (Or.inl rfl) rfl
theorem d42_15 : decode (mt 42).2.1 15 = .ok (.aaload, 1) := by decide +kernel
theorem s42_15 {ls : LV} {st : List AV} {m : MM} {n : Nat} {i : Int32} : go 42 15 ls (.inl i :: .inr (.inr (16, some n)) :: st) m = ixk (ix i (mN m 16 n)) (fun j => go 42 16 ls (.inr (.inr (6, mR m 16 n j)) :: st) m) := e_ald d42_15 (fun j hj => by simp only [xi, pI, pA, hj, Option.bind_some]; rfl) (fun hj => by simp only [xi, pI, pA, hj, Option.bind_none])
theorem d42_16 : decode (mt 42).2.1 16 = .ok (.getfield 58, 3) := by decide +kernel
theorem s42_16 {ls : LV} {st : List AV} {m : MM} {n : Nat} : go 42 16 ls (.inr (.inr (6, some n)) :: st) m = go 42 19 ls (.inl (mI m 6 n 1) :: st) m := e_1 d42_16 (Or.inl rfl) (by rw [xi, pA, show lk fdL (mt 42).2.2.1 58 = some (6, 1) by decide +kernel]; rfl)
theorem d42_19 : decode (mt 42).2.1 19 = .ok (.iload_n 1, 1) := by decide +kernel
theorem s42_19 {a0 a2 : Option AV} {st : List AV} {m : MM} {x : Int32} : go 42 19 [a0, some (.inl x), a2] st m = go 42 20 [a0, some (.inl x), a2] (.inl x :: st) m := e_1 d42_19 (Or.inl rfl) rfl
theorem d42_20 : decode (mt 42).2.1 20 = .ok (.if_icmp .ne 5, 3) := by decide +kernel
theorem s42_20 {ls : LV} {st : List AV} {m : MM} {a b : Int32} : go 42 20 ls (.inl b :: .inl a :: st) m = if ¬ a = b then go 42 25 ls st m else go 42 23 ls st m := e_if (t := 25) (b := hc .ne a b) d42_20 (Or.inl rfl) (by simp only [xi, pI, jm_some (t := 25) (show ((20 : Nat) : Int) + 5 = ((25 : Nat) : Int) by decide), Option.bind_some]) (by simp [hc])
theorem d42_23 : decode (mt 42).2.1 23 = .ok (.iconst 1, 1) := by decide +kernel
theorem s42_23 {ls : LV} {st : List AV} {m : MM} : go 42 23 ls st m = go 42 24 ls (.inl 1 :: st) m := e_1 d42_23 (Or.inl rfl) rfl
theorem d42_24 : decode (mt 42).2.1 24 = .ok (.ireturn, 1) := by decide +kernel
theorem s42_24b0 {ls : LV} {m : MM} : go 42 24 ls [.inl 0] m = some (some (.inl 0), m) := e_bool d42_24 (by decide +kernel) (by decide)
theorem s42_24b1 {ls : LV} {m : MM} : go 42 24 ls [.inl 1] m = some (some (.inl 1), m) := e_bool d42_24 (by decide +kernel) (by decide)
theorem d42_25 : decode (mt 42).2.1 25 = .ok (.iinc 2 1, 3) := by decide +kernel
theorem s42_25i {a0 : Option AV} {z : Int32} {st : List AV} {m : MM} {x : Int32} : go 42 25 [a0, some (.inl z), some (.inl x)] st m = go 42 28 [a0, some (.inl z), some (.inl (x + 1))] st m := e_1 d42_25 (Or.inl rfl) rfl
theorem s42_25r {a0 : Option AV} {z : Nat × Option Nat} {st : List AV} {m : MM} {x : Int32} : go 42 25 [a0, some (.inr (.inr z)), some (.inl x)] st m = go 42 28 [a0, some (.inr (.inr z)), some (.inl (x + 1))] st m := e_1 d42_25 (Or.inl rfl) rfl
theorem s42_25n {a0 : Option AV} {st : List AV} {m : MM} {x : Int32} : go 42 25 [a0, none, some (.inl x)] st m = go 42 28 [a0, none, some (.inl (x + 1))] st m := e_1 d42_25 (Or.inl rfl) rfl
theorem d42_28 : decode (mt 42).2.1 28 = .ok (.goto (-26), 3) := by decide +kernel
theorem s42_28 {ls : LV} {st : List AV} {m : MM} : go 42 28 ls st m = go 42 2 ls st m := e_1 d42_28 (Or.inl rfl) (by rw [xi, jm_some (t := 2) (by decide)]; rfl)
theorem d42_31 : decode (mt 42).2.1 31 = .ok (.iconst 0, 1) := by decide +kernel
theorem s42_31 {ls : LV} {st : List AV} {m : MM} : go 42 31 ls st m = go 42 32 ls (.inl 0 :: st) m := e_1 d42_31 (Or.inl rfl) rfl
theorem d42_32 : decode (mt 42).2.1 32 = .ok (.ireturn, 1) := by decide +kernel
theorem s42_32b0 {ls : LV} {m : MM} : go 42 32 ls [.inl 0] m = some (some (.inl 0), m) := e_bool d42_32 (by decide +kernel) (by decide)
theorem s42_32b1 {ls : LV} {m : MM} : go 42 32 ls [.inl 1] m = some (some (.inl 1), m) := e_bool d42_32 (by decide +kernel) (by decide)
/-! X6_peerAt: 43 -/
theorem d43_0 : decode (mt 43).2.1 0 = .ok (.iload_n 1, 1) := by decide +kernel
theorem s43_0 {a0 : Option AV} {st : List AV} {m : MM} {x : Int32} : go 43 0 [a0, some (.inl x)] st m = go 43 1 [a0, some (.inl x)] (.inl x :: st) m := e_1 d43_0 (Or.inl rfl) rfl
theorem d43_1 : decode (mt 43).2.1 1 = .ok (.ifCond .lt 20, 3) := by decide +kernel
theorem s43_1 {ls : LV} {st : List AV} {m : MM} {a : Int32} : go 43 1 ls (.inl a :: st) m = if a < 0 then go 43 21 ls st m else go 43 4 ls st m := e_if (t := 21) (b := hc .lt a 0) d43_1 (Or.inl rfl) (by simp only [xi, pI, jm_some (t := 21) (show ((1 : Nat) : Int) + 20 = ((21 : Nat) : Int) by decide), Option.bind_some]) (by simp [hc])
theorem d43_4 : decode (mt 43).2.1 4 = .ok (.iload_n 1, 1) := by decide +kernel
theorem s43_4 {a0 : Option AV} {st : List AV} {m : MM} {x : Int32} : go 43 4 [a0, some (.inl x)] st m = go 43 5 [a0, some (.inl x)] (.inl x :: st) m := e_1 d43_4 (Or.inl rfl) rfl
theorem d43_5 : decode (mt 43).2.1 5 = .ok (.aload_n 0, 1) := by decide +kernel
theorem s43_5 {a1 : Option AV} {st : List AV} {m : MM} {x : Nat × Option Nat} : go 43 5 [some (.inr (.inr x)), a1] st m = go 43 6 [some (.inr (.inr x)), a1] (.inr (.inr x) :: st) m := e_1 d43_5 (Or.inl rfl) rfl
theorem d43_6 : decode (mt 43).2.1 6 = .ok (.getfield 52, 3) := by decide +kernel
theorem s43_6 {ls : LV} {st : List AV} {m : MM} {n : Nat} : go 43 6 ls (.inr (.inr (7, some n)) :: st) m = go 43 9 ls (.inl (mI m 7 n 1) :: st) m := e_1 d43_6 (Or.inl rfl) (by rw [xi, pA, show lk fdL (mt 43).2.2.1 52 = some (7, 1) by decide +kernel]; rfl)
theorem d43_9 : decode (mt 43).2.1 9 = .ok (.if_icmp .ge 12, 3) := by decide +kernel
theorem s43_9 {ls : LV} {st : List AV} {m : MM} {a b : Int32} : go 43 9 ls (.inl b :: .inl a :: st) m = if b ≤ a then go 43 21 ls st m else go 43 12 ls st m := e_if (t := 21) (b := hc .ge a b) d43_9 (Or.inl rfl) (by simp only [xi, pI, jm_some (t := 21) (show ((9 : Nat) : Int) + 12 = ((21 : Nat) : Int) by decide), Option.bind_some]) (by simp [hc])
theorem d43_12 : decode (mt 43).2.1 12 = .ok (.aload_n 0, 1) := by decide +kernel
theorem s43_12 {a1 : Option AV} {st : List AV} {m : MM} {x : Nat × Option Nat} : go 43 12 [some (.inr (.inr x)), a1] st m = go 43 13 [some (.inr (.inr x)), a1] (.inr (.inr x) :: st) m := e_1 d43_12 (Or.inl rfl) rfl
theorem d43_13 : decode (mt 43).2.1 13 = .ok (.getfield 11, 3) := by decide +kernel
theorem s43_13 {ls : LV} {st : List AV} {m : MM} {n : Nat} : go 43 13 ls (.inr (.inr (7, some n)) :: st) m = go 43 16 ls (.inr (.inr (16, mR m 7 n 0)) :: st) m := e_1 d43_13 (Or.inl rfl) (by rw [xi, pA, show lk fdL (mt 43).2.2.1 11 = some (7, 0) by decide +kernel]; rfl)
theorem d43_16 : decode (mt 43).2.1 16 = .ok (.iload_n 1, 1) := by decide +kernel
theorem s43_16 {a0 : Option AV} {st : List AV} {m : MM} {x : Int32} : go 43 16 [a0, some (.inl x)] st m = go 43 17 [a0, some (.inl x)] (.inl x :: st) m := e_1 d43_16 (Or.inl rfl) rfl
theorem d43_17 : decode (mt 43).2.1 17 = .ok (.aaload, 1) := by decide +kernel
theorem s43_17 {ls : LV} {st : List AV} {m : MM} {n : Nat} {i : Int32} : go 43 17 ls (.inl i :: .inr (.inr (16, some n)) :: st) m = ixk (ix i (mN m 16 n)) (fun j => go 43 18 ls (.inr (.inr (6, mR m 16 n j)) :: st) m) := e_ald d43_17 (fun j hj => by simp only [xi, pI, pA, hj, Option.bind_some]; rfl) (fun hj => by simp only [xi, pI, pA, hj, Option.bind_none])
theorem d43_18 : decode (mt 43).2.1 18 = .ok (.goto 4, 3) := by decide +kernel
theorem s43_18 {ls : LV} {st : List AV} {m : MM} : go 43 18 ls st m = go 43 22 ls st m := e_1 d43_18 (Or.inl rfl) (by rw [xi, jm_some (t := 22) (by decide)]; rfl)
theorem d43_21 : decode (mt 43).2.1 21 = .ok (.aconst_null, 1) := by decide +kernel
theorem s43_21 {ls : LV} {st : List AV} {m : MM} : go 43 21 ls st m = go 43 22 ls (.inr (.inr (0, none)) :: st) m := e_1 d43_21 (Or.inl rfl) rfl
theorem d43_22 : decode (mt 43).2.1 22 = .ok (.areturn, 1) := by decide +kernel
theorem s43_22 {ls : LV} {m : MM} {x : Nat × Option Nat} : go 43 22 ls [.inr (.inr x)] m = some (some (.inr (.inr x)), m) := e_ref d43_22 rfl
/-! X6_howManyIn: 44 -/
theorem d44_0 : decode (mt 44).2.1 0 = .ok (.iconst 0, 1) := by decide +kernel
theorem s44_0 {ls : LV} {st : List AV} {m : MM} : go 44 0 ls st m = go 44 1 ls (.inl 0 :: st) m := e_1 d44_0 (Or.inl rfl) rfl
theorem d44_1 : decode (mt 44).2.1 1 = .ok (.istore_n 1, 1) := by decide +kernel
theorem s44_1i {a1 a2 : Option AV} {z : Int32} {st : List AV} {m : MM} {x : Int32} : go 44 1 [some (.inl z), a1, a2] (.inl x :: st) m = go 44 2 [some (.inl z), some (.inl x), a2] st m := e_1 d44_1 (Or.inl rfl) rfl
theorem s44_1r {a1 a2 : Option AV} {z : Nat × Option Nat} {st : List AV} {m : MM} {x : Int32} : go 44 1 [some (.inr (.inr z)), a1, a2] (.inl x :: st) m = go 44 2 [some (.inr (.inr z)), some (.inl x), a2] st m := e_1 d44_1 (Or.inl rfl) rfl
theorem s44_1n {a1 a2 : Option AV} {st : List AV} {m : MM} {x : Int32} : go 44 1 [none, a1, a2] (.inl x :: st) m = go 44 2 [none, some (.inl x), a2] st m := e_1 d44_1 (Or.inl rfl) rfl
theorem d44_2 : decode (mt 44).2.1 2 = .ok (.iconst 0, 1) := by decide +kernel
theorem s44_2 {ls : LV} {st : List AV} {m : MM} : go 44 2 ls st m = go 44 3 ls (.inl 0 :: st) m := e_1 d44_2 (Or.inl rfl) rfl
theorem d44_3 : decode (mt 44).2.1 3 = .ok (.istore_n 2, 1) := by decide +kernel
theorem s44_3i {a0 a2 : Option AV} {z : Int32} {st : List AV} {m : MM} {x : Int32} : go 44 3 [a0, some (.inl z), a2] (.inl x :: st) m = go 44 4 [a0, some (.inl z), some (.inl x)] st m := e_1 d44_3 (Or.inl rfl) rfl
theorem s44_3r {a0 a2 : Option AV} {z : Nat × Option Nat} {st : List AV} {m : MM} {x : Int32} : go 44 3 [a0, some (.inr (.inr z)), a2] (.inl x :: st) m = go 44 4 [a0, some (.inr (.inr z)), some (.inl x)] st m := e_1 d44_3 (Or.inl rfl) rfl
theorem s44_3n {a0 a2 : Option AV} {st : List AV} {m : MM} {x : Int32} : go 44 3 [a0, none, a2] (.inl x :: st) m = go 44 4 [a0, none, some (.inl x)] st m := e_1 d44_3 (Or.inl rfl) rfl
theorem d44_4 : decode (mt 44).2.1 4 = .ok (.iload_n 2, 1) := by decide +kernel
theorem s44_4 {a0 a1 : Option AV} {st : List AV} {m : MM} {x : Int32} : go 44 4 [a0, a1, some (.inl x)] st m = go 44 5 [a0, a1, some (.inl x)] (.inl x :: st) m := e_1 d44_4 (Or.inl rfl) rfl
theorem d44_5 : decode (mt 44).2.1 5 = .ok (.aload_n 0, 1) := by decide +kernel
theorem s44_5 {a1 a2 : Option AV} {st : List AV} {m : MM} {x : Nat × Option Nat} : go 44 5 [some (.inr (.inr x)), a1, a2] st m = go 44 6 [some (.inr (.inr x)), a1, a2] (.inr (.inr x) :: st) m := e_1 d44_5 (Or.inl rfl) rfl
theorem d44_6 : decode (mt 44).2.1 6 = .ok (.getfield 52, 3) := by decide +kernel
theorem s44_6 {ls : LV} {st : List AV} {m : MM} {n : Nat} : go 44 6 ls (.inr (.inr (7, some n)) :: st) m = go 44 9 ls (.inl (mI m 7 n 1) :: st) m := e_1 d44_6 (Or.inl rfl) (by rw [xi, pA, show lk fdL (mt 44).2.2.1 52 = some (7, 1) by decide +kernel]; rfl)
theorem d44_9 : decode (mt 44).2.1 9 = .ok (.if_icmp .ge 30, 3) := by decide +kernel
theorem s44_9 {ls : LV} {st : List AV} {m : MM} {a b : Int32} : go 44 9 ls (.inl b :: .inl a :: st) m = if b ≤ a then go 44 39 ls st m else go 44 12 ls st m := e_if (t := 39) (b := hc .ge a b) d44_9 (Or.inl rfl) (by simp only [xi, pI, jm_some (t := 39) (show ((9 : Nat) : Int) + 30 = ((39 : Nat) : Int) by decide), Option.bind_some]) (by simp [hc])
theorem d44_12 : decode (mt 44).2.1 12 = .ok (.iload_n 1, 1) := by decide +kernel
theorem s44_12 {a0 a2 : Option AV} {st : List AV} {m : MM} {x : Int32} : go 44 12 [a0, some (.inl x), a2] st m = go 44 13 [a0, some (.inl x), a2] (.inl x :: st) m := e_1 d44_12 (Or.inl rfl) rfl
theorem d44_13 : decode (mt 44).2.1 13 = .ok (.aload_n 0, 1) := by decide +kernel
theorem s44_13 {a1 a2 : Option AV} {st : List AV} {m : MM} {x : Nat × Option Nat} : go 44 13 [some (.inr (.inr x)), a1, a2] st m = go 44 14 [some (.inr (.inr x)), a1, a2] (.inr (.inr x) :: st) m := e_1 d44_13 (Or.inl rfl) rfl
theorem d44_14 : decode (mt 44).2.1 14 = .ok (.getfield 11, 3) := by decide +kernel
theorem s44_14 {ls : LV} {st : List AV} {m : MM} {n : Nat} : go 44 14 ls (.inr (.inr (7, some n)) :: st) m = go 44 17 ls (.inr (.inr (16, mR m 7 n 0)) :: st) m := e_1 d44_14 (Or.inl rfl) (by rw [xi, pA, show lk fdL (mt 44).2.2.1 11 = some (7, 0) by decide +kernel]; rfl)
theorem d44_17 : decode (mt 44).2.1 17 = .ok (.iload_n 2, 1) := by decide +kernel
theorem s44_17 {a0 a1 : Option AV} {st : List AV} {m : MM} {x : Int32} : go 44 17 [a0, a1, some (.inl x)] st m = go 44 18 [a0, a1, some (.inl x)] (.inl x :: st) m := e_1 d44_17 (Or.inl rfl) rfl
theorem d44_18 : decode (mt 44).2.1 18 = .ok (.aaload, 1) := by decide +kernel
theorem s44_18 {ls : LV} {st : List AV} {m : MM} {n : Nat} {i : Int32} : go 44 18 ls (.inl i :: .inr (.inr (16, some n)) :: st) m = ixk (ix i (mN m 16 n)) (fun j => go 44 19 ls (.inr (.inr (6, mR m 16 n j)) :: st) m) := e_ald d44_18 (fun j hj => by simp only [xi, pI, pA, hj, Option.bind_some]; rfl) (fun hj => by simp only [xi, pI, pA, hj, Option.bind_none])
theorem d44_19 : decode (mt 44).2.1 19 = .ok (.getfield 61, 3) := by decide +kernel
theorem s44_19 {ls : LV} {st : List AV} {m : MM} {n : Nat} : go 44 19 ls (.inr (.inr (6, some n)) :: st) m = go 44 22 ls (.inl (mI m 6 n 3) :: st) m := e_1 d44_19 (Or.inl rfl) (by rw [xi, pA, show lk fdL (mt 44).2.2.1 61 = some (6, 3) by decide +kernel]; rfl)
theorem d44_22 : decode (mt 44).2.1 22 = .ok (.iconst 2, 1) := by decide +kernel
theorem s44_22 {ls : LV} {st : List AV} {m : MM} : go 44 22 ls st m = go 44 23 ls (.inl 2 :: st) m := e_1 d44_22 (Or.inl rfl) rfl
theorem d44_23 : decode (mt 44).2.1 23 = .ok (.if_icmp .ne 7, 3) := by decide +kernel
theorem s44_23 {ls : LV} {st : List AV} {m : MM} {a b : Int32} : go 44 23 ls (.inl b :: .inl a :: st) m = if ¬ a = b then go 44 30 ls st m else go 44 26 ls st m := e_if (t := 30) (b := hc .ne a b) d44_23 (Or.inl rfl) (by simp only [xi, pI, jm_some (t := 30) (show ((23 : Nat) : Int) + 7 = ((30 : Nat) : Int) by decide), Option.bind_some]) (by simp [hc])
theorem d44_26 : decode (mt 44).2.1 26 = .ok (.iconst 1, 1) := by decide +kernel
theorem s44_26 {ls : LV} {st : List AV} {m : MM} : go 44 26 ls st m = go 44 27 ls (.inl 1 :: st) m := e_1 d44_26 (Or.inl rfl) rfl
theorem d44_27 : decode (mt 44).2.1 27 = .ok (.goto 4, 3) := by decide +kernel
theorem s44_27 {ls : LV} {st : List AV} {m : MM} : go 44 27 ls st m = go 44 31 ls st m := e_1 d44_27 (Or.inl rfl) (by rw [xi, jm_some (t := 31) (by decide)]; rfl)
theorem d44_30 : decode (mt 44).2.1 30 = .ok (.iconst 0, 1) := by decide +kernel
theorem s44_30 {ls : LV} {st : List AV} {m : MM} : go 44 30 ls st m = go 44 31 ls (.inl 0 :: st) m := e_1 d44_30 (Or.inl rfl) rfl
theorem d44_31 : decode (mt 44).2.1 31 = .ok (.iadd, 1) := by decide +kernel
theorem s44_31 {ls : LV} {st : List AV} {m : MM} {a b : Int32} : go 44 31 ls (.inl b :: .inl a :: st) m = go 44 32 ls (.inl (a + b) :: st) m := e_1 d44_31 (Or.inl rfl) rfl
theorem d44_32 : decode (mt 44).2.1 32 = .ok (.istore_n 1, 1) := by decide +kernel
theorem s44_32i {a1 a2 : Option AV} {z : Int32} {st : List AV} {m : MM} {x : Int32} : go 44 32 [some (.inl z), a1, a2] (.inl x :: st) m = go 44 33 [some (.inl z), some (.inl x), a2] st m := e_1 d44_32 (Or.inl rfl) rfl
theorem s44_32r {a1 a2 : Option AV} {z : Nat × Option Nat} {st : List AV} {m : MM} {x : Int32} : go 44 32 [some (.inr (.inr z)), a1, a2] (.inl x :: st) m = go 44 33 [some (.inr (.inr z)), some (.inl x), a2] st m := e_1 d44_32 (Or.inl rfl) rfl
theorem s44_32n {a1 a2 : Option AV} {st : List AV} {m : MM} {x : Int32} : go 44 32 [none, a1, a2] (.inl x :: st) m = go 44 33 [none, some (.inl x), a2] st m := e_1 d44_32 (Or.inl rfl) rfl
theorem d44_33 : decode (mt 44).2.1 33 = .ok (.iinc 2 1, 3) := by decide +kernel
theorem s44_33i {a0 : Option AV} {z : Int32} {st : List AV} {m : MM} {x : Int32} : go 44 33 [a0, some (.inl z), some (.inl x)] st m = go 44 36 [a0, some (.inl z), some (.inl (x + 1))] st m := e_1 d44_33 (Or.inl rfl) rfl
theorem s44_33r {a0 : Option AV} {z : Nat × Option Nat} {st : List AV} {m : MM} {x : Int32} : go 44 33 [a0, some (.inr (.inr z)), some (.inl x)] st m = go 44 36 [a0, some (.inr (.inr z)), some (.inl (x + 1))] st m := e_1 d44_33 (Or.inl rfl) rfl
theorem s44_33n {a0 : Option AV} {st : List AV} {m : MM} {x : Int32} : go 44 33 [a0, none, some (.inl x)] st m = go 44 36 [a0, none, some (.inl (x + 1))] st m := e_1 d44_33 (Or.inl rfl) rfl
theorem d44_36 : decode (mt 44).2.1 36 = .ok (.goto (-32), 3) := by decide +kernel
theorem s44_36 {ls : LV} {st : List AV} {m : MM} : go 44 36 ls st m = go 44 4 ls st m := e_1 d44_36 (Or.inl rfl) (by rw [xi, jm_some (t := 4) (by decide)]; rfl)
theorem d44_39 : decode (mt 44).2.1 39 = .ok (.iload_n 1, 1) := by decide +kernel
theorem s44_39 {a0 a2 : Option AV} {st : List AV} {m : MM} {x : Int32} : go 44 39 [a0, some (.inl x), a2] st m = go 44 40 [a0, some (.inl x), a2] (.inl x :: st) m := e_1 d44_39 (Or.inl rfl) rfl
theorem d44_40 : decode (mt 44).2.1 40 = .ok (.ireturn, 1) := by decide +kernel
theorem s44_40 {ls : LV} {m : MM} {x : Int32} : go 44 40 ls [.inl x] m = some (some (.inl x), m) := e_int d44_40 (by decide +kernel)
/-! X6_join: 45 -/
theorem d45_0 : decode (mt 45).2.1 0 = .ok (.aload_n 0, 1) := by decide +kernel
theorem s45_0 {a1 a2 a3 a4 a5 : Option AV} {st : List AV} {m : MM} {x : Nat × Option Nat} : go 45 0 [some (.inr (.inr x)), a1, a2, a3, a4, a5] st m = go 45 1 [some (.inr (.inr x)), a1, a2, a3, a4, a5] (.inr (.inr x) :: st) m := e_1 d45_0 (Or.inl rfl) rfl
theorem d45_1 : decode (mt 45).2.1 1 = .ok (.iload_n 1, 1) := by decide +kernel
theorem s45_1 {a0 a2 a3 a4 a5 : Option AV} {st : List AV} {m : MM} {x : Int32} : go 45 1 [a0, some (.inl x), a2, a3, a4, a5] st m = go 45 2 [a0, some (.inl x), a2, a3, a4, a5] (.inl x :: st) m := e_1 d45_1 (Or.inl rfl) rfl
theorem d45_2 : decode (mt 45).2.1 2 = .ok (.invokevirtual 64, 3) := by decide +kernel
theorem s45_2 {ls : LV} {m : MM} {x0 : Int32} {n : Nat} : go 45 2 ls [.inl x0, .inr (.inr (7, some n))] m = bd (go 43 0 [some (.inr (.inr (7, some n))), some (.inl x0)] [] m) (fun v m2 => go 45 5 ls (v.toList ++ []) m2) := e_virt (y1 := 43) (na := 1) (as := [.inl x0]) (rest := []) d45_2 (by decide +kernel) rfl (by decide +kernel) (show (ent [.inr (.inr (7, some n)), .inl x0]).length ≤ (mt 43).2.2.2.1 from Nat.le_of_ble_eq_true rfl) (cats_le (Nat.le_of_ble_eq_true rfl)) (by decide +kernel)
theorem d45_5 : decode (mt 45).2.1 5 = .ok (.astore_n 3, 1) := by decide +kernel
theorem s45_5i {a0 a1 a3 a4 a5 : Option AV} {z : Int32} {st : List AV} {m : MM} {x : Nat × Option Nat} : go 45 5 [a0, a1, some (.inl z), a3, a4, a5] (.inr (.inr x) :: st) m = go 45 6 [a0, a1, some (.inl z), some (.inr (.inr x)), a4, a5] st m := e_1 d45_5 (Or.inl rfl) rfl
theorem s45_5r {a0 a1 a3 a4 a5 : Option AV} {z : Nat × Option Nat} {st : List AV} {m : MM} {x : Nat × Option Nat} : go 45 5 [a0, a1, some (.inr (.inr z)), a3, a4, a5] (.inr (.inr x) :: st) m = go 45 6 [a0, a1, some (.inr (.inr z)), some (.inr (.inr x)), a4, a5] st m := e_1 d45_5 (Or.inl rfl) rfl
theorem s45_5n {a0 a1 a3 a4 a5 : Option AV} {st : List AV} {m : MM} {x : Nat × Option Nat} : go 45 5 [a0, a1, none, a3, a4, a5] (.inr (.inr x) :: st) m = go 45 6 [a0, a1, none, some (.inr (.inr x)), a4, a5] st m := e_1 d45_5 (Or.inl rfl) rfl
theorem d45_6 : decode (mt 45).2.1 6 = .ok (.aload_n 0, 1) := by decide +kernel
theorem s45_6 {a1 a2 a3 a4 a5 : Option AV} {st : List AV} {m : MM} {x : Nat × Option Nat} : go 45 6 [some (.inr (.inr x)), a1, a2, a3, a4, a5] st m = go 45 7 [some (.inr (.inr x)), a1, a2, a3, a4, a5] (.inr (.inr x) :: st) m := e_1 d45_6 (Or.inl rfl) rfl
theorem d45_7 : decode (mt 45).2.1 7 = .ok (.iload_n 2, 1) := by decide +kernel
theorem s45_7 {a0 a1 a3 a4 a5 : Option AV} {st : List AV} {m : MM} {x : Int32} : go 45 7 [a0, a1, some (.inl x), a3, a4, a5] st m = go 45 8 [a0, a1, some (.inl x), a3, a4, a5] (.inl x :: st) m := e_1 d45_7 (Or.inl rfl) rfl
theorem d45_8 : decode (mt 45).2.1 8 = .ok (.invokevirtual 64, 3) := by decide +kernel
theorem s45_8 {ls : LV} {m : MM} {x0 : Int32} {n : Nat} : go 45 8 ls [.inl x0, .inr (.inr (7, some n))] m = bd (go 43 0 [some (.inr (.inr (7, some n))), some (.inl x0)] [] m) (fun v m2 => go 45 11 ls (v.toList ++ []) m2) := e_virt (y1 := 43) (na := 1) (as := [.inl x0]) (rest := []) d45_8 (by decide +kernel) rfl (by decide +kernel) (show (ent [.inr (.inr (7, some n)), .inl x0]).length ≤ (mt 43).2.2.2.1 from Nat.le_of_ble_eq_true rfl) (cats_le (Nat.le_of_ble_eq_true rfl)) (by decide +kernel)
theorem d45_11 : decode (mt 45).2.1 11 = .ok (.astore 4, 2) := by decide +kernel
theorem s45_11i {a0 a1 a2 a4 a5 : Option AV} {z : Int32} {st : List AV} {m : MM} {x : Nat × Option Nat} : go 45 11 [a0, a1, a2, some (.inl z), a4, a5] (.inr (.inr x) :: st) m = go 45 13 [a0, a1, a2, some (.inl z), some (.inr (.inr x)), a5] st m := e_1 d45_11 (Or.inl rfl) rfl
theorem s45_11r {a0 a1 a2 a4 a5 : Option AV} {z : Nat × Option Nat} {st : List AV} {m : MM} {x : Nat × Option Nat} : go 45 11 [a0, a1, a2, some (.inr (.inr z)), a4, a5] (.inr (.inr x) :: st) m = go 45 13 [a0, a1, a2, some (.inr (.inr z)), some (.inr (.inr x)), a5] st m := e_1 d45_11 (Or.inl rfl) rfl
theorem s45_11n {a0 a1 a2 a4 a5 : Option AV} {st : List AV} {m : MM} {x : Nat × Option Nat} : go 45 11 [a0, a1, a2, none, a4, a5] (.inr (.inr x) :: st) m = go 45 13 [a0, a1, a2, none, some (.inr (.inr x)), a5] st m := e_1 d45_11 (Or.inl rfl) rfl
theorem d45_13 : decode (mt 45).2.1 13 = .ok (.aload_n 3, 1) := by decide +kernel
theorem s45_13 {a0 a1 a2 a4 a5 : Option AV} {st : List AV} {m : MM} {x : Nat × Option Nat} : go 45 13 [a0, a1, a2, some (.inr (.inr x)), a4, a5] st m = go 45 14 [a0, a1, a2, some (.inr (.inr x)), a4, a5] (.inr (.inr x) :: st) m := e_1 d45_13 (Or.inl rfl) rfl
theorem d45_14 : decode (mt 45).2.1 14 = .ok (.ifnull 8, 3) := by decide +kernel
theorem s45_14n {u : Nat} {ls : LV} {st : List AV} {m : MM} : go 45 14 ls (.inr (.inr (u, none)) :: st) m = go 45 22 ls st m := e_1 d45_14 (Or.inl rfl) (by rw [xi, jm_some (t := 22) (by decide)]; rfl)
theorem s45_14s {u n : Nat} {ls : LV} {st : List AV} {m : MM} : go 45 14 ls (.inr (.inr (u, some n)) :: st) m = go 45 17 ls st m := e_1 d45_14 (Or.inl rfl) (by rw [xi, jm_some (t := 22) (by decide)]; rfl)
theorem d45_17 : decode (mt 45).2.1 17 = .ok (.aload 4, 2) := by decide +kernel
theorem s45_17 {a0 a1 a2 a3 a5 : Option AV} {st : List AV} {m : MM} {x : Nat × Option Nat} : go 45 17 [a0, a1, a2, a3, some (.inr (.inr x)), a5] st m = go 45 19 [a0, a1, a2, a3, some (.inr (.inr x)), a5] (.inr (.inr x) :: st) m := e_1 d45_17 (Or.inl rfl) rfl
theorem d45_19 : decode (mt 45).2.1 19 = .ok (.ifnonnull 5, 3) := by decide +kernel
theorem s45_19n {u : Nat} {ls : LV} {st : List AV} {m : MM} : go 45 19 ls (.inr (.inr (u, none)) :: st) m = go 45 22 ls st m := e_1 d45_19 (Or.inl rfl) (by rw [xi, jm_some (t := 24) (by decide)]; rfl)
theorem s45_19s {u n : Nat} {ls : LV} {st : List AV} {m : MM} : go 45 19 ls (.inr (.inr (u, some n)) :: st) m = go 45 24 ls st m := e_1 d45_19 (Or.inl rfl) (by rw [xi, jm_some (t := 24) (by decide)]; rfl)
theorem d45_22 : decode (mt 45).2.1 22 = .ok (.iconst (-1), 1) := by decide +kernel
theorem s45_22 {ls : LV} {st : List AV} {m : MM} : go 45 22 ls st m = go 45 23 ls (.inl (-1) :: st) m := e_1 d45_22 (Or.inl rfl) rfl
theorem d45_23 : decode (mt 45).2.1 23 = .ok (.ireturn, 1) := by decide +kernel
theorem s45_23 {ls : LV} {m : MM} {x : Int32} : go 45 23 ls [.inl x] m = some (some (.inl x), m) := e_int d45_23 (by decide +kernel)
theorem d45_24 : decode (mt 45).2.1 24 = .ok (.aload_n 0, 1) := by decide +kernel
theorem s45_24 {a1 a2 a3 a4 a5 : Option AV} {st : List AV} {m : MM} {x : Nat × Option Nat} : go 45 24 [some (.inr (.inr x)), a1, a2, a3, a4, a5] st m = go 45 25 [some (.inr (.inr x)), a1, a2, a3, a4, a5] (.inr (.inr x) :: st) m := e_1 d45_24 (Or.inl rfl) rfl
theorem d45_25 : decode (mt 45).2.1 25 = .ok (.invokevirtual 68, 3) := by decide +kernel
theorem s45_25 {ls : LV} {m : MM} {n : Nat} : go 45 25 ls [.inr (.inr (7, some n))] m = bd (go 44 0 [some (.inr (.inr (7, some n))), none, none] [] m) (fun v m2 => go 45 28 ls (v.toList ++ []) m2) := e_virt (y1 := 44) (na := 0) (as := []) (rest := []) d45_25 (by decide +kernel) rfl (by decide +kernel) (show (ent [.inr (.inr (7, some n))]).length ≤ (mt 44).2.2.2.1 from Nat.le_of_ble_eq_true rfl) (cats_le (Nat.le_of_ble_eq_true rfl)) (by decide +kernel)
theorem d45_28 : decode (mt 45).2.1 28 = .ok (.ifCond .ne 7, 3) := by decide +kernel
theorem s45_28 {ls : LV} {st : List AV} {m : MM} {a : Int32} : go 45 28 ls (.inl a :: st) m = if ¬ a = 0 then go 45 35 ls st m else go 45 31 ls st m := e_if (t := 35) (b := hc .ne a 0) d45_28 (Or.inl rfl) (by simp only [xi, pI, jm_some (t := 35) (show ((28 : Nat) : Int) + 7 = ((35 : Nat) : Int) by decide), Option.bind_some]) (by simp [hc])
theorem d45_31 : decode (mt 45).2.1 31 = .ok (.iconst 1, 1) := by decide +kernel
theorem s45_31 {ls : LV} {st : List AV} {m : MM} : go 45 31 ls st m = go 45 32 ls (.inl 1 :: st) m := e_1 d45_31 (Or.inl rfl) rfl
theorem d45_32 : decode (mt 45).2.1 32 = .ok (.goto 4, 3) := by decide +kernel
theorem s45_32 {ls : LV} {st : List AV} {m : MM} : go 45 32 ls st m = go 45 36 ls st m := e_1 d45_32 (Or.inl rfl) (by rw [xi, jm_some (t := 36) (by decide)]; rfl)
theorem d45_35 : decode (mt 45).2.1 35 = .ok (.iconst 0, 1) := by decide +kernel
theorem s45_35 {ls : LV} {st : List AV} {m : MM} : go 45 35 ls st m = go 45 36 ls (.inl 0 :: st) m := e_1 d45_35 (Or.inl rfl) rfl
theorem d45_36 : decode (mt 45).2.1 36 = .ok (.istore 5, 2) := by decide +kernel
theorem s45_36i {a0 a1 a2 a3 a5 : Option AV} {z : Int32} {st : List AV} {m : MM} {x : Int32} : go 45 36 [a0, a1, a2, a3, some (.inl z), a5] (.inl x :: st) m = go 45 38 [a0, a1, a2, a3, some (.inl z), some (.inl x)] st m := e_1 d45_36 (Or.inl rfl) rfl
theorem s45_36r {a0 a1 a2 a3 a5 : Option AV} {z : Nat × Option Nat} {st : List AV} {m : MM} {x : Int32} : go 45 36 [a0, a1, a2, a3, some (.inr (.inr z)), a5] (.inl x :: st) m = go 45 38 [a0, a1, a2, a3, some (.inr (.inr z)), some (.inl x)] st m := e_1 d45_36 (Or.inl rfl) rfl
theorem s45_36n {a0 a1 a2 a3 a5 : Option AV} {st : List AV} {m : MM} {x : Int32} : go 45 36 [a0, a1, a2, a3, none, a5] (.inl x :: st) m = go 45 38 [a0, a1, a2, a3, none, some (.inl x)] st m := e_1 d45_36 (Or.inl rfl) rfl
theorem d45_38 : decode (mt 45).2.1 38 = .ok (.aload_n 0, 1) := by decide +kernel
theorem s45_38 {a1 a2 a3 a4 a5 : Option AV} {st : List AV} {m : MM} {x : Nat × Option Nat} : go 45 38 [some (.inr (.inr x)), a1, a2, a3, a4, a5] st m = go 45 39 [some (.inr (.inr x)), a1, a2, a3, a4, a5] (.inr (.inr x) :: st) m := e_1 d45_38 (Or.inl rfl) rfl
theorem d45_39 : decode (mt 45).2.1 39 = .ok (.getfield 35, 3) := by decide +kernel
theorem s45_39 {ls : LV} {st : List AV} {m : MM} {n : Nat} : go 45 39 ls (.inr (.inr (7, some n)) :: st) m = go 45 42 ls (.inr (.inr (2, mR m 7 n 7)) :: st) m := e_1 d45_39 (Or.inl rfl) (by rw [xi, pA, show lk fdL (mt 45).2.2.1 35 = some (7, 7) by decide +kernel]; rfl)
theorem d45_42 : decode (mt 45).2.1 42 = .ok (.invokevirtual 72, 3) := by decide +kernel
theorem s45_42 {ls : LV} {m : MM} {n : Nat} : go 45 42 ls [.inr (.inr (2, some n))] m = bd (go 6 0 [some (.inr (.inr (2, some n)))] [] m) (fun v m2 => go 45 45 ls (v.toList ++ []) m2) := e_virt (y1 := 6) (na := 0) (as := []) (rest := []) d45_42 (by decide +kernel) rfl (by decide +kernel) (show (ent [.inr (.inr (2, some n))]).length ≤ (mt 6).2.2.2.1 from Nat.le_of_ble_eq_true rfl) (cats_le (Nat.le_of_ble_eq_true rfl)) (by decide +kernel)
theorem d45_45 : decode (mt 45).2.1 45 = .ok (.ifCond .ne 33, 3) := by decide +kernel
theorem s45_45 {ls : LV} {st : List AV} {m : MM} {a : Int32} : go 45 45 ls (.inl a :: st) m = if ¬ a = 0 then go 45 78 ls st m else go 45 48 ls st m := e_if (t := 78) (b := hc .ne a 0) d45_45 (Or.inl rfl) (by simp only [xi, pI, jm_some (t := 78) (show ((45 : Nat) : Int) + 33 = ((78 : Nat) : Int) by decide), Option.bind_some]) (by simp [hc])
theorem d45_48 : decode (mt 45).2.1 48 = .ok (.aload_n 3, 1) := by decide +kernel
theorem s45_48 {a0 a1 a2 a4 a5 : Option AV} {st : List AV} {m : MM} {x : Nat × Option Nat} : go 45 48 [a0, a1, a2, some (.inr (.inr x)), a4, a5] st m = go 45 49 [a0, a1, a2, some (.inr (.inr x)), a4, a5] (.inr (.inr x) :: st) m := e_1 d45_48 (Or.inl rfl) rfl
theorem d45_49 : decode (mt 45).2.1 49 = .ok (.getfield 61, 3) := by decide +kernel
theorem s45_49 {ls : LV} {st : List AV} {m : MM} {n : Nat} : go 45 49 ls (.inr (.inr (6, some n)) :: st) m = go 45 52 ls (.inl (mI m 6 n 3) :: st) m := e_1 d45_49 (Or.inl rfl) (by rw [xi, pA, show lk fdL (mt 45).2.2.1 61 = some (6, 3) by decide +kernel]; rfl)
theorem d45_52 : decode (mt 45).2.1 52 = .ok (.ifCond .ne 26, 3) := by decide +kernel
theorem s45_52 {ls : LV} {st : List AV} {m : MM} {a : Int32} : go 45 52 ls (.inl a :: st) m = if ¬ a = 0 then go 45 78 ls st m else go 45 55 ls st m := e_if (t := 78) (b := hc .ne a 0) d45_52 (Or.inl rfl) (by simp only [xi, pI, jm_some (t := 78) (show ((52 : Nat) : Int) + 26 = ((78 : Nat) : Int) by decide), Option.bind_some]) (by simp [hc])
theorem d45_55 : decode (mt 45).2.1 55 = .ok (.iload 5, 2) := by decide +kernel
theorem s45_55 {a0 a1 a2 a3 a4 : Option AV} {st : List AV} {m : MM} {x : Int32} : go 45 55 [a0, a1, a2, a3, a4, some (.inl x)] st m = go 45 57 [a0, a1, a2, a3, a4, some (.inl x)] (.inl x :: st) m := e_1 d45_55 (Or.inl rfl) rfl
theorem d45_57 : decode (mt 45).2.1 57 = .ok (.ifCond .eq 12, 3) := by decide +kernel
theorem s45_57 {ls : LV} {st : List AV} {m : MM} {a : Int32} : go 45 57 ls (.inl a :: st) m = if a = 0 then go 45 69 ls st m else go 45 60 ls st m := e_if (t := 69) (b := hc .eq a 0) d45_57 (Or.inl rfl) (by simp only [xi, pI, jm_some (t := 69) (show ((57 : Nat) : Int) + 12 = ((69 : Nat) : Int) by decide), Option.bind_some]) (by simp [hc])
theorem d45_60 : decode (mt 45).2.1 60 = .ok (.aload 4, 2) := by decide +kernel
theorem s45_60 {a0 a1 a2 a3 a5 : Option AV} {st : List AV} {m : MM} {x : Nat × Option Nat} : go 45 60 [a0, a1, a2, a3, some (.inr (.inr x)), a5] st m = go 45 62 [a0, a1, a2, a3, some (.inr (.inr x)), a5] (.inr (.inr x) :: st) m := e_1 d45_60 (Or.inl rfl) rfl
theorem d45_62 : decode (mt 45).2.1 62 = .ok (.aload_n 3, 1) := by decide +kernel
theorem s45_62 {a0 a1 a2 a4 a5 : Option AV} {st : List AV} {m : MM} {x : Nat × Option Nat} : go 45 62 [a0, a1, a2, some (.inr (.inr x)), a4, a5] st m = go 45 63 [a0, a1, a2, some (.inr (.inr x)), a4, a5] (.inr (.inr x) :: st) m := e_1 d45_62 (Or.inl rfl) rfl
theorem d45_63 : decode (mt 45).2.1 63 = .ok (.if_acmp .eq 18, 3) := by decide +kernel
theorem s45_63 {u v : Nat} {p q : Option Nat} {ls : LV} {st : List AV} {m : MM} : go 45 63 ls (.inr (.inr (v, q)) :: .inr (.inr (u, p)) :: st) m = if ra (u, p) (v, q) = true then go 45 81 ls st m else go 45 66 ls st m := by
  rw [go_eq d45_63 (Or.inl rfl)]
  simp only [xi, pR, jm_some (t := 81) (show ((63 : Nat) : Int) + 18 = ((81 : Nat) : Int) by decide), Option.bind_some, fi]
  split <;> rfl
theorem d45_66 : decode (mt 45).2.1 66 = .ok (.goto 12, 3) := by decide +kernel
theorem s45_66 {ls : LV} {st : List AV} {m : MM} : go 45 66 ls st m = go 45 78 ls st m := e_1 d45_66 (Or.inl rfl) (by rw [xi, jm_some (t := 78) (by decide)]; rfl)
theorem d45_69 : decode (mt 45).2.1 69 = .ok (.aload 4, 2) := by decide +kernel
theorem s45_69 {a0 a1 a2 a3 a5 : Option AV} {st : List AV} {m : MM} {x : Nat × Option Nat} : go 45 69 [a0, a1, a2, a3, some (.inr (.inr x)), a5] st m = go 45 71 [a0, a1, a2, a3, some (.inr (.inr x)), a5] (.inr (.inr x) :: st) m := e_1 d45_69 (Or.inl rfl) rfl
theorem d45_71 : decode (mt 45).2.1 71 = .ok (.getfield 61, 3) := by decide +kernel
theorem s45_71 {ls : LV} {st : List AV} {m : MM} {n : Nat} : go 45 71 ls (.inr (.inr (6, some n)) :: st) m = go 45 74 ls (.inl (mI m 6 n 3) :: st) m := e_1 d45_71 (Or.inl rfl) (by rw [xi, pA, show lk fdL (mt 45).2.2.1 61 = some (6, 3) by decide +kernel]; rfl)
theorem d45_74 : decode (mt 45).2.1 74 = .ok (.iconst 2, 1) := by decide +kernel
theorem s45_74 {ls : LV} {st : List AV} {m : MM} : go 45 74 ls st m = go 45 75 ls (.inl 2 :: st) m := e_1 d45_74 (Or.inl rfl) rfl
theorem d45_75 : decode (mt 45).2.1 75 = .ok (.if_icmp .eq 6, 3) := by decide +kernel
theorem s45_75 {ls : LV} {st : List AV} {m : MM} {a b : Int32} : go 45 75 ls (.inl b :: .inl a :: st) m = if a = b then go 45 81 ls st m else go 45 78 ls st m := e_if (t := 81) (b := hc .eq a b) d45_75 (Or.inl rfl) (by simp only [xi, pI, jm_some (t := 81) (show ((75 : Nat) : Int) + 6 = ((81 : Nat) : Int) by decide), Option.bind_some]) (by simp [hc])
theorem d45_78 : decode (mt 45).2.1 78 = .ok (.bipush (-2), 2) := by decide +kernel
theorem s45_78 {ls : LV} {st : List AV} {m : MM} : go 45 78 ls st m = go 45 80 ls (.inl (-2) :: st) m := e_1 d45_78 (Or.inl rfl) rfl
theorem d45_80 : decode (mt 45).2.1 80 = .ok (.ireturn, 1) := by decide +kernel
theorem s45_80 {ls : LV} {m : MM} {x : Int32} : go 45 80 ls [.inl x] m = some (some (.inl x), m) := e_int d45_80 (by decide +kernel)
theorem d45_81 : decode (mt 45).2.1 81 = .ok (.iload 5, 2) := by decide +kernel
theorem s45_81 {a0 a1 a2 a3 a4 : Option AV} {st : List AV} {m : MM} {x : Int32} : go 45 81 [a0, a1, a2, a3, a4, some (.inl x)] st m = go 45 83 [a0, a1, a2, a3, a4, some (.inl x)] (.inl x :: st) m := e_1 d45_81 (Or.inl rfl) rfl
theorem d45_83 : decode (mt 45).2.1 83 = .ok (.ifCond .eq 11, 3) := by decide +kernel
theorem s45_83 {ls : LV} {st : List AV} {m : MM} {a : Int32} : go 45 83 ls (.inl a :: st) m = if a = 0 then go 45 94 ls st m else go 45 86 ls st m := e_if (t := 94) (b := hc .eq a 0) d45_83 (Or.inl rfl) (by simp only [xi, pI, jm_some (t := 94) (show ((83 : Nat) : Int) + 11 = ((94 : Nat) : Int) by decide), Option.bind_some]) (by simp [hc])
theorem d45_86 : decode (mt 45).2.1 86 = .ok (.aload_n 3, 1) := by decide +kernel
theorem s45_86 {a0 a1 a2 a4 a5 : Option AV} {st : List AV} {m : MM} {x : Nat × Option Nat} : go 45 86 [a0, a1, a2, some (.inr (.inr x)), a4, a5] st m = go 45 87 [a0, a1, a2, some (.inr (.inr x)), a4, a5] (.inr (.inr x) :: st) m := e_1 d45_86 (Or.inl rfl) rfl
theorem d45_87 : decode (mt 45).2.1 87 = .ok (.aconst_null, 1) := by decide +kernel
theorem s45_87 {ls : LV} {st : List AV} {m : MM} : go 45 87 ls st m = go 45 88 ls (.inr (.inr (0, none)) :: st) m := e_1 d45_87 (Or.inl rfl) rfl
theorem d45_88 : decode (mt 45).2.1 88 = .ok (.aconst_null, 1) := by decide +kernel
theorem s45_88 {ls : LV} {st : List AV} {m : MM} : go 45 88 ls st m = go 45 89 ls (.inr (.inr (0, none)) :: st) m := e_1 d45_88 (Or.inl rfl) rfl
theorem d45_89 : decode (mt 45).2.1 89 = .ok (.invokevirtual 76, 3) := by decide +kernel
theorem s45_89 {ls : LV} {m : MM} {x0 : Nat × Option Nat} {x1 : Nat × Option Nat} {n : Nat} : go 45 89 ls [.inr (.inr x1), .inr (.inr x0), .inr (.inr (6, some n))] m = bd (go 34 0 [some (.inr (.inr (6, some n))), some (.inr (.inr x0)), some (.inr (.inr x1))] [] m) (fun v m2 => go 45 92 ls (v.toList ++ []) m2) := e_virt (y1 := 34) (na := 2) (as := [.inr (.inr x0), .inr (.inr x1)]) (rest := []) d45_89 (by decide +kernel) rfl (by decide +kernel) (show (ent [.inr (.inr (6, some n)), .inr (.inr x0), .inr (.inr x1)]).length ≤ (mt 34).2.2.2.1 from Nat.le_of_ble_eq_true rfl) (cats_le (Nat.le_of_ble_eq_true rfl)) (by decide +kernel)
theorem d45_92 : decode (mt 45).2.1 92 = .ok (.iconst 1, 1) := by decide +kernel
theorem s45_92 {ls : LV} {st : List AV} {m : MM} : go 45 92 ls st m = go 45 93 ls (.inl 1 :: st) m := e_1 d45_92 (Or.inl rfl) rfl
theorem d45_93 : decode (mt 45).2.1 93 = .ok (.ireturn, 1) := by decide +kernel
theorem s45_93 {ls : LV} {m : MM} {x : Int32} : go 45 93 ls [.inl x] m = some (some (.inl x), m) := e_int d45_93 (by decide +kernel)
theorem d45_94 : decode (mt 45).2.1 94 = .ok (.aload_n 0, 1) := by decide +kernel
theorem s45_94 {a1 a2 a3 a4 a5 : Option AV} {st : List AV} {m : MM} {x : Nat × Option Nat} : go 45 94 [some (.inr (.inr x)), a1, a2, a3, a4, a5] st m = go 45 95 [some (.inr (.inr x)), a1, a2, a3, a4, a5] (.inr (.inr x) :: st) m := e_1 d45_94 (Or.inl rfl) rfl
theorem d45_95 : decode (mt 45).2.1 95 = .ok (.getfield 35, 3) := by decide +kernel
theorem s45_95 {ls : LV} {st : List AV} {m : MM} {n : Nat} : go 45 95 ls (.inr (.inr (7, some n)) :: st) m = go 45 98 ls (.inr (.inr (2, mR m 7 n 7)) :: st) m := e_1 d45_95 (Or.inl rfl) (by rw [xi, pA, show lk fdL (mt 45).2.2.1 35 = some (7, 7) by decide +kernel]; rfl)
theorem d45_98 : decode (mt 45).2.1 98 = .ok (.iconst 1, 1) := by decide +kernel
theorem s45_98 {ls : LV} {st : List AV} {m : MM} : go 45 98 ls st m = go 45 99 ls (.inl 1 :: st) m := e_1 d45_98 (Or.inl rfl) rfl
theorem d45_99 : decode (mt 45).2.1 99 = .ok (.aload_n 3, 1) := by decide +kernel
theorem s45_99 {a0 a1 a2 a4 a5 : Option AV} {st : List AV} {m : MM} {x : Nat × Option Nat} : go 45 99 [a0, a1, a2, some (.inr (.inr x)), a4, a5] st m = go 45 100 [a0, a1, a2, some (.inr (.inr x)), a4, a5] (.inr (.inr x) :: st) m := e_1 d45_99 (Or.inl rfl) rfl
theorem d45_100 : decode (mt 45).2.1 100 = .ok (.invokevirtual 80, 3) := by decide +kernel
theorem s45_100 {ls : LV} {m : MM} {x0 : Int32} {x1 : Nat × Option Nat} {n : Nat} : go 45 100 ls [.inr (.inr x1), .inl x0, .inr (.inr (2, some n))] m = bd (go 7 0 [some (.inr (.inr (2, some n))), some (.inl x0), some (.inr (.inr x1))] [] m) (fun v m2 => go 45 103 ls (v.toList ++ []) m2) := e_virt (y1 := 7) (na := 2) (as := [.inl x0, .inr (.inr x1)]) (rest := []) d45_100 (by decide +kernel) rfl (by decide +kernel) (show (ent [.inr (.inr (2, some n)), .inl x0, .inr (.inr x1)]).length ≤ (mt 7).2.2.2.1 from Nat.le_of_ble_eq_true rfl) (cats_le (Nat.le_of_ble_eq_true rfl)) (by decide +kernel)
theorem d45_103 : decode (mt 45).2.1 103 = .ok (.aload_n 3, 1) := by decide +kernel
theorem s45_103 {a0 a1 a2 a4 a5 : Option AV} {st : List AV} {m : MM} {x : Nat × Option Nat} : go 45 103 [a0, a1, a2, some (.inr (.inr x)), a4, a5] st m = go 45 104 [a0, a1, a2, some (.inr (.inr x)), a4, a5] (.inr (.inr x) :: st) m := e_1 d45_103 (Or.inl rfl) rfl
theorem d45_104 : decode (mt 45).2.1 104 = .ok (.iconst 1, 1) := by decide +kernel
theorem s45_104 {ls : LV} {st : List AV} {m : MM} : go 45 104 ls st m = go 45 105 ls (.inl 1 :: st) m := e_1 d45_104 (Or.inl rfl) rfl
theorem d45_105 : decode (mt 45).2.1 105 = .ok (.putfield 61, 3) := by decide +kernel
theorem s45_105 {ls : LV} {st : List AV} {m : MM} {n : Nat} {x : Int32} : go 45 105 ls (.inl x :: .inr (.inr (6, some n)) :: st) m = go 45 108 ls st (sI m 6 n 3 x) := e_put (r := 6) (f := 3) d45_105 (by decide +kernel) rfl (by decide +kernel)
theorem d45_108 : decode (mt 45).2.1 108 = .ok (.aload_n 0, 1) := by decide +kernel
theorem s45_108 {a1 a2 a3 a4 a5 : Option AV} {st : List AV} {m : MM} {x : Nat × Option Nat} : go 45 108 [some (.inr (.inr x)), a1, a2, a3, a4, a5] st m = go 45 109 [some (.inr (.inr x)), a1, a2, a3, a4, a5] (.inr (.inr x) :: st) m := e_1 d45_108 (Or.inl rfl) rfl
theorem d45_109 : decode (mt 45).2.1 109 = .ok (.getfield 28, 3) := by decide +kernel
theorem s45_109 {ls : LV} {st : List AV} {m : MM} {n : Nat} : go 45 109 ls (.inr (.inr (7, some n)) :: st) m = go 45 112 ls (.inr (.inr (3, mR m 7 n 6)) :: st) m := e_1 d45_109 (Or.inl rfl) (by rw [xi, pA, show lk fdL (mt 45).2.2.1 28 = some (7, 6) by decide +kernel]; rfl)
theorem d45_112 : decode (mt 45).2.1 112 = .ok (.iconst 5, 1) := by decide +kernel
theorem s45_112 {ls : LV} {st : List AV} {m : MM} : go 45 112 ls st m = go 45 113 ls (.inl 5 :: st) m := e_1 d45_112 (Or.inl rfl) rfl
theorem d45_113 : decode (mt 45).2.1 113 = .ok (.aload 4, 2) := by decide +kernel
theorem s45_113 {a0 a1 a2 a3 a5 : Option AV} {st : List AV} {m : MM} {x : Nat × Option Nat} : go 45 113 [a0, a1, a2, a3, some (.inr (.inr x)), a5] st m = go 45 115 [a0, a1, a2, a3, some (.inr (.inr x)), a5] (.inr (.inr x) :: st) m := e_1 d45_113 (Or.inl rfl) rfl
theorem d45_115 : decode (mt 45).2.1 115 = .ok (.invokevirtual 84, 3) := by decide +kernel
theorem s45_115 {ls : LV} {m : MM} {x0 : Int32} {x1 : Nat × Option Nat} {n : Nat} : go 45 115 ls [.inr (.inr x1), .inl x0, .inr (.inr (3, some n))] m = bd (go 11 0 [some (.inr (.inr (3, some n))), some (.inl x0), some (.inr (.inr x1))] [] m) (fun v m2 => go 45 118 ls (v.toList ++ []) m2) := e_virt (y1 := 11) (na := 2) (as := [.inl x0, .inr (.inr x1)]) (rest := []) d45_115 (by decide +kernel) rfl (by decide +kernel) (show (ent [.inr (.inr (3, some n)), .inl x0, .inr (.inr x1)]).length ≤ (mt 11).2.2.2.1 from Nat.le_of_ble_eq_true rfl) (cats_le (Nat.le_of_ble_eq_true rfl)) (by decide +kernel)
theorem d45_118 : decode (mt 45).2.1 118 = .ok (.iconst 1, 1) := by decide +kernel
theorem s45_118 {ls : LV} {st : List AV} {m : MM} : go 45 118 ls st m = go 45 119 ls (.inl 1 :: st) m := e_1 d45_118 (Or.inl rfl) rfl
theorem d45_119 : decode (mt 45).2.1 119 = .ok (.ireturn, 1) := by decide +kernel
theorem s45_119 {ls : LV} {m : MM} {x : Int32} : go 45 119 ls [.inl x] m = some (some (.inl x), m) := e_int d45_119 (by decide +kernel)
/-! X6_leave: 46 -/
theorem d46_0 : decode (mt 46).2.1 0 = .ok (.aload_n 0, 1) := by decide +kernel
theorem s46_0 {a1 a2 : Option AV} {st : List AV} {m : MM} {x : Nat × Option Nat} : go 46 0 [some (.inr (.inr x)), a1, a2] st m = go 46 1 [some (.inr (.inr x)), a1, a2] (.inr (.inr x) :: st) m := e_1 d46_0 (Or.inl rfl) rfl
theorem d46_1 : decode (mt 46).2.1 1 = .ok (.iload_n 1, 1) := by decide +kernel
theorem s46_1 {a0 a2 : Option AV} {st : List AV} {m : MM} {x : Int32} : go 46 1 [a0, some (.inl x), a2] st m = go 46 2 [a0, some (.inl x), a2] (.inl x :: st) m := e_1 d46_1 (Or.inl rfl) rfl
theorem d46_2 : decode (mt 46).2.1 2 = .ok (.invokevirtual 64, 3) := by decide +kernel
theorem s46_2 {ls : LV} {m : MM} {x0 : Int32} {n : Nat} : go 46 2 ls [.inl x0, .inr (.inr (7, some n))] m = bd (go 43 0 [some (.inr (.inr (7, some n))), some (.inl x0)] [] m) (fun v m2 => go 46 5 ls (v.toList ++ []) m2) := e_virt (y1 := 43) (na := 1) (as := [.inl x0]) (rest := []) d46_2 (by decide +kernel) rfl (by decide +kernel) (show (ent [.inr (.inr (7, some n)), .inl x0]).length ≤ (mt 43).2.2.2.1 from Nat.le_of_ble_eq_true rfl) (cats_le (Nat.le_of_ble_eq_true rfl)) (by decide +kernel)
theorem d46_5 : decode (mt 46).2.1 5 = .ok (.astore_n 2, 1) := by decide +kernel
theorem s46_5i {a0 a2 : Option AV} {z : Int32} {st : List AV} {m : MM} {x : Nat × Option Nat} : go 46 5 [a0, some (.inl z), a2] (.inr (.inr x) :: st) m = go 46 6 [a0, some (.inl z), some (.inr (.inr x))] st m := e_1 d46_5 (Or.inl rfl) rfl
theorem s46_5r {a0 a2 : Option AV} {z : Nat × Option Nat} {st : List AV} {m : MM} {x : Nat × Option Nat} : go 46 5 [a0, some (.inr (.inr z)), a2] (.inr (.inr x) :: st) m = go 46 6 [a0, some (.inr (.inr z)), some (.inr (.inr x))] st m := e_1 d46_5 (Or.inl rfl) rfl
theorem s46_5n {a0 a2 : Option AV} {st : List AV} {m : MM} {x : Nat × Option Nat} : go 46 5 [a0, none, a2] (.inr (.inr x) :: st) m = go 46 6 [a0, none, some (.inr (.inr x))] st m := e_1 d46_5 (Or.inl rfl) rfl
theorem d46_6 : decode (mt 46).2.1 6 = .ok (.aload_n 2, 1) := by decide +kernel
theorem s46_6 {a0 a1 : Option AV} {st : List AV} {m : MM} {x : Nat × Option Nat} : go 46 6 [a0, a1, some (.inr (.inr x))] st m = go 46 7 [a0, a1, some (.inr (.inr x))] (.inr (.inr x) :: st) m := e_1 d46_6 (Or.inl rfl) rfl
theorem d46_7 : decode (mt 46).2.1 7 = .ok (.ifnonnull 5, 3) := by decide +kernel
theorem s46_7n {u : Nat} {ls : LV} {st : List AV} {m : MM} : go 46 7 ls (.inr (.inr (u, none)) :: st) m = go 46 10 ls st m := e_1 d46_7 (Or.inl rfl) (by rw [xi, jm_some (t := 12) (by decide)]; rfl)
theorem s46_7s {u n : Nat} {ls : LV} {st : List AV} {m : MM} : go 46 7 ls (.inr (.inr (u, some n)) :: st) m = go 46 12 ls st m := e_1 d46_7 (Or.inl rfl) (by rw [xi, jm_some (t := 12) (by decide)]; rfl)
theorem d46_10 : decode (mt 46).2.1 10 = .ok (.iconst (-1), 1) := by decide +kernel
theorem s46_10 {ls : LV} {st : List AV} {m : MM} : go 46 10 ls st m = go 46 11 ls (.inl (-1) :: st) m := e_1 d46_10 (Or.inl rfl) rfl
theorem d46_11 : decode (mt 46).2.1 11 = .ok (.ireturn, 1) := by decide +kernel
theorem s46_11 {ls : LV} {m : MM} {x : Int32} : go 46 11 ls [.inl x] m = some (some (.inl x), m) := e_int d46_11 (by decide +kernel)
theorem d46_12 : decode (mt 46).2.1 12 = .ok (.aload_n 0, 1) := by decide +kernel
theorem s46_12 {a1 a2 : Option AV} {st : List AV} {m : MM} {x : Nat × Option Nat} : go 46 12 [some (.inr (.inr x)), a1, a2] st m = go 46 13 [some (.inr (.inr x)), a1, a2] (.inr (.inr x) :: st) m := e_1 d46_12 (Or.inl rfl) rfl
theorem d46_13 : decode (mt 46).2.1 13 = .ok (.getfield 35, 3) := by decide +kernel
theorem s46_13 {ls : LV} {st : List AV} {m : MM} {n : Nat} : go 46 13 ls (.inr (.inr (7, some n)) :: st) m = go 46 16 ls (.inr (.inr (2, mR m 7 n 7)) :: st) m := e_1 d46_13 (Or.inl rfl) (by rw [xi, pA, show lk fdL (mt 46).2.2.1 35 = some (7, 7) by decide +kernel]; rfl)
theorem d46_16 : decode (mt 46).2.1 16 = .ok (.invokevirtual 72, 3) := by decide +kernel
theorem s46_16 {ls : LV} {m : MM} {n : Nat} : go 46 16 ls [.inr (.inr (2, some n))] m = bd (go 6 0 [some (.inr (.inr (2, some n)))] [] m) (fun v m2 => go 46 19 ls (v.toList ++ []) m2) := e_virt (y1 := 6) (na := 0) (as := []) (rest := []) d46_16 (by decide +kernel) rfl (by decide +kernel) (show (ent [.inr (.inr (2, some n))]).length ≤ (mt 6).2.2.2.1 from Nat.le_of_ble_eq_true rfl) (cats_le (Nat.le_of_ble_eq_true rfl)) (by decide +kernel)
theorem d46_19 : decode (mt 46).2.1 19 = .ok (.ifCond .ne 11, 3) := by decide +kernel
theorem s46_19 {ls : LV} {st : List AV} {m : MM} {a : Int32} : go 46 19 ls (.inl a :: st) m = if ¬ a = 0 then go 46 30 ls st m else go 46 22 ls st m := e_if (t := 30) (b := hc .ne a 0) d46_19 (Or.inl rfl) (by simp only [xi, pI, jm_some (t := 30) (show ((19 : Nat) : Int) + 11 = ((30 : Nat) : Int) by decide), Option.bind_some]) (by simp [hc])
theorem d46_22 : decode (mt 46).2.1 22 = .ok (.aload_n 2, 1) := by decide +kernel
theorem s46_22 {a0 a1 : Option AV} {st : List AV} {m : MM} {x : Nat × Option Nat} : go 46 22 [a0, a1, some (.inr (.inr x))] st m = go 46 23 [a0, a1, some (.inr (.inr x))] (.inr (.inr x) :: st) m := e_1 d46_22 (Or.inl rfl) rfl
theorem d46_23 : decode (mt 46).2.1 23 = .ok (.getfield 61, 3) := by decide +kernel
theorem s46_23 {ls : LV} {st : List AV} {m : MM} {n : Nat} : go 46 23 ls (.inr (.inr (6, some n)) :: st) m = go 46 26 ls (.inl (mI m 6 n 3) :: st) m := e_1 d46_23 (Or.inl rfl) (by rw [xi, pA, show lk fdL (mt 46).2.2.1 61 = some (6, 3) by decide +kernel]; rfl)
theorem d46_26 : decode (mt 46).2.1 26 = .ok (.iconst 2, 1) := by decide +kernel
theorem s46_26 {ls : LV} {st : List AV} {m : MM} : go 46 26 ls st m = go 46 27 ls (.inl 2 :: st) m := e_1 d46_26 (Or.inl rfl) rfl
theorem d46_27 : decode (mt 46).2.1 27 = .ok (.if_icmp .eq 6, 3) := by decide +kernel
theorem s46_27 {ls : LV} {st : List AV} {m : MM} {a b : Int32} : go 46 27 ls (.inl b :: .inl a :: st) m = if a = b then go 46 33 ls st m else go 46 30 ls st m := e_if (t := 33) (b := hc .eq a b) d46_27 (Or.inl rfl) (by simp only [xi, pI, jm_some (t := 33) (show ((27 : Nat) : Int) + 6 = ((33 : Nat) : Int) by decide), Option.bind_some]) (by simp [hc])
theorem d46_30 : decode (mt 46).2.1 30 = .ok (.bipush (-2), 2) := by decide +kernel
theorem s46_30 {ls : LV} {st : List AV} {m : MM} : go 46 30 ls st m = go 46 32 ls (.inl (-2) :: st) m := e_1 d46_30 (Or.inl rfl) rfl
theorem d46_32 : decode (mt 46).2.1 32 = .ok (.ireturn, 1) := by decide +kernel
theorem s46_32 {ls : LV} {m : MM} {x : Int32} : go 46 32 ls [.inl x] m = some (some (.inl x), m) := e_int d46_32 (by decide +kernel)
theorem d46_33 : decode (mt 46).2.1 33 = .ok (.aload_n 0, 1) := by decide +kernel
theorem s46_33 {a1 a2 : Option AV} {st : List AV} {m : MM} {x : Nat × Option Nat} : go 46 33 [some (.inr (.inr x)), a1, a2] st m = go 46 34 [some (.inr (.inr x)), a1, a2] (.inr (.inr x) :: st) m := e_1 d46_33 (Or.inl rfl) rfl
theorem d46_34 : decode (mt 46).2.1 34 = .ok (.getfield 35, 3) := by decide +kernel
theorem s46_34 {ls : LV} {st : List AV} {m : MM} {n : Nat} : go 46 34 ls (.inr (.inr (7, some n)) :: st) m = go 46 37 ls (.inr (.inr (2, mR m 7 n 7)) :: st) m := e_1 d46_34 (Or.inl rfl) (by rw [xi, pA, show lk fdL (mt 46).2.2.1 35 = some (7, 7) by decide +kernel]; rfl)
theorem d46_37 : decode (mt 46).2.1 37 = .ok (.iconst 2, 1) := by decide +kernel
theorem s46_37 {ls : LV} {st : List AV} {m : MM} : go 46 37 ls st m = go 46 38 ls (.inl 2 :: st) m := e_1 d46_37 (Or.inl rfl) rfl
theorem d46_38 : decode (mt 46).2.1 38 = .ok (.aload_n 2, 1) := by decide +kernel
theorem s46_38 {a0 a1 : Option AV} {st : List AV} {m : MM} {x : Nat × Option Nat} : go 46 38 [a0, a1, some (.inr (.inr x))] st m = go 46 39 [a0, a1, some (.inr (.inr x))] (.inr (.inr x) :: st) m := e_1 d46_38 (Or.inl rfl) rfl
theorem d46_39 : decode (mt 46).2.1 39 = .ok (.invokevirtual 80, 3) := by decide +kernel
theorem s46_39 {ls : LV} {m : MM} {x0 : Int32} {x1 : Nat × Option Nat} {n : Nat} : go 46 39 ls [.inr (.inr x1), .inl x0, .inr (.inr (2, some n))] m = bd (go 7 0 [some (.inr (.inr (2, some n))), some (.inl x0), some (.inr (.inr x1))] [] m) (fun v m2 => go 46 42 ls (v.toList ++ []) m2) := e_virt (y1 := 7) (na := 2) (as := [.inl x0, .inr (.inr x1)]) (rest := []) d46_39 (by decide +kernel) rfl (by decide +kernel) (show (ent [.inr (.inr (2, some n)), .inl x0, .inr (.inr x1)]).length ≤ (mt 7).2.2.2.1 from Nat.le_of_ble_eq_true rfl) (cats_le (Nat.le_of_ble_eq_true rfl)) (by decide +kernel)
theorem d46_42 : decode (mt 46).2.1 42 = .ok (.aload_n 2, 1) := by decide +kernel
theorem s46_42 {a0 a1 : Option AV} {st : List AV} {m : MM} {x : Nat × Option Nat} : go 46 42 [a0, a1, some (.inr (.inr x))] st m = go 46 43 [a0, a1, some (.inr (.inr x))] (.inr (.inr x) :: st) m := e_1 d46_42 (Or.inl rfl) rfl
theorem d46_43 : decode (mt 46).2.1 43 = .ok (.iconst 3, 1) := by decide +kernel
theorem s46_43 {ls : LV} {st : List AV} {m : MM} : go 46 43 ls st m = go 46 44 ls (.inl 3 :: st) m := e_1 d46_43 (Or.inl rfl) rfl
theorem d46_44 : decode (mt 46).2.1 44 = .ok (.putfield 61, 3) := by decide +kernel
theorem s46_44 {ls : LV} {st : List AV} {m : MM} {n : Nat} {x : Int32} : go 46 44 ls (.inl x :: .inr (.inr (6, some n)) :: st) m = go 46 47 ls st (sI m 6 n 3 x) := e_put (r := 6) (f := 3) d46_44 (by decide +kernel) rfl (by decide +kernel)
theorem d46_47 : decode (mt 46).2.1 47 = .ok (.aload_n 0, 1) := by decide +kernel
theorem s46_47 {a1 a2 : Option AV} {st : List AV} {m : MM} {x : Nat × Option Nat} : go 46 47 [some (.inr (.inr x)), a1, a2] st m = go 46 48 [some (.inr (.inr x)), a1, a2] (.inr (.inr x) :: st) m := e_1 d46_47 (Or.inl rfl) rfl
theorem d46_48 : decode (mt 46).2.1 48 = .ok (.aload_n 2, 1) := by decide +kernel
theorem s46_48 {a0 a1 : Option AV} {st : List AV} {m : MM} {x : Nat × Option Nat} : go 46 48 [a0, a1, some (.inr (.inr x))] st m = go 46 49 [a0, a1, some (.inr (.inr x))] (.inr (.inr x) :: st) m := e_1 d46_48 (Or.inl rfl) rfl
theorem d46_49 : decode (mt 46).2.1 49 = .ok (.iconst 0, 1) := by decide +kernel
theorem s46_49 {ls : LV} {st : List AV} {m : MM} : go 46 49 ls st m = go 46 50 ls (.inl 0 :: st) m := e_1 d46_49 (Or.inl rfl) rfl
theorem d46_50 : decode (mt 46).2.1 50 = .ok (.invokevirtual 87, 3) := by decide +kernel
theorem s46_50 {ls : LV} {m : MM} {x0 : Nat × Option Nat} {x1 : Int32} {n : Nat} : go 46 50 ls [.inl x1, .inr (.inr x0), .inr (.inr (7, some n))] m = bd (go 48 0 [some (.inr (.inr (7, some n))), some (.inr (.inr x0)), some (.inl x1), none, none, none] [] m) (fun v m2 => go 46 53 ls (v.toList ++ []) m2) := e_virt (y1 := 48) (na := 2) (as := [.inr (.inr x0), .inl x1]) (rest := []) d46_50 (by decide +kernel) rfl (by decide +kernel) (show (ent [.inr (.inr (7, some n)), .inr (.inr x0), .inl x1]).length ≤ (mt 48).2.2.2.1 from Nat.le_of_ble_eq_true rfl) (cats_le (Nat.le_of_ble_eq_true rfl)) (by decide +kernel)
theorem d46_53 : decode (mt 46).2.1 53 = .ok (.aload_n 0, 1) := by decide +kernel
theorem s46_53 {a1 a2 : Option AV} {st : List AV} {m : MM} {x : Nat × Option Nat} : go 46 53 [some (.inr (.inr x)), a1, a2] st m = go 46 54 [some (.inr (.inr x)), a1, a2] (.inr (.inr x) :: st) m := e_1 d46_53 (Or.inl rfl) rfl
theorem d46_54 : decode (mt 46).2.1 54 = .ok (.aload_n 2, 1) := by decide +kernel
theorem s46_54 {a0 a1 : Option AV} {st : List AV} {m : MM} {x : Nat × Option Nat} : go 46 54 [a0, a1, some (.inr (.inr x))] st m = go 46 55 [a0, a1, some (.inr (.inr x))] (.inr (.inr x) :: st) m := e_1 d46_54 (Or.inl rfl) rfl
theorem d46_55 : decode (mt 46).2.1 55 = .ok (.invokevirtual 91, 3) := by decide +kernel
theorem s46_55 {ls : LV} {m : MM} {x0 : Nat × Option Nat} {n : Nat} : go 46 55 ls [.inr (.inr x0), .inr (.inr (7, some n))] m = bd (go 49 0 [some (.inr (.inr (7, some n))), some (.inr (.inr x0)), none] [] m) (fun v m2 => go 46 58 ls (v.toList ++ []) m2) := e_virt (y1 := 49) (na := 1) (as := [.inr (.inr x0)]) (rest := []) d46_55 (by decide +kernel) rfl (by decide +kernel) (show (ent [.inr (.inr (7, some n)), .inr (.inr x0)]).length ≤ (mt 49).2.2.2.1 from Nat.le_of_ble_eq_true rfl) (cats_le (Nat.le_of_ble_eq_true rfl)) (by decide +kernel)
theorem d46_58 : decode (mt 46).2.1 58 = .ok (.aload_n 0, 1) := by decide +kernel
theorem s46_58 {a1 a2 : Option AV} {st : List AV} {m : MM} {x : Nat × Option Nat} : go 46 58 [some (.inr (.inr x)), a1, a2] st m = go 46 59 [some (.inr (.inr x)), a1, a2] (.inr (.inr x) :: st) m := e_1 d46_58 (Or.inl rfl) rfl
theorem d46_59 : decode (mt 46).2.1 59 = .ok (.invokevirtual 95, 3) := by decide +kernel
theorem s46_59 {ls : LV} {m : MM} {n : Nat} : go 46 59 ls [.inr (.inr (7, some n))] m = bd (go 51 0 [some (.inr (.inr (7, some n)))] [] m) (fun v m2 => go 46 62 ls (v.toList ++ []) m2) := e_virt (y1 := 51) (na := 0) (as := []) (rest := []) d46_59 (by decide +kernel) rfl (by decide +kernel) (show (ent [.inr (.inr (7, some n))]).length ≤ (mt 51).2.2.2.1 from Nat.le_of_ble_eq_true rfl) (cats_le (Nat.le_of_ble_eq_true rfl)) (by decide +kernel)
theorem d46_62 : decode (mt 46).2.1 62 = .ok (.iconst 1, 1) := by decide +kernel
theorem s46_62 {ls : LV} {st : List AV} {m : MM} : go 46 62 ls st m = go 46 63 ls (.inl 1 :: st) m := e_1 d46_62 (Or.inl rfl) rfl
theorem d46_63 : decode (mt 46).2.1 63 = .ok (.ireturn, 1) := by decide +kernel
theorem s46_63 {ls : LV} {m : MM} {x : Int32} : go 46 63 ls [.inl x] m = some (some (.inl x), m) := e_int d46_63 (by decide +kernel)
/-! X6_again: 47 -/
theorem d47_0 : decode (mt 47).2.1 0 = .ok (.aload_n 0, 1) := by decide +kernel
theorem s47_0 {a1 a2 a3 : Option AV} {st : List AV} {m : MM} {x : Nat × Option Nat} : go 47 0 [some (.inr (.inr x)), a1, a2, a3] st m = go 47 1 [some (.inr (.inr x)), a1, a2, a3] (.inr (.inr x) :: st) m := e_1 d47_0 (Or.inl rfl) rfl
theorem d47_1 : decode (mt 47).2.1 1 = .ok (.iload_n 1, 1) := by decide +kernel
theorem s47_1 {a0 a2 a3 : Option AV} {st : List AV} {m : MM} {x : Int32} : go 47 1 [a0, some (.inl x), a2, a3] st m = go 47 2 [a0, some (.inl x), a2, a3] (.inl x :: st) m := e_1 d47_1 (Or.inl rfl) rfl
theorem d47_2 : decode (mt 47).2.1 2 = .ok (.invokevirtual 64, 3) := by decide +kernel
theorem s47_2 {ls : LV} {m : MM} {x0 : Int32} {n : Nat} : go 47 2 ls [.inl x0, .inr (.inr (7, some n))] m = bd (go 43 0 [some (.inr (.inr (7, some n))), some (.inl x0)] [] m) (fun v m2 => go 47 5 ls (v.toList ++ []) m2) := e_virt (y1 := 43) (na := 1) (as := [.inl x0]) (rest := []) d47_2 (by decide +kernel) rfl (by decide +kernel) (show (ent [.inr (.inr (7, some n)), .inl x0]).length ≤ (mt 43).2.2.2.1 from Nat.le_of_ble_eq_true rfl) (cats_le (Nat.le_of_ble_eq_true rfl)) (by decide +kernel)
theorem d47_5 : decode (mt 47).2.1 5 = .ok (.astore_n 3, 1) := by decide +kernel
theorem s47_5i {a0 a1 a3 : Option AV} {z : Int32} {st : List AV} {m : MM} {x : Nat × Option Nat} : go 47 5 [a0, a1, some (.inl z), a3] (.inr (.inr x) :: st) m = go 47 6 [a0, a1, some (.inl z), some (.inr (.inr x))] st m := e_1 d47_5 (Or.inl rfl) rfl
theorem s47_5r {a0 a1 a3 : Option AV} {z : Nat × Option Nat} {st : List AV} {m : MM} {x : Nat × Option Nat} : go 47 5 [a0, a1, some (.inr (.inr z)), a3] (.inr (.inr x) :: st) m = go 47 6 [a0, a1, some (.inr (.inr z)), some (.inr (.inr x))] st m := e_1 d47_5 (Or.inl rfl) rfl
theorem s47_5n {a0 a1 a3 : Option AV} {st : List AV} {m : MM} {x : Nat × Option Nat} : go 47 5 [a0, a1, none, a3] (.inr (.inr x) :: st) m = go 47 6 [a0, a1, none, some (.inr (.inr x))] st m := e_1 d47_5 (Or.inl rfl) rfl
theorem d47_6 : decode (mt 47).2.1 6 = .ok (.aload_n 3, 1) := by decide +kernel
theorem s47_6 {a0 a1 a2 : Option AV} {st : List AV} {m : MM} {x : Nat × Option Nat} : go 47 6 [a0, a1, a2, some (.inr (.inr x))] st m = go 47 7 [a0, a1, a2, some (.inr (.inr x))] (.inr (.inr x) :: st) m := e_1 d47_6 (Or.inl rfl) rfl
theorem d47_7 : decode (mt 47).2.1 7 = .ok (.ifnull 14, 3) := by decide +kernel
theorem s47_7n {u : Nat} {ls : LV} {st : List AV} {m : MM} : go 47 7 ls (.inr (.inr (u, none)) :: st) m = go 47 21 ls st m := e_1 d47_7 (Or.inl rfl) (by rw [xi, jm_some (t := 21) (by decide)]; rfl)
theorem s47_7s {u n : Nat} {ls : LV} {st : List AV} {m : MM} : go 47 7 ls (.inr (.inr (u, some n)) :: st) m = go 47 10 ls st m := e_1 d47_7 (Or.inl rfl) (by rw [xi, jm_some (t := 21) (by decide)]; rfl)
theorem d47_10 : decode (mt 47).2.1 10 = .ok (.iload_n 2, 1) := by decide +kernel
theorem s47_10 {a0 a1 a3 : Option AV} {st : List AV} {m : MM} {x : Int32} : go 47 10 [a0, a1, some (.inl x), a3] st m = go 47 11 [a0, a1, some (.inl x), a3] (.inl x :: st) m := e_1 d47_10 (Or.inl rfl) rfl
theorem d47_11 : decode (mt 47).2.1 11 = .ok (.ifCond .lt 10, 3) := by decide +kernel
theorem s47_11 {ls : LV} {st : List AV} {m : MM} {a : Int32} : go 47 11 ls (.inl a :: st) m = if a < 0 then go 47 21 ls st m else go 47 14 ls st m := e_if (t := 21) (b := hc .lt a 0) d47_11 (Or.inl rfl) (by simp only [xi, pI, jm_some (t := 21) (show ((11 : Nat) : Int) + 10 = ((21 : Nat) : Int) by decide), Option.bind_some]) (by simp [hc])
theorem d47_14 : decode (mt 47).2.1 14 = .ok (.iload_n 2, 1) := by decide +kernel
theorem s47_14 {a0 a1 a3 : Option AV} {st : List AV} {m : MM} {x : Int32} : go 47 14 [a0, a1, some (.inl x), a3] st m = go 47 15 [a0, a1, some (.inl x), a3] (.inl x :: st) m := e_1 d47_14 (Or.inl rfl) rfl
theorem d47_15 : decode (mt 47).2.1 15 = .ok (.sipush 255, 3) := by decide +kernel
theorem s47_15 {ls : LV} {st : List AV} {m : MM} : go 47 15 ls st m = go 47 18 ls (.inl 255 :: st) m := e_1 d47_15 (Or.inl rfl) rfl
theorem d47_18 : decode (mt 47).2.1 18 = .ok (.if_icmp .le 5, 3) := by decide +kernel
theorem s47_18 {ls : LV} {st : List AV} {m : MM} {a b : Int32} : go 47 18 ls (.inl b :: .inl a :: st) m = if a ≤ b then go 47 23 ls st m else go 47 21 ls st m := e_if (t := 23) (b := hc .le a b) d47_18 (Or.inl rfl) (by simp only [xi, pI, jm_some (t := 23) (show ((18 : Nat) : Int) + 5 = ((23 : Nat) : Int) by decide), Option.bind_some]) (by simp [hc])
theorem d47_21 : decode (mt 47).2.1 21 = .ok (.iconst (-1), 1) := by decide +kernel
theorem s47_21 {ls : LV} {st : List AV} {m : MM} : go 47 21 ls st m = go 47 22 ls (.inl (-1) :: st) m := e_1 d47_21 (Or.inl rfl) rfl
theorem d47_22 : decode (mt 47).2.1 22 = .ok (.ireturn, 1) := by decide +kernel
theorem s47_22 {ls : LV} {m : MM} {x : Int32} : go 47 22 ls [.inl x] m = some (some (.inl x), m) := e_int d47_22 (by decide +kernel)
theorem d47_23 : decode (mt 47).2.1 23 = .ok (.aload_n 0, 1) := by decide +kernel
theorem s47_23 {a1 a2 a3 : Option AV} {st : List AV} {m : MM} {x : Nat × Option Nat} : go 47 23 [some (.inr (.inr x)), a1, a2, a3] st m = go 47 24 [some (.inr (.inr x)), a1, a2, a3] (.inr (.inr x) :: st) m := e_1 d47_23 (Or.inl rfl) rfl
theorem d47_24 : decode (mt 47).2.1 24 = .ok (.getfield 35, 3) := by decide +kernel
theorem s47_24 {ls : LV} {st : List AV} {m : MM} {n : Nat} : go 47 24 ls (.inr (.inr (7, some n)) :: st) m = go 47 27 ls (.inr (.inr (2, mR m 7 n 7)) :: st) m := e_1 d47_24 (Or.inl rfl) (by rw [xi, pA, show lk fdL (mt 47).2.2.1 35 = some (7, 7) by decide +kernel]; rfl)
theorem d47_27 : decode (mt 47).2.1 27 = .ok (.invokevirtual 72, 3) := by decide +kernel
theorem s47_27 {ls : LV} {m : MM} {n : Nat} : go 47 27 ls [.inr (.inr (2, some n))] m = bd (go 6 0 [some (.inr (.inr (2, some n)))] [] m) (fun v m2 => go 47 30 ls (v.toList ++ []) m2) := e_virt (y1 := 6) (na := 0) (as := []) (rest := []) d47_27 (by decide +kernel) rfl (by decide +kernel) (show (ent [.inr (.inr (2, some n))]).length ≤ (mt 6).2.2.2.1 from Nat.le_of_ble_eq_true rfl) (cats_le (Nat.le_of_ble_eq_true rfl)) (by decide +kernel)
theorem d47_30 : decode (mt 47).2.1 30 = .ok (.ifCond .ne 11, 3) := by decide +kernel
theorem s47_30 {ls : LV} {st : List AV} {m : MM} {a : Int32} : go 47 30 ls (.inl a :: st) m = if ¬ a = 0 then go 47 41 ls st m else go 47 33 ls st m := e_if (t := 41) (b := hc .ne a 0) d47_30 (Or.inl rfl) (by simp only [xi, pI, jm_some (t := 41) (show ((30 : Nat) : Int) + 11 = ((41 : Nat) : Int) by decide), Option.bind_some]) (by simp [hc])
theorem d47_33 : decode (mt 47).2.1 33 = .ok (.aload_n 3, 1) := by decide +kernel
theorem s47_33 {a0 a1 a2 : Option AV} {st : List AV} {m : MM} {x : Nat × Option Nat} : go 47 33 [a0, a1, a2, some (.inr (.inr x))] st m = go 47 34 [a0, a1, a2, some (.inr (.inr x))] (.inr (.inr x) :: st) m := e_1 d47_33 (Or.inl rfl) rfl
theorem d47_34 : decode (mt 47).2.1 34 = .ok (.getfield 61, 3) := by decide +kernel
theorem s47_34 {ls : LV} {st : List AV} {m : MM} {n : Nat} : go 47 34 ls (.inr (.inr (6, some n)) :: st) m = go 47 37 ls (.inl (mI m 6 n 3) :: st) m := e_1 d47_34 (Or.inl rfl) (by rw [xi, pA, show lk fdL (mt 47).2.2.1 61 = some (6, 3) by decide +kernel]; rfl)
theorem d47_37 : decode (mt 47).2.1 37 = .ok (.iconst 2, 1) := by decide +kernel
theorem s47_37 {ls : LV} {st : List AV} {m : MM} : go 47 37 ls st m = go 47 38 ls (.inl 2 :: st) m := e_1 d47_37 (Or.inl rfl) rfl
theorem d47_38 : decode (mt 47).2.1 38 = .ok (.if_icmp .eq 6, 3) := by decide +kernel
theorem s47_38 {ls : LV} {st : List AV} {m : MM} {a b : Int32} : go 47 38 ls (.inl b :: .inl a :: st) m = if a = b then go 47 44 ls st m else go 47 41 ls st m := e_if (t := 44) (b := hc .eq a b) d47_38 (Or.inl rfl) (by simp only [xi, pI, jm_some (t := 44) (show ((38 : Nat) : Int) + 6 = ((44 : Nat) : Int) by decide), Option.bind_some]) (by simp [hc])
theorem d47_41 : decode (mt 47).2.1 41 = .ok (.bipush (-2), 2) := by decide +kernel
theorem s47_41 {ls : LV} {st : List AV} {m : MM} : go 47 41 ls st m = go 47 43 ls (.inl (-2) :: st) m := e_1 d47_41 (Or.inl rfl) rfl
theorem d47_43 : decode (mt 47).2.1 43 = .ok (.ireturn, 1) := by decide +kernel
theorem s47_43 {ls : LV} {m : MM} {x : Int32} : go 47 43 ls [.inl x] m = some (some (.inl x), m) := e_int d47_43 (by decide +kernel)
theorem d47_44 : decode (mt 47).2.1 44 = .ok (.aload_n 0, 1) := by decide +kernel
theorem s47_44 {a1 a2 a3 : Option AV} {st : List AV} {m : MM} {x : Nat × Option Nat} : go 47 44 [some (.inr (.inr x)), a1, a2, a3] st m = go 47 45 [some (.inr (.inr x)), a1, a2, a3] (.inr (.inr x) :: st) m := e_1 d47_44 (Or.inl rfl) rfl
theorem d47_45 : decode (mt 47).2.1 45 = .ok (.getfield 35, 3) := by decide +kernel
theorem s47_45 {ls : LV} {st : List AV} {m : MM} {n : Nat} : go 47 45 ls (.inr (.inr (7, some n)) :: st) m = go 47 48 ls (.inr (.inr (2, mR m 7 n 7)) :: st) m := e_1 d47_45 (Or.inl rfl) (by rw [xi, pA, show lk fdL (mt 47).2.2.1 35 = some (7, 7) by decide +kernel]; rfl)
theorem d47_48 : decode (mt 47).2.1 48 = .ok (.iconst 3, 1) := by decide +kernel
theorem s47_48 {ls : LV} {st : List AV} {m : MM} : go 47 48 ls st m = go 47 49 ls (.inl 3 :: st) m := e_1 d47_48 (Or.inl rfl) rfl
theorem d47_49 : decode (mt 47).2.1 49 = .ok (.aload_n 3, 1) := by decide +kernel
theorem s47_49 {a0 a1 a2 : Option AV} {st : List AV} {m : MM} {x : Nat × Option Nat} : go 47 49 [a0, a1, a2, some (.inr (.inr x))] st m = go 47 50 [a0, a1, a2, some (.inr (.inr x))] (.inr (.inr x) :: st) m := e_1 d47_49 (Or.inl rfl) rfl
theorem d47_50 : decode (mt 47).2.1 50 = .ok (.invokevirtual 80, 3) := by decide +kernel
theorem s47_50 {ls : LV} {m : MM} {x0 : Int32} {x1 : Nat × Option Nat} {n : Nat} : go 47 50 ls [.inr (.inr x1), .inl x0, .inr (.inr (2, some n))] m = bd (go 7 0 [some (.inr (.inr (2, some n))), some (.inl x0), some (.inr (.inr x1))] [] m) (fun v m2 => go 47 53 ls (v.toList ++ []) m2) := e_virt (y1 := 7) (na := 2) (as := [.inl x0, .inr (.inr x1)]) (rest := []) d47_50 (by decide +kernel) rfl (by decide +kernel) (show (ent [.inr (.inr (2, some n)), .inl x0, .inr (.inr x1)]).length ≤ (mt 7).2.2.2.1 from Nat.le_of_ble_eq_true rfl) (cats_le (Nat.le_of_ble_eq_true rfl)) (by decide +kernel)
theorem d47_53 : decode (mt 47).2.1 53 = .ok (.aload_n 0, 1) := by decide +kernel
theorem s47_53 {a1 a2 a3 : Option AV} {st : List AV} {m : MM} {x : Nat × Option Nat} : go 47 53 [some (.inr (.inr x)), a1, a2, a3] st m = go 47 54 [some (.inr (.inr x)), a1, a2, a3] (.inr (.inr x) :: st) m := e_1 d47_53 (Or.inl rfl) rfl
theorem d47_54 : decode (mt 47).2.1 54 = .ok (.getfield 35, 3) := by decide +kernel
theorem s47_54 {ls : LV} {st : List AV} {m : MM} {n : Nat} : go 47 54 ls (.inr (.inr (7, some n)) :: st) m = go 47 57 ls (.inr (.inr (2, mR m 7 n 7)) :: st) m := e_1 d47_54 (Or.inl rfl) (by rw [xi, pA, show lk fdL (mt 47).2.2.1 35 = some (7, 7) by decide +kernel]; rfl)
theorem d47_57 : decode (mt 47).2.1 57 = .ok (.iconst 1, 1) := by decide +kernel
theorem s47_57 {ls : LV} {st : List AV} {m : MM} : go 47 57 ls st m = go 47 58 ls (.inl 1 :: st) m := e_1 d47_57 (Or.inl rfl) rfl
theorem d47_58 : decode (mt 47).2.1 58 = .ok (.putfield 98, 3) := by decide +kernel
theorem s47_58b0 {ls : LV} {st : List AV} {m : MM} {n : Nat} : go 47 58 ls (.inl 0 :: .inr (.inr (2, some n)) :: st) m = go 47 61 ls st (sI m 2 n 2 0) := e_put (r := 2) (f := 2) d47_58 (by decide +kernel) rfl (by decide +kernel)
theorem s47_58b1 {ls : LV} {st : List AV} {m : MM} {n : Nat} : go 47 58 ls (.inl 1 :: .inr (.inr (2, some n)) :: st) m = go 47 61 ls st (sI m 2 n 2 1) := e_put (r := 2) (f := 2) d47_58 (by decide +kernel) rfl (by decide +kernel)
theorem d47_61 : decode (mt 47).2.1 61 = .ok (.aload_n 0, 1) := by decide +kernel
theorem s47_61 {a1 a2 a3 : Option AV} {st : List AV} {m : MM} {x : Nat × Option Nat} : go 47 61 [some (.inr (.inr x)), a1, a2, a3] st m = go 47 62 [some (.inr (.inr x)), a1, a2, a3] (.inr (.inr x) :: st) m := e_1 d47_61 (Or.inl rfl) rfl
theorem d47_62 : decode (mt 47).2.1 62 = .ok (.getfield 35, 3) := by decide +kernel
theorem s47_62 {ls : LV} {st : List AV} {m : MM} {n : Nat} : go 47 62 ls (.inr (.inr (7, some n)) :: st) m = go 47 65 ls (.inr (.inr (2, mR m 7 n 7)) :: st) m := e_1 d47_62 (Or.inl rfl) (by rw [xi, pA, show lk fdL (mt 47).2.2.1 35 = some (7, 7) by decide +kernel]; rfl)
theorem d47_65 : decode (mt 47).2.1 65 = .ok (.iload_n 2, 1) := by decide +kernel
theorem s47_65 {a0 a1 a3 : Option AV} {st : List AV} {m : MM} {x : Int32} : go 47 65 [a0, a1, some (.inl x), a3] st m = go 47 66 [a0, a1, some (.inl x), a3] (.inl x :: st) m := e_1 d47_65 (Or.inl rfl) rfl
theorem d47_66 : decode (mt 47).2.1 66 = .ok (.putfield 102, 3) := by decide +kernel
theorem s47_66 {ls : LV} {st : List AV} {m : MM} {n : Nat} {x : Int32} : go 47 66 ls (.inl x :: .inr (.inr (2, some n)) :: st) m = go 47 69 ls st (sI m 2 n 3 x) := e_put (r := 2) (f := 3) d47_66 (by decide +kernel) rfl (by decide +kernel)
theorem d47_69 : decode (mt 47).2.1 69 = .ok (.aload_n 0, 1) := by decide +kernel
theorem s47_69 {a1 a2 a3 : Option AV} {st : List AV} {m : MM} {x : Nat × Option Nat} : go 47 69 [some (.inr (.inr x)), a1, a2, a3] st m = go 47 70 [some (.inr (.inr x)), a1, a2, a3] (.inr (.inr x) :: st) m := e_1 d47_69 (Or.inl rfl) rfl
theorem d47_70 : decode (mt 47).2.1 70 = .ok (.aload_n 3, 1) := by decide +kernel
theorem s47_70 {a0 a1 a2 : Option AV} {st : List AV} {m : MM} {x : Nat × Option Nat} : go 47 70 [a0, a1, a2, some (.inr (.inr x))] st m = go 47 71 [a0, a1, a2, some (.inr (.inr x))] (.inr (.inr x) :: st) m := e_1 d47_70 (Or.inl rfl) rfl
theorem d47_71 : decode (mt 47).2.1 71 = .ok (.iconst 1, 1) := by decide +kernel
theorem s47_71 {ls : LV} {st : List AV} {m : MM} : go 47 71 ls st m = go 47 72 ls (.inl 1 :: st) m := e_1 d47_71 (Or.inl rfl) rfl
theorem d47_72 : decode (mt 47).2.1 72 = .ok (.invokevirtual 87, 3) := by decide +kernel
theorem s47_72 {ls : LV} {m : MM} {x0 : Nat × Option Nat} {x1 : Int32} {n : Nat} : go 47 72 ls [.inl x1, .inr (.inr x0), .inr (.inr (7, some n))] m = bd (go 48 0 [some (.inr (.inr (7, some n))), some (.inr (.inr x0)), some (.inl x1), none, none, none] [] m) (fun v m2 => go 47 75 ls (v.toList ++ []) m2) := e_virt (y1 := 48) (na := 2) (as := [.inr (.inr x0), .inl x1]) (rest := []) d47_72 (by decide +kernel) rfl (by decide +kernel) (show (ent [.inr (.inr (7, some n)), .inr (.inr x0), .inl x1]).length ≤ (mt 48).2.2.2.1 from Nat.le_of_ble_eq_true rfl) (cats_le (Nat.le_of_ble_eq_true rfl)) (by decide +kernel)
theorem d47_75 : decode (mt 47).2.1 75 = .ok (.aload_n 3, 1) := by decide +kernel
theorem s47_75 {a0 a1 a2 : Option AV} {st : List AV} {m : MM} {x : Nat × Option Nat} : go 47 75 [a0, a1, a2, some (.inr (.inr x))] st m = go 47 76 [a0, a1, a2, some (.inr (.inr x))] (.inr (.inr x) :: st) m := e_1 d47_75 (Or.inl rfl) rfl
theorem d47_76 : decode (mt 47).2.1 76 = .ok (.iconst 1, 1) := by decide +kernel
theorem s47_76 {ls : LV} {st : List AV} {m : MM} : go 47 76 ls st m = go 47 77 ls (.inl 1 :: st) m := e_1 d47_76 (Or.inl rfl) rfl
theorem d47_77 : decode (mt 47).2.1 77 = .ok (.invokevirtual 105, 3) := by decide +kernel
theorem s47_77 {ls : LV} {m : MM} {x0 : Int32} {n : Nat} : go 47 77 ls [.inl x0, .inr (.inr (6, some n))] m = bd (go 32 0 [some (.inr (.inr (6, some n))), some (.inl x0), none] [] m) (fun v m2 => go 47 80 ls (v.toList ++ []) m2) := e_virt (y1 := 32) (na := 1) (as := [.inl x0]) (rest := []) d47_77 (by decide +kernel) rfl (by decide +kernel) (show (ent [.inr (.inr (6, some n)), .inl x0]).length ≤ (mt 32).2.2.2.1 from Nat.le_of_ble_eq_true rfl) (cats_le (Nat.le_of_ble_eq_true rfl)) (by decide +kernel)
theorem d47_80 : decode (mt 47).2.1 80 = .ok (.aload_n 0, 1) := by decide +kernel
theorem s47_80 {a1 a2 a3 : Option AV} {st : List AV} {m : MM} {x : Nat × Option Nat} : go 47 80 [some (.inr (.inr x)), a1, a2, a3] st m = go 47 81 [some (.inr (.inr x)), a1, a2, a3] (.inr (.inr x) :: st) m := e_1 d47_80 (Or.inl rfl) rfl
theorem d47_81 : decode (mt 47).2.1 81 = .ok (.invokevirtual 95, 3) := by decide +kernel
theorem s47_81 {ls : LV} {m : MM} {n : Nat} : go 47 81 ls [.inr (.inr (7, some n))] m = bd (go 51 0 [some (.inr (.inr (7, some n)))] [] m) (fun v m2 => go 47 84 ls (v.toList ++ []) m2) := e_virt (y1 := 51) (na := 0) (as := []) (rest := []) d47_81 (by decide +kernel) rfl (by decide +kernel) (show (ent [.inr (.inr (7, some n))]).length ≤ (mt 51).2.2.2.1 from Nat.le_of_ble_eq_true rfl) (cats_le (Nat.le_of_ble_eq_true rfl)) (by decide +kernel)
theorem d47_84 : decode (mt 47).2.1 84 = .ok (.iconst 1, 1) := by decide +kernel
theorem s47_84 {ls : LV} {st : List AV} {m : MM} : go 47 84 ls st m = go 47 85 ls (.inl 1 :: st) m := e_1 d47_84 (Or.inl rfl) rfl
theorem d47_85 : decode (mt 47).2.1 85 = .ok (.ireturn, 1) := by decide +kernel
theorem s47_85 {ls : LV} {m : MM} {x : Int32} : go 47 85 ls [.inl x] m = some (some (.inl x), m) := e_int d47_85 (by decide +kernel)
/-! X6_linkPastFrom: 48 -/
theorem d48_0 : decode (mt 48).2.1 0 = .ok (.iload_n 2, 1) := by decide +kernel
theorem s48_0 {a0 a1 a3 a4 a5 : Option AV} {st : List AV} {m : MM} {x : Int32} : go 48 0 [a0, a1, some (.inl x), a3, a4, a5] st m = go 48 1 [a0, a1, some (.inl x), a3, a4, a5] (.inl x :: st) m := e_1 d48_0 (Or.inl rfl) rfl
theorem d48_1 : decode (mt 48).2.1 1 = .ok (.istore_n 3, 1) := by decide +kernel
theorem s48_1i {a0 a1 a3 a4 a5 : Option AV} {z : Int32} {st : List AV} {m : MM} {x : Int32} : go 48 1 [a0, a1, some (.inl z), a3, a4, a5] (.inl x :: st) m = go 48 2 [a0, a1, some (.inl z), some (.inl x), a4, a5] st m := e_1 d48_1 (Or.inl rfl) rfl
theorem s48_1r {a0 a1 a3 a4 a5 : Option AV} {z : Nat × Option Nat} {st : List AV} {m : MM} {x : Int32} : go 48 1 [a0, a1, some (.inr (.inr z)), a3, a4, a5] (.inl x :: st) m = go 48 2 [a0, a1, some (.inr (.inr z)), some (.inl x), a4, a5] st m := e_1 d48_1 (Or.inl rfl) rfl
theorem s48_1n {a0 a1 a3 a4 a5 : Option AV} {st : List AV} {m : MM} {x : Int32} : go 48 1 [a0, a1, none, a3, a4, a5] (.inl x :: st) m = go 48 2 [a0, a1, none, some (.inl x), a4, a5] st m := e_1 d48_1 (Or.inl rfl) rfl
theorem d48_2 : decode (mt 48).2.1 2 = .ok (.iload_n 3, 1) := by decide +kernel
theorem s48_2 {a0 a1 a2 a4 a5 : Option AV} {st : List AV} {m : MM} {x : Int32} : go 48 2 [a0, a1, a2, some (.inl x), a4, a5] st m = go 48 3 [a0, a1, a2, some (.inl x), a4, a5] (.inl x :: st) m := e_1 d48_2 (Or.inl rfl) rfl
theorem d48_3 : decode (mt 48).2.1 3 = .ok (.bipush 9, 2) := by decide +kernel
theorem s48_3 {ls : LV} {st : List AV} {m : MM} : go 48 3 ls st m = go 48 5 ls (.inl 9 :: st) m := e_1 d48_3 (Or.inl rfl) rfl
theorem d48_5 : decode (mt 48).2.1 5 = .ok (.if_icmp .ge 45, 3) := by decide +kernel
theorem s48_5 {ls : LV} {st : List AV} {m : MM} {a b : Int32} : go 48 5 ls (.inl b :: .inl a :: st) m = if b ≤ a then go 48 50 ls st m else go 48 8 ls st m := e_if (t := 50) (b := hc .ge a b) d48_5 (Or.inl rfl) (by simp only [xi, pI, jm_some (t := 50) (show ((5 : Nat) : Int) + 45 = ((50 : Nat) : Int) by decide), Option.bind_some]) (by simp [hc])
theorem d48_8 : decode (mt 48).2.1 8 = .ok (.aload_n 1, 1) := by decide +kernel
theorem s48_8 {a0 a2 a3 a4 a5 : Option AV} {st : List AV} {m : MM} {x : Nat × Option Nat} : go 48 8 [a0, some (.inr (.inr x)), a2, a3, a4, a5] st m = go 48 9 [a0, some (.inr (.inr x)), a2, a3, a4, a5] (.inr (.inr x) :: st) m := e_1 d48_8 (Or.inl rfl) rfl
theorem d48_9 : decode (mt 48).2.1 9 = .ok (.iload_n 3, 1) := by decide +kernel
theorem s48_9 {a0 a1 a2 a4 a5 : Option AV} {st : List AV} {m : MM} {x : Int32} : go 48 9 [a0, a1, a2, some (.inl x), a4, a5] st m = go 48 10 [a0, a1, a2, some (.inl x), a4, a5] (.inl x :: st) m := e_1 d48_9 (Or.inl rfl) rfl
theorem d48_10 : decode (mt 48).2.1 10 = .ok (.iconst 0, 1) := by decide +kernel
theorem s48_10 {ls : LV} {st : List AV} {m : MM} : go 48 10 ls st m = go 48 11 ls (.inl 0 :: st) m := e_1 d48_10 (Or.inl rfl) rfl
theorem d48_11 : decode (mt 48).2.1 11 = .ok (.invokevirtual 109, 3) := by decide +kernel
theorem s48_11 {ls : LV} {m : MM} {x0 : Int32} {x1 : Int32} {n : Nat} : go 48 11 ls [.inl x1, .inl x0, .inr (.inr (6, some n))] m = bd (go 27 0 [some (.inr (.inr (6, some n))), some (.inl x0), some (.inl x1)] [] m) (fun v m2 => go 48 14 ls (v.toList ++ []) m2) := e_virt (y1 := 27) (na := 2) (as := [.inl x0, .inl x1]) (rest := []) d48_11 (by decide +kernel) rfl (by decide +kernel) (show (ent [.inr (.inr (6, some n)), .inl x0, .inl x1]).length ≤ (mt 27).2.2.2.1 from Nat.le_of_ble_eq_true rfl) (cats_le (Nat.le_of_ble_eq_true rfl)) (by decide +kernel)
theorem d48_14 : decode (mt 48).2.1 14 = .ok (.astore 4, 2) := by decide +kernel
theorem s48_14i {a0 a1 a2 a4 a5 : Option AV} {z : Int32} {st : List AV} {m : MM} {x : Nat × Option Nat} : go 48 14 [a0, a1, a2, some (.inl z), a4, a5] (.inr (.inr x) :: st) m = go 48 16 [a0, a1, a2, some (.inl z), some (.inr (.inr x)), a5] st m := e_1 d48_14 (Or.inl rfl) rfl
theorem s48_14r {a0 a1 a2 a4 a5 : Option AV} {z : Nat × Option Nat} {st : List AV} {m : MM} {x : Nat × Option Nat} : go 48 14 [a0, a1, a2, some (.inr (.inr z)), a4, a5] (.inr (.inr x) :: st) m = go 48 16 [a0, a1, a2, some (.inr (.inr z)), some (.inr (.inr x)), a5] st m := e_1 d48_14 (Or.inl rfl) rfl
theorem s48_14n {a0 a1 a2 a4 a5 : Option AV} {st : List AV} {m : MM} {x : Nat × Option Nat} : go 48 14 [a0, a1, a2, none, a4, a5] (.inr (.inr x) :: st) m = go 48 16 [a0, a1, a2, none, some (.inr (.inr x)), a5] st m := e_1 d48_14 (Or.inl rfl) rfl
theorem d48_16 : decode (mt 48).2.1 16 = .ok (.aload_n 1, 1) := by decide +kernel
theorem s48_16 {a0 a2 a3 a4 a5 : Option AV} {st : List AV} {m : MM} {x : Nat × Option Nat} : go 48 16 [a0, some (.inr (.inr x)), a2, a3, a4, a5] st m = go 48 17 [a0, some (.inr (.inr x)), a2, a3, a4, a5] (.inr (.inr x) :: st) m := e_1 d48_16 (Or.inl rfl) rfl
theorem d48_17 : decode (mt 48).2.1 17 = .ok (.iload_n 3, 1) := by decide +kernel
theorem s48_17 {a0 a1 a2 a4 a5 : Option AV} {st : List AV} {m : MM} {x : Int32} : go 48 17 [a0, a1, a2, some (.inl x), a4, a5] st m = go 48 18 [a0, a1, a2, some (.inl x), a4, a5] (.inl x :: st) m := e_1 d48_17 (Or.inl rfl) rfl
theorem d48_18 : decode (mt 48).2.1 18 = .ok (.iconst 1, 1) := by decide +kernel
theorem s48_18 {ls : LV} {st : List AV} {m : MM} : go 48 18 ls st m = go 48 19 ls (.inl 1 :: st) m := e_1 d48_18 (Or.inl rfl) rfl
theorem d48_19 : decode (mt 48).2.1 19 = .ok (.invokevirtual 109, 3) := by decide +kernel
theorem s48_19 {ls : LV} {m : MM} {x0 : Int32} {x1 : Int32} {n : Nat} : go 48 19 ls [.inl x1, .inl x0, .inr (.inr (6, some n))] m = bd (go 27 0 [some (.inr (.inr (6, some n))), some (.inl x0), some (.inl x1)] [] m) (fun v m2 => go 48 22 ls (v.toList ++ []) m2) := e_virt (y1 := 27) (na := 2) (as := [.inl x0, .inl x1]) (rest := []) d48_19 (by decide +kernel) rfl (by decide +kernel) (show (ent [.inr (.inr (6, some n)), .inl x0, .inl x1]).length ≤ (mt 27).2.2.2.1 from Nat.le_of_ble_eq_true rfl) (cats_le (Nat.le_of_ble_eq_true rfl)) (by decide +kernel)
theorem d48_22 : decode (mt 48).2.1 22 = .ok (.astore 5, 2) := by decide +kernel
theorem s48_22i {a0 a1 a2 a3 a5 : Option AV} {z : Int32} {st : List AV} {m : MM} {x : Nat × Option Nat} : go 48 22 [a0, a1, a2, a3, some (.inl z), a5] (.inr (.inr x) :: st) m = go 48 24 [a0, a1, a2, a3, some (.inl z), some (.inr (.inr x))] st m := e_1 d48_22 (Or.inl rfl) rfl
theorem s48_22r {a0 a1 a2 a3 a5 : Option AV} {z : Nat × Option Nat} {st : List AV} {m : MM} {x : Nat × Option Nat} : go 48 22 [a0, a1, a2, a3, some (.inr (.inr z)), a5] (.inr (.inr x) :: st) m = go 48 24 [a0, a1, a2, a3, some (.inr (.inr z)), some (.inr (.inr x))] st m := e_1 d48_22 (Or.inl rfl) rfl
theorem s48_22n {a0 a1 a2 a3 a5 : Option AV} {st : List AV} {m : MM} {x : Nat × Option Nat} : go 48 22 [a0, a1, a2, a3, none, a5] (.inr (.inr x) :: st) m = go 48 24 [a0, a1, a2, a3, none, some (.inr (.inr x))] st m := e_1 d48_22 (Or.inl rfl) rfl
theorem d48_24 : decode (mt 48).2.1 24 = .ok (.aload_n 0, 1) := by decide +kernel
theorem s48_24 {a1 a2 a3 a4 a5 : Option AV} {st : List AV} {m : MM} {x : Nat × Option Nat} : go 48 24 [some (.inr (.inr x)), a1, a2, a3, a4, a5] st m = go 48 25 [some (.inr (.inr x)), a1, a2, a3, a4, a5] (.inr (.inr x) :: st) m := e_1 d48_24 (Or.inl rfl) rfl
theorem d48_25 : decode (mt 48).2.1 25 = .ok (.aload 4, 2) := by decide +kernel
theorem s48_25 {a0 a1 a2 a3 a5 : Option AV} {st : List AV} {m : MM} {x : Nat × Option Nat} : go 48 25 [a0, a1, a2, a3, some (.inr (.inr x)), a5] st m = go 48 27 [a0, a1, a2, a3, some (.inr (.inr x)), a5] (.inr (.inr x) :: st) m := e_1 d48_25 (Or.inl rfl) rfl
theorem d48_27 : decode (mt 48).2.1 27 = .ok (.iload_n 3, 1) := by decide +kernel
theorem s48_27 {a0 a1 a2 a4 a5 : Option AV} {st : List AV} {m : MM} {x : Int32} : go 48 27 [a0, a1, a2, some (.inl x), a4, a5] st m = go 48 28 [a0, a1, a2, some (.inl x), a4, a5] (.inl x :: st) m := e_1 d48_27 (Or.inl rfl) rfl
theorem d48_28 : decode (mt 48).2.1 28 = .ok (.iconst 1, 1) := by decide +kernel
theorem s48_28 {ls : LV} {st : List AV} {m : MM} : go 48 28 ls st m = go 48 29 ls (.inl 1 :: st) m := e_1 d48_28 (Or.inl rfl) rfl
theorem d48_29 : decode (mt 48).2.1 29 = .ok (.aload 5, 2) := by decide +kernel
theorem s48_29 {a0 a1 a2 a3 a4 : Option AV} {st : List AV} {m : MM} {x : Nat × Option Nat} : go 48 29 [a0, a1, a2, a3, a4, some (.inr (.inr x))] st m = go 48 31 [a0, a1, a2, a3, a4, some (.inr (.inr x))] (.inr (.inr x) :: st) m := e_1 d48_29 (Or.inl rfl) rfl
theorem d48_31 : decode (mt 48).2.1 31 = .ok (.invokevirtual 113, 3) := by decide +kernel
theorem s48_31 {ls : LV} {m : MM} {x0 : Nat × Option Nat} {x1 : Int32} {x2 : Int32} {x3 : Nat × Option Nat} {n : Nat} : go 48 31 ls [.inr (.inr x3), .inl x2, .inl x1, .inr (.inr x0), .inr (.inr (7, some n))] m = bd (go 50 0 [some (.inr (.inr (7, some n))), some (.inr (.inr x0)), some (.inl x1), some (.inl x2), some (.inr (.inr x3))] [] m) (fun v m2 => go 48 34 ls (v.toList ++ []) m2) := e_virt (y1 := 50) (na := 4) (as := [.inr (.inr x0), .inl x1, .inl x2, .inr (.inr x3)]) (rest := []) d48_31 (by decide +kernel) rfl (by decide +kernel) (show (ent [.inr (.inr (7, some n)), .inr (.inr x0), .inl x1, .inl x2, .inr (.inr x3)]).length ≤ (mt 50).2.2.2.1 from Nat.le_of_ble_eq_true rfl) (cats_le (Nat.le_of_ble_eq_true rfl)) (by decide +kernel)
theorem d48_34 : decode (mt 48).2.1 34 = .ok (.aload_n 0, 1) := by decide +kernel
theorem s48_34 {a1 a2 a3 a4 a5 : Option AV} {st : List AV} {m : MM} {x : Nat × Option Nat} : go 48 34 [some (.inr (.inr x)), a1, a2, a3, a4, a5] st m = go 48 35 [some (.inr (.inr x)), a1, a2, a3, a4, a5] (.inr (.inr x) :: st) m := e_1 d48_34 (Or.inl rfl) rfl
theorem d48_35 : decode (mt 48).2.1 35 = .ok (.aload 5, 2) := by decide +kernel
theorem s48_35 {a0 a1 a2 a3 a4 : Option AV} {st : List AV} {m : MM} {x : Nat × Option Nat} : go 48 35 [a0, a1, a2, a3, a4, some (.inr (.inr x))] st m = go 48 37 [a0, a1, a2, a3, a4, some (.inr (.inr x))] (.inr (.inr x) :: st) m := e_1 d48_35 (Or.inl rfl) rfl
theorem d48_37 : decode (mt 48).2.1 37 = .ok (.iload_n 3, 1) := by decide +kernel
theorem s48_37 {a0 a1 a2 a4 a5 : Option AV} {st : List AV} {m : MM} {x : Int32} : go 48 37 [a0, a1, a2, some (.inl x), a4, a5] st m = go 48 38 [a0, a1, a2, some (.inl x), a4, a5] (.inl x :: st) m := e_1 d48_37 (Or.inl rfl) rfl
theorem d48_38 : decode (mt 48).2.1 38 = .ok (.iconst 0, 1) := by decide +kernel
theorem s48_38 {ls : LV} {st : List AV} {m : MM} : go 48 38 ls st m = go 48 39 ls (.inl 0 :: st) m := e_1 d48_38 (Or.inl rfl) rfl
theorem d48_39 : decode (mt 48).2.1 39 = .ok (.aload 4, 2) := by decide +kernel
theorem s48_39 {a0 a1 a2 a3 a5 : Option AV} {st : List AV} {m : MM} {x : Nat × Option Nat} : go 48 39 [a0, a1, a2, a3, some (.inr (.inr x)), a5] st m = go 48 41 [a0, a1, a2, a3, some (.inr (.inr x)), a5] (.inr (.inr x) :: st) m := e_1 d48_39 (Or.inl rfl) rfl
theorem d48_41 : decode (mt 48).2.1 41 = .ok (.invokevirtual 113, 3) := by decide +kernel
theorem s48_41 {ls : LV} {m : MM} {x0 : Nat × Option Nat} {x1 : Int32} {x2 : Int32} {x3 : Nat × Option Nat} {n : Nat} : go 48 41 ls [.inr (.inr x3), .inl x2, .inl x1, .inr (.inr x0), .inr (.inr (7, some n))] m = bd (go 50 0 [some (.inr (.inr (7, some n))), some (.inr (.inr x0)), some (.inl x1), some (.inl x2), some (.inr (.inr x3))] [] m) (fun v m2 => go 48 44 ls (v.toList ++ []) m2) := e_virt (y1 := 50) (na := 4) (as := [.inr (.inr x0), .inl x1, .inl x2, .inr (.inr x3)]) (rest := []) d48_41 (by decide +kernel) rfl (by decide +kernel) (show (ent [.inr (.inr (7, some n)), .inr (.inr x0), .inl x1, .inl x2, .inr (.inr x3)]).length ≤ (mt 50).2.2.2.1 from Nat.le_of_ble_eq_true rfl) (cats_le (Nat.le_of_ble_eq_true rfl)) (by decide +kernel)
theorem d48_44 : decode (mt 48).2.1 44 = .ok (.iinc 3 1, 3) := by decide +kernel
theorem s48_44i {a0 a1 a4 a5 : Option AV} {z : Int32} {st : List AV} {m : MM} {x : Int32} : go 48 44 [a0, a1, some (.inl z), some (.inl x), a4, a5] st m = go 48 47 [a0, a1, some (.inl z), some (.inl (x + 1)), a4, a5] st m := e_1 d48_44 (Or.inl rfl) rfl
theorem s48_44r {a0 a1 a4 a5 : Option AV} {z : Nat × Option Nat} {st : List AV} {m : MM} {x : Int32} : go 48 44 [a0, a1, some (.inr (.inr z)), some (.inl x), a4, a5] st m = go 48 47 [a0, a1, some (.inr (.inr z)), some (.inl (x + 1)), a4, a5] st m := e_1 d48_44 (Or.inl rfl) rfl
theorem s48_44n {a0 a1 a4 a5 : Option AV} {st : List AV} {m : MM} {x : Int32} : go 48 44 [a0, a1, none, some (.inl x), a4, a5] st m = go 48 47 [a0, a1, none, some (.inl (x + 1)), a4, a5] st m := e_1 d48_44 (Or.inl rfl) rfl
theorem d48_47 : decode (mt 48).2.1 47 = .ok (.goto (-45), 3) := by decide +kernel
theorem s48_47 {ls : LV} {st : List AV} {m : MM} : go 48 47 ls st m = go 48 2 ls st m := e_1 d48_47 (Or.inl rfl) (by rw [xi, jm_some (t := 2) (by decide)]; rfl)
theorem d48_50 : decode (mt 48).2.1 50 = .ok (.return_, 1) := by decide +kernel
theorem s48_50 {ls : LV} {m : MM} : go 48 50 ls [] m = some (none, m) := e_void d48_50 (by decide +kernel)
/-! X6_handOver: 49 -/
theorem d49_0 : decode (mt 49).2.1 0 = .ok (.aload_n 1, 1) := by decide +kernel
theorem s49_0 {a0 a2 : Option AV} {st : List AV} {m : MM} {x : Nat × Option Nat} : go 49 0 [a0, some (.inr (.inr x)), a2] st m = go 49 1 [a0, some (.inr (.inr x)), a2] (.inr (.inr x) :: st) m := e_1 d49_0 (Or.inl rfl) rfl
theorem d49_1 : decode (mt 49).2.1 1 = .ok (.getfield 117, 3) := by decide +kernel
theorem s49_1 {ls : LV} {st : List AV} {m : MM} {n : Nat} : go 49 1 ls (.inr (.inr (6, some n)) :: st) m = go 49 4 ls (.inr (.inr (5, mR m 6 n 9)) :: st) m := e_1 d49_1 (Or.inl rfl) (by rw [xi, pA, show lk fdL (mt 49).2.2.1 117 = some (6, 9) by decide +kernel]; rfl)
theorem d49_4 : decode (mt 49).2.1 4 = .ok (.getfield 121, 3) := by decide +kernel
theorem s49_4 {ls : LV} {st : List AV} {m : MM} {n : Nat} : go 49 4 ls (.inr (.inr (5, some n)) :: st) m = go 49 7 ls (.inl (mI m 5 n 2) :: st) m := e_1 d49_4 (Or.inl rfl) (by rw [xi, pA, show lk fdL (mt 49).2.2.1 121 = some (5, 2) by decide +kernel]; rfl)
theorem d49_7 : decode (mt 49).2.1 7 = .ok (.ifCond .ne 4, 3) := by decide +kernel
theorem s49_7 {ls : LV} {st : List AV} {m : MM} {a : Int32} : go 49 7 ls (.inl a :: st) m = if ¬ a = 0 then go 49 11 ls st m else go 49 10 ls st m := e_if (t := 11) (b := hc .ne a 0) d49_7 (Or.inl rfl) (by simp only [xi, pI, jm_some (t := 11) (show ((7 : Nat) : Int) + 4 = ((11 : Nat) : Int) by decide), Option.bind_some]) (by simp [hc])
theorem d49_10 : decode (mt 49).2.1 10 = .ok (.return_, 1) := by decide +kernel
theorem s49_10 {ls : LV} {m : MM} : go 49 10 ls [] m = some (none, m) := e_void d49_10 (by decide +kernel)
theorem d49_11 : decode (mt 49).2.1 11 = .ok (.aload_n 1, 1) := by decide +kernel
theorem s49_11 {a0 a2 : Option AV} {st : List AV} {m : MM} {x : Nat × Option Nat} : go 49 11 [a0, some (.inr (.inr x)), a2] st m = go 49 12 [a0, some (.inr (.inr x)), a2] (.inr (.inr x) :: st) m := e_1 d49_11 (Or.inl rfl) rfl
theorem d49_12 : decode (mt 49).2.1 12 = .ok (.getfield 117, 3) := by decide +kernel
theorem s49_12 {ls : LV} {st : List AV} {m : MM} {n : Nat} : go 49 12 ls (.inr (.inr (6, some n)) :: st) m = go 49 15 ls (.inr (.inr (5, mR m 6 n 9)) :: st) m := e_1 d49_12 (Or.inl rfl) (by rw [xi, pA, show lk fdL (mt 49).2.2.1 117 = some (6, 9) by decide +kernel]; rfl)
theorem d49_15 : decode (mt 49).2.1 15 = .ok (.aload_n 0, 1) := by decide +kernel
theorem s49_15 {a1 a2 : Option AV} {st : List AV} {m : MM} {x : Nat × Option Nat} : go 49 15 [some (.inr (.inr x)), a1, a2] st m = go 49 16 [some (.inr (.inr x)), a1, a2] (.inr (.inr x) :: st) m := e_1 d49_15 (Or.inl rfl) rfl
theorem d49_16 : decode (mt 49).2.1 16 = .ok (.getfield 35, 3) := by decide +kernel
theorem s49_16 {ls : LV} {st : List AV} {m : MM} {n : Nat} : go 49 16 ls (.inr (.inr (7, some n)) :: st) m = go 49 19 ls (.inr (.inr (2, mR m 7 n 7)) :: st) m := e_1 d49_16 (Or.inl rfl) (by rw [xi, pA, show lk fdL (mt 49).2.2.1 35 = some (7, 7) by decide +kernel]; rfl)
theorem d49_19 : decode (mt 49).2.1 19 = .ok (.getfield 126, 3) := by decide +kernel
theorem s49_19 {ls : LV} {st : List AV} {m : MM} {n : Nat} : go 49 19 ls (.inr (.inr (2, some n)) :: st) m = go 49 22 ls (.inr (.inr (5, mR m 2 n 4)) :: st) m := e_1 d49_19 (Or.inl rfl) (by rw [xi, pA, show lk fdL (mt 49).2.2.1 126 = some (2, 4) by decide +kernel]; rfl)
theorem d49_22 : decode (mt 49).2.1 22 = .ok (.iconst 0, 1) := by decide +kernel
theorem s49_22 {ls : LV} {st : List AV} {m : MM} : go 49 22 ls st m = go 49 23 ls (.inl 0 :: st) m := e_1 d49_22 (Or.inl rfl) rfl
theorem d49_23 : decode (mt 49).2.1 23 = .ok (.aload_n 1, 1) := by decide +kernel
theorem s49_23 {a0 a2 : Option AV} {st : List AV} {m : MM} {x : Nat × Option Nat} : go 49 23 [a0, some (.inr (.inr x)), a2] st m = go 49 24 [a0, some (.inr (.inr x)), a2] (.inr (.inr x) :: st) m := e_1 d49_23 (Or.inl rfl) rfl
theorem d49_24 : decode (mt 49).2.1 24 = .ok (.getfield 117, 3) := by decide +kernel
theorem s49_24 {ls : LV} {st : List AV} {m : MM} {n : Nat} : go 49 24 ls (.inr (.inr (6, some n)) :: st) m = go 49 27 ls (.inr (.inr (5, mR m 6 n 9)) :: st) m := e_1 d49_24 (Or.inl rfl) (by rw [xi, pA, show lk fdL (mt 49).2.2.1 117 = some (6, 9) by decide +kernel]; rfl)
theorem d49_27 : decode (mt 49).2.1 27 = .ok (.getfield 121, 3) := by decide +kernel
theorem s49_27 {ls : LV} {st : List AV} {m : MM} {n : Nat} : go 49 27 ls (.inr (.inr (5, some n)) :: st) m = go 49 30 ls (.inl (mI m 5 n 2) :: st) m := e_1 d49_27 (Or.inl rfl) (by rw [xi, pA, show lk fdL (mt 49).2.2.1 121 = some (5, 2) by decide +kernel]; rfl)
theorem d49_30 : decode (mt 49).2.1 30 = .ok (.invokevirtual 129, 3) := by decide +kernel
theorem s49_30 {ls : LV} {m : MM} {x0 : Nat × Option Nat} {x1 : Int32} {x2 : Int32} {n : Nat} : go 49 30 ls [.inl x2, .inl x1, .inr (.inr x0), .inr (.inr (5, some n))] m = bd (go 21 0 [some (.inr (.inr (5, some n))), some (.inr (.inr x0)), some (.inl x1), some (.inl x2), none] [] m) (fun v m2 => go 49 33 ls (v.toList ++ []) m2) := e_virt (y1 := 21) (na := 3) (as := [.inr (.inr x0), .inl x1, .inl x2]) (rest := []) d49_30 (by decide +kernel) rfl (by decide +kernel) (show (ent [.inr (.inr (5, some n)), .inr (.inr x0), .inl x1, .inl x2]).length ≤ (mt 21).2.2.2.1 from Nat.le_of_ble_eq_true rfl) (cats_le (Nat.le_of_ble_eq_true rfl)) (by decide +kernel)
theorem d49_33 : decode (mt 49).2.1 33 = .ok (.aload_n 1, 1) := by decide +kernel
theorem s49_33 {a0 a2 : Option AV} {st : List AV} {m : MM} {x : Nat × Option Nat} : go 49 33 [a0, some (.inr (.inr x)), a2] st m = go 49 34 [a0, some (.inr (.inr x)), a2] (.inr (.inr x) :: st) m := e_1 d49_33 (Or.inl rfl) rfl
theorem d49_34 : decode (mt 49).2.1 34 = .ok (.iconst 0, 1) := by decide +kernel
theorem s49_34 {ls : LV} {st : List AV} {m : MM} : go 49 34 ls st m = go 49 35 ls (.inl 0 :: st) m := e_1 d49_34 (Or.inl rfl) rfl
theorem d49_35 : decode (mt 49).2.1 35 = .ok (.iconst 0, 1) := by decide +kernel
theorem s49_35 {ls : LV} {st : List AV} {m : MM} : go 49 35 ls st m = go 49 36 ls (.inl 0 :: st) m := e_1 d49_35 (Or.inl rfl) rfl
theorem d49_36 : decode (mt 49).2.1 36 = .ok (.invokevirtual 109, 3) := by decide +kernel
theorem s49_36 {ls : LV} {m : MM} {x0 : Int32} {x1 : Int32} {n : Nat} : go 49 36 ls [.inl x1, .inl x0, .inr (.inr (6, some n))] m = bd (go 27 0 [some (.inr (.inr (6, some n))), some (.inl x0), some (.inl x1)] [] m) (fun v m2 => go 49 39 ls (v.toList ++ []) m2) := e_virt (y1 := 27) (na := 2) (as := [.inl x0, .inl x1]) (rest := []) d49_36 (by decide +kernel) rfl (by decide +kernel) (show (ent [.inr (.inr (6, some n)), .inl x0, .inl x1]).length ≤ (mt 27).2.2.2.1 from Nat.le_of_ble_eq_true rfl) (cats_le (Nat.le_of_ble_eq_true rfl)) (by decide +kernel)
theorem d49_39 : decode (mt 49).2.1 39 = .ok (.astore_n 2, 1) := by decide +kernel
theorem s49_39i {a0 a2 : Option AV} {z : Int32} {st : List AV} {m : MM} {x : Nat × Option Nat} : go 49 39 [a0, some (.inl z), a2] (.inr (.inr x) :: st) m = go 49 40 [a0, some (.inl z), some (.inr (.inr x))] st m := e_1 d49_39 (Or.inl rfl) rfl
theorem s49_39r {a0 a2 : Option AV} {z : Nat × Option Nat} {st : List AV} {m : MM} {x : Nat × Option Nat} : go 49 39 [a0, some (.inr (.inr z)), a2] (.inr (.inr x) :: st) m = go 49 40 [a0, some (.inr (.inr z)), some (.inr (.inr x))] st m := e_1 d49_39 (Or.inl rfl) rfl
theorem s49_39n {a0 a2 : Option AV} {st : List AV} {m : MM} {x : Nat × Option Nat} : go 49 39 [a0, none, a2] (.inr (.inr x) :: st) m = go 49 40 [a0, none, some (.inr (.inr x))] st m := e_1 d49_39 (Or.inl rfl) rfl
theorem d49_40 : decode (mt 49).2.1 40 = .ok (.aload_n 0, 1) := by decide +kernel
theorem s49_40 {a1 a2 : Option AV} {st : List AV} {m : MM} {x : Nat × Option Nat} : go 49 40 [some (.inr (.inr x)), a1, a2] st m = go 49 41 [some (.inr (.inr x)), a1, a2] (.inr (.inr x) :: st) m := e_1 d49_40 (Or.inl rfl) rfl
theorem d49_41 : decode (mt 49).2.1 41 = .ok (.getfield 28, 3) := by decide +kernel
theorem s49_41 {ls : LV} {st : List AV} {m : MM} {n : Nat} : go 49 41 ls (.inr (.inr (7, some n)) :: st) m = go 49 44 ls (.inr (.inr (3, mR m 7 n 6)) :: st) m := e_1 d49_41 (Or.inl rfl) (by rw [xi, pA, show lk fdL (mt 49).2.2.1 28 = some (7, 6) by decide +kernel]; rfl)
theorem d49_44 : decode (mt 49).2.1 44 = .ok (.bipush 10, 2) := by decide +kernel
theorem s49_44 {ls : LV} {st : List AV} {m : MM} : go 49 44 ls st m = go 49 46 ls (.inl 10 :: st) m := e_1 d49_44 (Or.inl rfl) rfl
theorem d49_46 : decode (mt 49).2.1 46 = .ok (.aload_n 2, 1) := by decide +kernel
theorem s49_46 {a0 a1 : Option AV} {st : List AV} {m : MM} {x : Nat × Option Nat} : go 49 46 [a0, a1, some (.inr (.inr x))] st m = go 49 47 [a0, a1, some (.inr (.inr x))] (.inr (.inr x) :: st) m := e_1 d49_46 (Or.inl rfl) rfl
theorem d49_47 : decode (mt 49).2.1 47 = .ok (.ifnull 7, 3) := by decide +kernel
theorem s49_47n {u : Nat} {ls : LV} {st : List AV} {m : MM} : go 49 47 ls (.inr (.inr (u, none)) :: st) m = go 49 54 ls st m := e_1 d49_47 (Or.inl rfl) (by rw [xi, jm_some (t := 54) (by decide)]; rfl)
theorem s49_47s {u n : Nat} {ls : LV} {st : List AV} {m : MM} : go 49 47 ls (.inr (.inr (u, some n)) :: st) m = go 49 50 ls st m := e_1 d49_47 (Or.inl rfl) (by rw [xi, jm_some (t := 54) (by decide)]; rfl)
theorem d49_50 : decode (mt 49).2.1 50 = .ok (.aload_n 2, 1) := by decide +kernel
theorem s49_50 {a0 a1 : Option AV} {st : List AV} {m : MM} {x : Nat × Option Nat} : go 49 50 [a0, a1, some (.inr (.inr x))] st m = go 49 51 [a0, a1, some (.inr (.inr x))] (.inr (.inr x) :: st) m := e_1 d49_50 (Or.inl rfl) rfl
theorem d49_51 : decode (mt 49).2.1 51 = .ok (.goto 9, 3) := by decide +kernel
theorem s49_51 {ls : LV} {st : List AV} {m : MM} : go 49 51 ls st m = go 49 60 ls st m := e_1 d49_51 (Or.inl rfl) (by rw [xi, jm_some (t := 60) (by decide)]; rfl)
theorem d49_54 : decode (mt 49).2.1 54 = .ok (.aload_n 1, 1) := by decide +kernel
theorem s49_54 {a0 a2 : Option AV} {st : List AV} {m : MM} {x : Nat × Option Nat} : go 49 54 [a0, some (.inr (.inr x)), a2] st m = go 49 55 [a0, some (.inr (.inr x)), a2] (.inr (.inr x) :: st) m := e_1 d49_54 (Or.inl rfl) rfl
theorem d49_55 : decode (mt 49).2.1 55 = .ok (.iconst 0, 1) := by decide +kernel
theorem s49_55 {ls : LV} {st : List AV} {m : MM} : go 49 55 ls st m = go 49 56 ls (.inl 0 :: st) m := e_1 d49_55 (Or.inl rfl) rfl
theorem d49_56 : decode (mt 49).2.1 56 = .ok (.iconst 1, 1) := by decide +kernel
theorem s49_56 {ls : LV} {st : List AV} {m : MM} : go 49 56 ls st m = go 49 57 ls (.inl 1 :: st) m := e_1 d49_56 (Or.inl rfl) rfl
theorem d49_57 : decode (mt 49).2.1 57 = .ok (.invokevirtual 109, 3) := by decide +kernel
theorem s49_57 {ls : LV} {m : MM} {x0 : Int32} {x1 : Int32} {w0 w1 : AV} {n : Nat} : go 49 57 ls [.inl x1, .inl x0, .inr (.inr (6, some n)), w0, w1] m = bd (go 27 0 [some (.inr (.inr (6, some n))), some (.inl x0), some (.inl x1)] [] m) (fun v m2 => go 49 60 ls (v.toList ++ [w0, w1]) m2) := e_virt (y1 := 27) (na := 2) (as := [.inl x0, .inl x1]) (rest := [w0, w1]) d49_57 (by decide +kernel) rfl (by decide +kernel) (show (ent [.inr (.inr (6, some n)), .inl x0, .inl x1]).length ≤ (mt 27).2.2.2.1 from Nat.le_of_ble_eq_true rfl) (cats_le (Nat.le_of_ble_eq_true rfl)) (by decide +kernel)
theorem d49_60 : decode (mt 49).2.1 60 = .ok (.invokevirtual 84, 3) := by decide +kernel
theorem s49_60 {ls : LV} {m : MM} {x0 : Int32} {x1 : Nat × Option Nat} {n : Nat} : go 49 60 ls [.inr (.inr x1), .inl x0, .inr (.inr (3, some n))] m = bd (go 11 0 [some (.inr (.inr (3, some n))), some (.inl x0), some (.inr (.inr x1))] [] m) (fun v m2 => go 49 63 ls (v.toList ++ []) m2) := e_virt (y1 := 11) (na := 2) (as := [.inl x0, .inr (.inr x1)]) (rest := []) d49_60 (by decide +kernel) rfl (by decide +kernel) (show (ent [.inr (.inr (3, some n)), .inl x0, .inr (.inr x1)]).length ≤ (mt 11).2.2.2.1 from Nat.le_of_ble_eq_true rfl) (cats_le (Nat.le_of_ble_eq_true rfl)) (by decide +kernel)
theorem d49_63 : decode (mt 49).2.1 63 = .ok (.return_, 1) := by decide +kernel
theorem s49_63 {ls : LV} {m : MM} : go 49 63 ls [] m = some (none, m) := e_void d49_63 (by decide +kernel)
/-! X6_sendLink: 50 -/
theorem d50_0 : decode (mt 50).2.1 0 = .ok (.aload_n 0, 1) := by decide +kernel
theorem s50_0 {a1 a2 a3 a4 : Option AV} {st : List AV} {m : MM} {x : Nat × Option Nat} : go 50 0 [some (.inr (.inr x)), a1, a2, a3, a4] st m = go 50 1 [some (.inr (.inr x)), a1, a2, a3, a4] (.inr (.inr x) :: st) m := e_1 d50_0 (Or.inl rfl) rfl
theorem d50_1 : decode (mt 50).2.1 1 = .ok (.getfield 28, 3) := by decide +kernel
theorem s50_1 {ls : LV} {st : List AV} {m : MM} {n : Nat} : go 50 1 ls (.inr (.inr (7, some n)) :: st) m = go 50 4 ls (.inr (.inr (3, mR m 7 n 6)) :: st) m := e_1 d50_1 (Or.inl rfl) (by rw [xi, pA, show lk fdL (mt 50).2.2.1 28 = some (7, 6) by decide +kernel]; rfl)
theorem d50_4 : decode (mt 50).2.1 4 = .ok (.aconst_null, 1) := by decide +kernel
theorem s50_4 {ls : LV} {st : List AV} {m : MM} : go 50 4 ls st m = go 50 5 ls (.inr (.inr (0, none)) :: st) m := e_1 d50_4 (Or.inl rfl) rfl
theorem d50_5 : decode (mt 50).2.1 5 = .ok (.bipush 7, 2) := by decide +kernel
theorem s50_5 {ls : LV} {st : List AV} {m : MM} : go 50 5 ls st m = go 50 7 ls (.inl 7 :: st) m := e_1 d50_5 (Or.inl rfl) rfl
theorem d50_7 : decode (mt 50).2.1 7 = .ok (.aload_n 1, 1) := by decide +kernel
theorem s50_7 {a0 a2 a3 a4 : Option AV} {st : List AV} {m : MM} {x : Nat × Option Nat} : go 50 7 [a0, some (.inr (.inr x)), a2, a3, a4] st m = go 50 8 [a0, some (.inr (.inr x)), a2, a3, a4] (.inr (.inr x) :: st) m := e_1 d50_7 (Or.inl rfl) rfl
theorem d50_8 : decode (mt 50).2.1 8 = .ok (.iload_n 2, 1) := by decide +kernel
theorem s50_8 {a0 a1 a3 a4 : Option AV} {st : List AV} {m : MM} {x : Int32} : go 50 8 [a0, a1, some (.inl x), a3, a4] st m = go 50 9 [a0, a1, some (.inl x), a3, a4] (.inl x :: st) m := e_1 d50_8 (Or.inl rfl) rfl
theorem d50_9 : decode (mt 50).2.1 9 = .ok (.iload_n 3, 1) := by decide +kernel
theorem s50_9 {a0 a1 a2 a4 : Option AV} {st : List AV} {m : MM} {x : Int32} : go 50 9 [a0, a1, a2, some (.inl x), a4] st m = go 50 10 [a0, a1, a2, some (.inl x), a4] (.inl x :: st) m := e_1 d50_9 (Or.inl rfl) rfl
theorem d50_10 : decode (mt 50).2.1 10 = .ok (.iload_n 3, 1) := by decide +kernel
theorem s50_10 {a0 a1 a2 a4 : Option AV} {st : List AV} {m : MM} {x : Int32} : go 50 10 [a0, a1, a2, some (.inl x), a4] st m = go 50 11 [a0, a1, a2, some (.inl x), a4] (.inl x :: st) m := e_1 d50_10 (Or.inl rfl) rfl
theorem d50_11 : decode (mt 50).2.1 11 = .ok (.ifCond .ne 8, 3) := by decide +kernel
theorem s50_11 {ls : LV} {st : List AV} {m : MM} {a : Int32} : go 50 11 ls (.inl a :: st) m = if ¬ a = 0 then go 50 19 ls st m else go 50 14 ls st m := e_if (t := 19) (b := hc .ne a 0) d50_11 (Or.inl rfl) (by simp only [xi, pI, jm_some (t := 19) (show ((11 : Nat) : Int) + 8 = ((19 : Nat) : Int) by decide), Option.bind_some]) (by simp [hc])
theorem d50_14 : decode (mt 50).2.1 14 = .ok (.aload 4, 2) := by decide +kernel
theorem s50_14 {a0 a1 a2 a3 : Option AV} {st : List AV} {m : MM} {x : Nat × Option Nat} : go 50 14 [a0, a1, a2, a3, some (.inr (.inr x))] st m = go 50 16 [a0, a1, a2, a3, some (.inr (.inr x))] (.inr (.inr x) :: st) m := e_1 d50_14 (Or.inl rfl) rfl
theorem d50_16 : decode (mt 50).2.1 16 = .ok (.goto 4, 3) := by decide +kernel
theorem s50_16 {ls : LV} {st : List AV} {m : MM} : go 50 16 ls st m = go 50 20 ls st m := e_1 d50_16 (Or.inl rfl) (by rw [xi, jm_some (t := 20) (by decide)]; rfl)
theorem d50_19 : decode (mt 50).2.1 19 = .ok (.aconst_null, 1) := by decide +kernel
theorem s50_19 {ls : LV} {st : List AV} {m : MM} : go 50 19 ls st m = go 50 20 ls (.inr (.inr (0, none)) :: st) m := e_1 d50_19 (Or.inl rfl) rfl
theorem d50_20 : decode (mt 50).2.1 20 = .ok (.iload_n 3, 1) := by decide +kernel
theorem s50_20 {a0 a1 a2 a4 : Option AV} {st : List AV} {m : MM} {x : Int32} : go 50 20 [a0, a1, a2, some (.inl x), a4] st m = go 50 21 [a0, a1, a2, some (.inl x), a4] (.inl x :: st) m := e_1 d50_20 (Or.inl rfl) rfl
theorem d50_21 : decode (mt 50).2.1 21 = .ok (.iconst 1, 1) := by decide +kernel
theorem s50_21 {ls : LV} {st : List AV} {m : MM} : go 50 21 ls st m = go 50 22 ls (.inl 1 :: st) m := e_1 d50_21 (Or.inl rfl) rfl
theorem d50_22 : decode (mt 50).2.1 22 = .ok (.if_icmp .ne 8, 3) := by decide +kernel
theorem s50_22 {ls : LV} {st : List AV} {m : MM} {a b : Int32} : go 50 22 ls (.inl b :: .inl a :: st) m = if ¬ a = b then go 50 30 ls st m else go 50 25 ls st m := e_if (t := 30) (b := hc .ne a b) d50_22 (Or.inl rfl) (by simp only [xi, pI, jm_some (t := 30) (show ((22 : Nat) : Int) + 8 = ((30 : Nat) : Int) by decide), Option.bind_some]) (by simp [hc])
theorem d50_25 : decode (mt 50).2.1 25 = .ok (.aload 4, 2) := by decide +kernel
theorem s50_25 {a0 a1 a2 a3 : Option AV} {st : List AV} {m : MM} {x : Nat × Option Nat} : go 50 25 [a0, a1, a2, a3, some (.inr (.inr x))] st m = go 50 27 [a0, a1, a2, a3, some (.inr (.inr x))] (.inr (.inr x) :: st) m := e_1 d50_25 (Or.inl rfl) rfl
theorem d50_27 : decode (mt 50).2.1 27 = .ok (.goto 4, 3) := by decide +kernel
theorem s50_27 {ls : LV} {st : List AV} {m : MM} : go 50 27 ls st m = go 50 31 ls st m := e_1 d50_27 (Or.inl rfl) (by rw [xi, jm_some (t := 31) (by decide)]; rfl)
theorem d50_30 : decode (mt 50).2.1 30 = .ok (.aconst_null, 1) := by decide +kernel
theorem s50_30 {ls : LV} {st : List AV} {m : MM} : go 50 30 ls st m = go 50 31 ls (.inr (.inr (0, none)) :: st) m := e_1 d50_30 (Or.inl rfl) rfl
theorem d50_31 : decode (mt 50).2.1 31 = .ok (.invokevirtual 133, 3) := by decide +kernel
theorem s50_31 {ls : LV} {m : MM} {x0 : Nat × Option Nat} {x1 : Int32} {x2 : Nat × Option Nat} {x3 : Int32} {x4 : Int32} {x5 : Nat × Option Nat} {x6 : Nat × Option Nat} {n : Nat} : go 50 31 ls [.inr (.inr x6), .inr (.inr x5), .inl x4, .inl x3, .inr (.inr x2), .inl x1, .inr (.inr x0), .inr (.inr (3, some n))] m = bd (go 12 0 [some (.inr (.inr (3, some n))), some (.inr (.inr x0)), some (.inl x1), some (.inr (.inr x2)), some (.inl x3), some (.inl x4), some (.inr (.inr x5)), some (.inr (.inr x6)), none] [] m) (fun v m2 => go 50 34 ls (v.toList ++ []) m2) := e_virt (y1 := 12) (na := 7) (as := [.inr (.inr x0), .inl x1, .inr (.inr x2), .inl x3, .inl x4, .inr (.inr x5), .inr (.inr x6)]) (rest := []) d50_31 (by decide +kernel) rfl (by decide +kernel) (show (ent [.inr (.inr (3, some n)), .inr (.inr x0), .inl x1, .inr (.inr x2), .inl x3, .inl x4, .inr (.inr x5), .inr (.inr x6)]).length ≤ (mt 12).2.2.2.1 from Nat.le_of_ble_eq_true rfl) (cats_le (Nat.le_of_ble_eq_true rfl)) (by decide +kernel)
theorem d50_34 : decode (mt 50).2.1 34 = .ok (.return_, 1) := by decide +kernel
theorem s50_34 {ls : LV} {m : MM} : go 50 34 ls [] m = some (none, m) := e_void d50_34 (by decide +kernel)
/-! X6_settleChange: 51 -/
theorem d51_0 : decode (mt 51).2.1 0 = .ok (.aload_n 0, 1) := by decide +kernel
theorem s51_0 {st : List AV} {m : MM} {x : Nat × Option Nat} : go 51 0 [some (.inr (.inr x))] st m = go 51 1 [some (.inr (.inr x))] (.inr (.inr x) :: st) m := e_1 d51_0 (Or.inl rfl) rfl
theorem d51_1 : decode (mt 51).2.1 1 = .ok (.getfield 35, 3) := by decide +kernel
theorem s51_1 {ls : LV} {st : List AV} {m : MM} {n : Nat} : go 51 1 ls (.inr (.inr (7, some n)) :: st) m = go 51 4 ls (.inr (.inr (2, mR m 7 n 7)) :: st) m := e_1 d51_1 (Or.inl rfl) (by rw [xi, pA, show lk fdL (mt 51).2.2.1 35 = some (7, 7) by decide +kernel]; rfl)
theorem d51_4 : decode (mt 51).2.1 4 = .ok (.invokevirtual 72, 3) := by decide +kernel
theorem s51_4 {ls : LV} {m : MM} {n : Nat} : go 51 4 ls [.inr (.inr (2, some n))] m = bd (go 6 0 [some (.inr (.inr (2, some n)))] [] m) (fun v m2 => go 51 7 ls (v.toList ++ []) m2) := e_virt (y1 := 6) (na := 0) (as := []) (rest := []) d51_4 (by decide +kernel) rfl (by decide +kernel) (show (ent [.inr (.inr (2, some n))]).length ≤ (mt 6).2.2.2.1 from Nat.le_of_ble_eq_true rfl) (cats_le (Nat.le_of_ble_eq_true rfl)) (by decide +kernel)
theorem d51_7 : decode (mt 51).2.1 7 = .ok (.ifCond .eq 23, 3) := by decide +kernel
theorem s51_7 {ls : LV} {st : List AV} {m : MM} {a : Int32} : go 51 7 ls (.inl a :: st) m = if a = 0 then go 51 30 ls st m else go 51 10 ls st m := e_if (t := 30) (b := hc .eq a 0) d51_7 (Or.inl rfl) (by simp only [xi, pI, jm_some (t := 30) (show ((7 : Nat) : Int) + 23 = ((30 : Nat) : Int) by decide), Option.bind_some]) (by simp [hc])
theorem d51_10 : decode (mt 51).2.1 10 = .ok (.aload_n 0, 1) := by decide +kernel
theorem s51_10 {st : List AV} {m : MM} {x : Nat × Option Nat} : go 51 10 [some (.inr (.inr x))] st m = go 51 11 [some (.inr (.inr x))] (.inr (.inr x) :: st) m := e_1 d51_10 (Or.inl rfl) rfl
theorem d51_11 : decode (mt 51).2.1 11 = .ok (.getfield 35, 3) := by decide +kernel
theorem s51_11 {ls : LV} {st : List AV} {m : MM} {n : Nat} : go 51 11 ls (.inr (.inr (7, some n)) :: st) m = go 51 14 ls (.inr (.inr (2, mR m 7 n 7)) :: st) m := e_1 d51_11 (Or.inl rfl) (by rw [xi, pA, show lk fdL (mt 51).2.2.1 35 = some (7, 7) by decide +kernel]; rfl)
theorem d51_14 : decode (mt 51).2.1 14 = .ok (.getfield 137, 3) := by decide +kernel
theorem s51_14 {ls : LV} {st : List AV} {m : MM} {n : Nat} : go 51 14 ls (.inr (.inr (2, some n)) :: st) m = go 51 17 ls (.inr (.inr (6, mR m 2 n 1)) :: st) m := e_1 d51_14 (Or.inl rfl) (by rw [xi, pA, show lk fdL (mt 51).2.2.1 137 = some (2, 1) by decide +kernel]; rfl)
theorem d51_17 : decode (mt 51).2.1 17 = .ok (.ifnull 13, 3) := by decide +kernel
theorem s51_17n {u : Nat} {ls : LV} {st : List AV} {m : MM} : go 51 17 ls (.inr (.inr (u, none)) :: st) m = go 51 30 ls st m := e_1 d51_17 (Or.inl rfl) (by rw [xi, jm_some (t := 30) (by decide)]; rfl)
theorem s51_17s {u n : Nat} {ls : LV} {st : List AV} {m : MM} : go 51 17 ls (.inr (.inr (u, some n)) :: st) m = go 51 20 ls st m := e_1 d51_17 (Or.inl rfl) (by rw [xi, jm_some (t := 30) (by decide)]; rfl)
theorem d51_20 : decode (mt 51).2.1 20 = .ok (.aload_n 0, 1) := by decide +kernel
theorem s51_20 {st : List AV} {m : MM} {x : Nat × Option Nat} : go 51 20 [some (.inr (.inr x))] st m = go 51 21 [some (.inr (.inr x))] (.inr (.inr x) :: st) m := e_1 d51_20 (Or.inl rfl) rfl
theorem d51_21 : decode (mt 51).2.1 21 = .ok (.getfield 28, 3) := by decide +kernel
theorem s51_21 {ls : LV} {st : List AV} {m : MM} {n : Nat} : go 51 21 ls (.inr (.inr (7, some n)) :: st) m = go 51 24 ls (.inr (.inr (3, mR m 7 n 6)) :: st) m := e_1 d51_21 (Or.inl rfl) (by rw [xi, pA, show lk fdL (mt 51).2.2.1 28 = some (7, 6) by decide +kernel]; rfl)
theorem d51_24 : decode (mt 51).2.1 24 = .ok (.getfield 141, 3) := by decide +kernel
theorem s51_24 {ls : LV} {st : List AV} {m : MM} {n : Nat} : go 51 24 ls (.inr (.inr (3, some n)) :: st) m = go 51 27 ls (.inl (mI m 3 n 2) :: st) m := e_1 d51_24 (Or.inl rfl) (by rw [xi, pA, show lk fdL (mt 51).2.2.1 141 = some (3, 2) by decide +kernel]; rfl)
theorem d51_27 : decode (mt 51).2.1 27 = .ok (.ifCond .le 4, 3) := by decide +kernel
theorem s51_27 {ls : LV} {st : List AV} {m : MM} {a : Int32} : go 51 27 ls (.inl a :: st) m = if a ≤ 0 then go 51 31 ls st m else go 51 30 ls st m := e_if (t := 31) (b := hc .le a 0) d51_27 (Or.inl rfl) (by simp only [xi, pI, jm_some (t := 31) (show ((27 : Nat) : Int) + 4 = ((31 : Nat) : Int) by decide), Option.bind_some]) (by simp [hc])
theorem d51_30 : decode (mt 51).2.1 30 = .ok (.return_, 1) := by decide +kernel
theorem s51_30 {ls : LV} {m : MM} : go 51 30 ls [] m = some (none, m) := e_void d51_30 (by decide +kernel)
theorem d51_31 : decode (mt 51).2.1 31 = .ok (.aload_n 0, 1) := by decide +kernel
theorem s51_31 {st : List AV} {m : MM} {x : Nat × Option Nat} : go 51 31 [some (.inr (.inr x))] st m = go 51 32 [some (.inr (.inr x))] (.inr (.inr x) :: st) m := e_1 d51_31 (Or.inl rfl) rfl
theorem d51_32 : decode (mt 51).2.1 32 = .ok (.getfield 35, 3) := by decide +kernel
theorem s51_32 {ls : LV} {st : List AV} {m : MM} {n : Nat} : go 51 32 ls (.inr (.inr (7, some n)) :: st) m = go 51 35 ls (.inr (.inr (2, mR m 7 n 7)) :: st) m := e_1 d51_32 (Or.inl rfl) (by rw [xi, pA, show lk fdL (mt 51).2.2.1 35 = some (7, 7) by decide +kernel]; rfl)
theorem d51_35 : decode (mt 51).2.1 35 = .ok (.getfield 98, 3) := by decide +kernel
theorem s51_35 {ls : LV} {st : List AV} {m : MM} {n : Nat} : go 51 35 ls (.inr (.inr (2, some n)) :: st) m = go 51 38 ls (.inl (mI m 2 n 2) :: st) m := e_1 d51_35 (Or.inl rfl) (by rw [xi, pA, show lk fdL (mt 51).2.2.1 98 = some (2, 2) by decide +kernel]; rfl)
theorem d51_38 : decode (mt 51).2.1 38 = .ok (.ifCond .eq 40, 3) := by decide +kernel
theorem s51_38 {ls : LV} {st : List AV} {m : MM} {a : Int32} : go 51 38 ls (.inl a :: st) m = if a = 0 then go 51 78 ls st m else go 51 41 ls st m := e_if (t := 78) (b := hc .eq a 0) d51_38 (Or.inl rfl) (by simp only [xi, pI, jm_some (t := 78) (show ((38 : Nat) : Int) + 40 = ((78 : Nat) : Int) by decide), Option.bind_some]) (by simp [hc])
theorem d51_41 : decode (mt 51).2.1 41 = .ok (.aload_n 0, 1) := by decide +kernel
theorem s51_41 {st : List AV} {m : MM} {x : Nat × Option Nat} : go 51 41 [some (.inr (.inr x))] st m = go 51 42 [some (.inr (.inr x))] (.inr (.inr x) :: st) m := e_1 d51_41 (Or.inl rfl) rfl
theorem d51_42 : decode (mt 51).2.1 42 = .ok (.getfield 35, 3) := by decide +kernel
theorem s51_42 {ls : LV} {st : List AV} {m : MM} {n : Nat} : go 51 42 ls (.inr (.inr (7, some n)) :: st) m = go 51 45 ls (.inr (.inr (2, mR m 7 n 7)) :: st) m := e_1 d51_42 (Or.inl rfl) (by rw [xi, pA, show lk fdL (mt 51).2.2.1 35 = some (7, 7) by decide +kernel]; rfl)
theorem d51_45 : decode (mt 51).2.1 45 = .ok (.iconst 0, 1) := by decide +kernel
theorem s51_45 {ls : LV} {st : List AV} {m : MM} : go 51 45 ls st m = go 51 46 ls (.inl 0 :: st) m := e_1 d51_45 (Or.inl rfl) rfl
theorem d51_46 : decode (mt 51).2.1 46 = .ok (.putfield 98, 3) := by decide +kernel
theorem s51_46b0 {ls : LV} {st : List AV} {m : MM} {n : Nat} : go 51 46 ls (.inl 0 :: .inr (.inr (2, some n)) :: st) m = go 51 49 ls st (sI m 2 n 2 0) := e_put (r := 2) (f := 2) d51_46 (by decide +kernel) rfl (by decide +kernel)
theorem s51_46b1 {ls : LV} {st : List AV} {m : MM} {n : Nat} : go 51 46 ls (.inl 1 :: .inr (.inr (2, some n)) :: st) m = go 51 49 ls st (sI m 2 n 2 1) := e_put (r := 2) (f := 2) d51_46 (by decide +kernel) rfl (by decide +kernel)
theorem d51_49 : decode (mt 51).2.1 49 = .ok (.aload_n 0, 1) := by decide +kernel
theorem s51_49 {st : List AV} {m : MM} {x : Nat × Option Nat} : go 51 49 [some (.inr (.inr x))] st m = go 51 50 [some (.inr (.inr x))] (.inr (.inr x) :: st) m := e_1 d51_49 (Or.inl rfl) rfl
theorem d51_50 : decode (mt 51).2.1 50 = .ok (.getfield 35, 3) := by decide +kernel
theorem s51_50 {ls : LV} {st : List AV} {m : MM} {n : Nat} : go 51 50 ls (.inr (.inr (7, some n)) :: st) m = go 51 53 ls (.inr (.inr (2, mR m 7 n 7)) :: st) m := e_1 d51_50 (Or.inl rfl) (by rw [xi, pA, show lk fdL (mt 51).2.2.1 35 = some (7, 7) by decide +kernel]; rfl)
theorem d51_53 : decode (mt 51).2.1 53 = .ok (.getfield 137, 3) := by decide +kernel
theorem s51_53 {ls : LV} {st : List AV} {m : MM} {n : Nat} : go 51 53 ls (.inr (.inr (2, some n)) :: st) m = go 51 56 ls (.inr (.inr (6, mR m 2 n 1)) :: st) m := e_1 d51_53 (Or.inl rfl) (by rw [xi, pA, show lk fdL (mt 51).2.2.1 137 = some (2, 1) by decide +kernel]; rfl)
theorem d51_56 : decode (mt 51).2.1 56 = .ok (.aload_n 0, 1) := by decide +kernel
theorem s51_56 {st : List AV} {m : MM} {x : Nat × Option Nat} : go 51 56 [some (.inr (.inr x))] st m = go 51 57 [some (.inr (.inr x))] (.inr (.inr x) :: st) m := e_1 d51_56 (Or.inl rfl) rfl
theorem d51_57 : decode (mt 51).2.1 57 = .ok (.getfield 35, 3) := by decide +kernel
theorem s51_57 {ls : LV} {st : List AV} {m : MM} {n : Nat} : go 51 57 ls (.inr (.inr (7, some n)) :: st) m = go 51 60 ls (.inr (.inr (2, mR m 7 n 7)) :: st) m := e_1 d51_57 (Or.inl rfl) (by rw [xi, pA, show lk fdL (mt 51).2.2.1 35 = some (7, 7) by decide +kernel]; rfl)
theorem d51_60 : decode (mt 51).2.1 60 = .ok (.getfield 102, 3) := by decide +kernel
theorem s51_60 {ls : LV} {st : List AV} {m : MM} {n : Nat} : go 51 60 ls (.inr (.inr (2, some n)) :: st) m = go 51 63 ls (.inl (mI m 2 n 3) :: st) m := e_1 d51_60 (Or.inl rfl) (by rw [xi, pA, show lk fdL (mt 51).2.2.1 102 = some (2, 3) by decide +kernel]; rfl)
theorem d51_63 : decode (mt 51).2.1 63 = .ok (.putfield 144, 3) := by decide +kernel
theorem s51_63 {ls : LV} {st : List AV} {m : MM} {n : Nat} {x : Int32} : go 51 63 ls (.inl x :: .inr (.inr (6, some n)) :: st) m = go 51 66 ls st (sI m 6 n 2 x) := e_put (r := 6) (f := 2) d51_63 (by decide +kernel) rfl (by decide +kernel)
theorem d51_66 : decode (mt 51).2.1 66 = .ok (.aload_n 0, 1) := by decide +kernel
theorem s51_66 {st : List AV} {m : MM} {x : Nat × Option Nat} : go 51 66 [some (.inr (.inr x))] st m = go 51 67 [some (.inr (.inr x))] (.inr (.inr x) :: st) m := e_1 d51_66 (Or.inl rfl) rfl
theorem d51_67 : decode (mt 51).2.1 67 = .ok (.aload_n 0, 1) := by decide +kernel
theorem s51_67 {st : List AV} {m : MM} {x : Nat × Option Nat} : go 51 67 [some (.inr (.inr x))] st m = go 51 68 [some (.inr (.inr x))] (.inr (.inr x) :: st) m := e_1 d51_67 (Or.inl rfl) rfl
theorem d51_68 : decode (mt 51).2.1 68 = .ok (.getfield 35, 3) := by decide +kernel
theorem s51_68 {ls : LV} {st : List AV} {m : MM} {n : Nat} : go 51 68 ls (.inr (.inr (7, some n)) :: st) m = go 51 71 ls (.inr (.inr (2, mR m 7 n 7)) :: st) m := e_1 d51_68 (Or.inl rfl) (by rw [xi, pA, show lk fdL (mt 51).2.2.1 35 = some (7, 7) by decide +kernel]; rfl)
theorem d51_71 : decode (mt 51).2.1 71 = .ok (.getfield 137, 3) := by decide +kernel
theorem s51_71 {ls : LV} {st : List AV} {m : MM} {n : Nat} : go 51 71 ls (.inr (.inr (2, some n)) :: st) m = go 51 74 ls (.inr (.inr (6, mR m 2 n 1)) :: st) m := e_1 d51_71 (Or.inl rfl) (by rw [xi, pA, show lk fdL (mt 51).2.2.1 137 = some (2, 1) by decide +kernel]; rfl)
theorem d51_74 : decode (mt 51).2.1 74 = .ok (.iconst 0, 1) := by decide +kernel
theorem s51_74 {ls : LV} {st : List AV} {m : MM} : go 51 74 ls st m = go 51 75 ls (.inl 0 :: st) m := e_1 d51_74 (Or.inl rfl) rfl
theorem d51_75 : decode (mt 51).2.1 75 = .ok (.invokevirtual 147, 3) := by decide +kernel
theorem s51_75 {ls : LV} {m : MM} {x0 : Nat × Option Nat} {x1 : Int32} {n : Nat} : go 51 75 ls [.inl x1, .inr (.inr x0), .inr (.inr (7, some n))] m = bd (go 78 0 [some (.inr (.inr (7, some n))), some (.inr (.inr x0)), some (.inl x1), none] [] m) (fun v m2 => go 51 78 ls (v.toList ++ []) m2) := e_virt (y1 := 78) (na := 2) (as := [.inr (.inr x0), .inl x1]) (rest := []) d51_75 (by decide +kernel) rfl (by decide +kernel) (show (ent [.inr (.inr (7, some n)), .inr (.inr x0), .inl x1]).length ≤ (mt 78).2.2.2.1 from Nat.le_of_ble_eq_true rfl) (cats_le (Nat.le_of_ble_eq_true rfl)) (by decide +kernel)
theorem d51_78 : decode (mt 51).2.1 78 = .ok (.aload_n 0, 1) := by decide +kernel
theorem s51_78 {st : List AV} {m : MM} {x : Nat × Option Nat} : go 51 78 [some (.inr (.inr x))] st m = go 51 79 [some (.inr (.inr x))] (.inr (.inr x) :: st) m := e_1 d51_78 (Or.inl rfl) rfl
theorem d51_79 : decode (mt 51).2.1 79 = .ok (.getfield 28, 3) := by decide +kernel
theorem s51_79 {ls : LV} {st : List AV} {m : MM} {n : Nat} : go 51 79 ls (.inr (.inr (7, some n)) :: st) m = go 51 82 ls (.inr (.inr (3, mR m 7 n 6)) :: st) m := e_1 d51_79 (Or.inl rfl) (by rw [xi, pA, show lk fdL (mt 51).2.2.1 28 = some (7, 6) by decide +kernel]; rfl)
theorem d51_82 : decode (mt 51).2.1 82 = .ok (.getfield 141, 3) := by decide +kernel
theorem s51_82 {ls : LV} {st : List AV} {m : MM} {n : Nat} : go 51 82 ls (.inr (.inr (3, some n)) :: st) m = go 51 85 ls (.inl (mI m 3 n 2) :: st) m := e_1 d51_82 (Or.inl rfl) (by rw [xi, pA, show lk fdL (mt 51).2.2.1 141 = some (3, 2) by decide +kernel]; rfl)
theorem d51_85 : decode (mt 51).2.1 85 = .ok (.ifCond .le 4, 3) := by decide +kernel
theorem s51_85 {ls : LV} {st : List AV} {m : MM} {a : Int32} : go 51 85 ls (.inl a :: st) m = if a ≤ 0 then go 51 89 ls st m else go 51 88 ls st m := e_if (t := 89) (b := hc .le a 0) d51_85 (Or.inl rfl) (by simp only [xi, pI, jm_some (t := 89) (show ((85 : Nat) : Int) + 4 = ((89 : Nat) : Int) by decide), Option.bind_some]) (by simp [hc])
theorem d51_88 : decode (mt 51).2.1 88 = .ok (.return_, 1) := by decide +kernel
theorem s51_88 {ls : LV} {m : MM} : go 51 88 ls [] m = some (none, m) := e_void d51_88 (by decide +kernel)
theorem d51_89 : decode (mt 51).2.1 89 = .ok (.aload_n 0, 1) := by decide +kernel
theorem s51_89 {st : List AV} {m : MM} {x : Nat × Option Nat} : go 51 89 [some (.inr (.inr x))] st m = go 51 90 [some (.inr (.inr x))] (.inr (.inr x) :: st) m := e_1 d51_89 (Or.inl rfl) rfl
theorem d51_90 : decode (mt 51).2.1 90 = .ok (.getfield 35, 3) := by decide +kernel
theorem s51_90 {ls : LV} {st : List AV} {m : MM} {n : Nat} : go 51 90 ls (.inr (.inr (7, some n)) :: st) m = go 51 93 ls (.inr (.inr (2, mR m 7 n 7)) :: st) m := e_1 d51_90 (Or.inl rfl) (by rw [xi, pA, show lk fdL (mt 51).2.2.1 35 = some (7, 7) by decide +kernel]; rfl)
theorem d51_93 : decode (mt 51).2.1 93 = .ok (.getfield 150, 3) := by decide +kernel
theorem s51_93 {ls : LV} {st : List AV} {m : MM} {n : Nat} : go 51 93 ls (.inr (.inr (2, some n)) :: st) m = go 51 96 ls (.inl (mI m 2 n 0) :: st) m := e_1 d51_93 (Or.inl rfl) (by rw [xi, pA, show lk fdL (mt 51).2.2.1 150 = some (2, 0) by decide +kernel]; rfl)
theorem d51_96 : decode (mt 51).2.1 96 = .ok (.iconst 2, 1) := by decide +kernel
theorem s51_96 {ls : LV} {st : List AV} {m : MM} : go 51 96 ls st m = go 51 97 ls (.inl 2 :: st) m := e_1 d51_96 (Or.inl rfl) rfl
theorem d51_97 : decode (mt 51).2.1 97 = .ok (.if_icmp .ne 13, 3) := by decide +kernel
theorem s51_97 {ls : LV} {st : List AV} {m : MM} {a b : Int32} : go 51 97 ls (.inl b :: .inl a :: st) m = if ¬ a = b then go 51 110 ls st m else go 51 100 ls st m := e_if (t := 110) (b := hc .ne a b) d51_97 (Or.inl rfl) (by simp only [xi, pI, jm_some (t := 110) (show ((97 : Nat) : Int) + 13 = ((110 : Nat) : Int) by decide), Option.bind_some]) (by simp [hc])
theorem d51_100 : decode (mt 51).2.1 100 = .ok (.aload_n 0, 1) := by decide +kernel
theorem s51_100 {st : List AV} {m : MM} {x : Nat × Option Nat} : go 51 100 [some (.inr (.inr x))] st m = go 51 101 [some (.inr (.inr x))] (.inr (.inr x) :: st) m := e_1 d51_100 (Or.inl rfl) rfl
theorem d51_101 : decode (mt 51).2.1 101 = .ok (.getfield 35, 3) := by decide +kernel
theorem s51_101 {ls : LV} {st : List AV} {m : MM} {n : Nat} : go 51 101 ls (.inr (.inr (7, some n)) :: st) m = go 51 104 ls (.inr (.inr (2, mR m 7 n 7)) :: st) m := e_1 d51_101 (Or.inl rfl) (by rw [xi, pA, show lk fdL (mt 51).2.2.1 35 = some (7, 7) by decide +kernel]; rfl)
theorem d51_104 : decode (mt 51).2.1 104 = .ok (.getfield 137, 3) := by decide +kernel
theorem s51_104 {ls : LV} {st : List AV} {m : MM} {n : Nat} : go 51 104 ls (.inr (.inr (2, some n)) :: st) m = go 51 107 ls (.inr (.inr (6, mR m 2 n 1)) :: st) m := e_1 d51_104 (Or.inl rfl) (by rw [xi, pA, show lk fdL (mt 51).2.2.1 137 = some (2, 1) by decide +kernel]; rfl)
theorem d51_107 : decode (mt 51).2.1 107 = .ok (.invokevirtual 153, 3) := by decide +kernel
theorem s51_107 {ls : LV} {m : MM} {n : Nat} : go 51 107 ls [.inr (.inr (6, some n))] m = bd (go 35 0 [some (.inr (.inr (6, some n)))] [] m) (fun v m2 => go 51 110 ls (v.toList ++ []) m2) := e_virt (y1 := 35) (na := 0) (as := []) (rest := []) d51_107 (by decide +kernel) rfl (by decide +kernel) (show (ent [.inr (.inr (6, some n))]).length ≤ (mt 35).2.2.2.1 from Nat.le_of_ble_eq_true rfl) (cats_le (Nat.le_of_ble_eq_true rfl)) (by decide +kernel)
theorem d51_110 : decode (mt 51).2.1 110 = .ok (.aload_n 0, 1) := by decide +kernel
theorem s51_110 {st : List AV} {m : MM} {x : Nat × Option Nat} : go 51 110 [some (.inr (.inr x))] st m = go 51 111 [some (.inr (.inr x))] (.inr (.inr x) :: st) m := e_1 d51_110 (Or.inl rfl) rfl
theorem d51_111 : decode (mt 51).2.1 111 = .ok (.getfield 35, 3) := by decide +kernel
theorem s51_111 {ls : LV} {st : List AV} {m : MM} {n : Nat} : go 51 111 ls (.inr (.inr (7, some n)) :: st) m = go 51 114 ls (.inr (.inr (2, mR m 7 n 7)) :: st) m := e_1 d51_111 (Or.inl rfl) (by rw [xi, pA, show lk fdL (mt 51).2.2.1 35 = some (7, 7) by decide +kernel]; rfl)
theorem d51_114 : decode (mt 51).2.1 114 = .ok (.iconst 0, 1) := by decide +kernel
theorem s51_114 {ls : LV} {st : List AV} {m : MM} : go 51 114 ls st m = go 51 115 ls (.inl 0 :: st) m := e_1 d51_114 (Or.inl rfl) rfl
theorem d51_115 : decode (mt 51).2.1 115 = .ok (.aconst_null, 1) := by decide +kernel
theorem s51_115 {ls : LV} {st : List AV} {m : MM} : go 51 115 ls st m = go 51 116 ls (.inr (.inr (0, none)) :: st) m := e_1 d51_115 (Or.inl rfl) rfl
theorem d51_116 : decode (mt 51).2.1 116 = .ok (.invokevirtual 80, 3) := by decide +kernel
theorem s51_116 {ls : LV} {m : MM} {x0 : Int32} {x1 : Nat × Option Nat} {n : Nat} : go 51 116 ls [.inr (.inr x1), .inl x0, .inr (.inr (2, some n))] m = bd (go 7 0 [some (.inr (.inr (2, some n))), some (.inl x0), some (.inr (.inr x1))] [] m) (fun v m2 => go 51 119 ls (v.toList ++ []) m2) := e_virt (y1 := 7) (na := 2) (as := [.inl x0, .inr (.inr x1)]) (rest := []) d51_116 (by decide +kernel) rfl (by decide +kernel) (show (ent [.inr (.inr (2, some n)), .inl x0, .inr (.inr x1)]).length ≤ (mt 7).2.2.2.1 from Nat.le_of_ble_eq_true rfl) (cats_le (Nat.le_of_ble_eq_true rfl)) (by decide +kernel)
theorem d51_119 : decode (mt 51).2.1 119 = .ok (.return_, 1) := by decide +kernel
theorem s51_119 {ls : LV} {m : MM} : go 51 119 ls [] m = some (none, m) := e_void d51_119 (by decide +kernel)
/-! X6_find: 52 -/
theorem d52_0 : decode (mt 52).2.1 0 = .ok (.aload_n 0, 1) := by decide +kernel
theorem s52_0 {a1 a2 : Option AV} {st : List AV} {m : MM} {x : Nat × Option Nat} : go 52 0 [some (.inr (.inr x)), a1, a2] st m = go 52 1 [some (.inr (.inr x)), a1, a2] (.inr (.inr x) :: st) m := e_1 d52_0 (Or.inl rfl) rfl
theorem d52_1 : decode (mt 52).2.1 1 = .ok (.iconst 0, 1) := by decide +kernel
theorem s52_1 {ls : LV} {st : List AV} {m : MM} : go 52 1 ls st m = go 52 2 ls (.inl 0 :: st) m := e_1 d52_1 (Or.inl rfl) rfl
theorem d52_2 : decode (mt 52).2.1 2 = .ok (.iload_n 1, 1) := by decide +kernel
theorem s52_2 {a0 a2 : Option AV} {st : List AV} {m : MM} {x : Int32} : go 52 2 [a0, some (.inl x), a2] st m = go 52 3 [a0, some (.inl x), a2] (.inl x :: st) m := e_1 d52_2 (Or.inl rfl) rfl
theorem d52_3 : decode (mt 52).2.1 3 = .ok (.iload_n 2, 1) := by decide +kernel
theorem s52_3 {a0 a1 : Option AV} {st : List AV} {m : MM} {x : Int32} : go 52 3 [a0, a1, some (.inl x)] st m = go 52 4 [a0, a1, some (.inl x)] (.inl x :: st) m := e_1 d52_3 (Or.inl rfl) rfl
theorem d52_4 : decode (mt 52).2.1 4 = .ok (.iload_n 2, 1) := by decide +kernel
theorem s52_4 {a0 a1 : Option AV} {st : List AV} {m : MM} {x : Int32} : go 52 4 [a0, a1, some (.inl x)] st m = go 52 5 [a0, a1, some (.inl x)] (.inl x :: st) m := e_1 d52_4 (Or.inl rfl) rfl
theorem d52_5 : decode (mt 52).2.1 5 = .ok (.lconst 0, 1) := by decide +kernel
theorem s52_5 {ls : LV} {st : List AV} {m : MM} : go 52 5 ls st m = go 52 6 ls (.inr (.inl 0) :: st) m := e_1 d52_5 (Or.inl rfl) rfl
theorem d52_6 : decode (mt 52).2.1 6 = .ok (.invokevirtual 156, 3) := by decide +kernel
theorem s52_6 {ls : LV} {m : MM} {x0 : Int32} {x1 : Int32} {x2 : Int32} {x3 : Int32} {x4 : Int64} {n : Nat} : go 52 6 ls [.inr (.inl x4), .inl x3, .inl x2, .inl x1, .inl x0, .inr (.inr (7, some n))] m = bd (go 57 0 [some (.inr (.inr (7, some n))), some (.inl x0), some (.inl x1), some (.inl x2), some (.inl x3), some (.inr (.inl x4)), none, none, none] [] m) (fun v m2 => go 52 9 ls (v.toList ++ []) m2) := e_virt (y1 := 57) (na := 5) (as := [.inl x0, .inl x1, .inl x2, .inl x3, .inr (.inl x4)]) (rest := []) d52_6 (by decide +kernel) rfl (by decide +kernel) (show (ent [.inr (.inr (7, some n)), .inl x0, .inl x1, .inl x2, .inl x3, .inr (.inl x4)]).length ≤ (mt 57).2.2.2.1 from Nat.le_of_ble_eq_true rfl) (cats_le (Nat.le_of_ble_eq_true rfl)) (by decide +kernel)
theorem d52_9 : decode (mt 52).2.1 9 = .ok (.ireturn, 1) := by decide +kernel
theorem s52_9 {ls : LV} {m : MM} {x : Int32} : go 52 9 ls [.inl x] m = some (some (.inl x), m) := e_int d52_9 (by decide +kernel)
/-! X6_span: 53 -/
theorem d53_0 : decode (mt 53).2.1 0 = .ok (.aload_n 0, 1) := by decide +kernel
theorem s53_0 {a1 a2 a3 : Option AV} {st : List AV} {m : MM} {x : Nat × Option Nat} : go 53 0 [some (.inr (.inr x)), a1, a2, a3] st m = go 53 1 [some (.inr (.inr x)), a1, a2, a3] (.inr (.inr x) :: st) m := e_1 d53_0 (Or.inl rfl) rfl
theorem d53_1 : decode (mt 53).2.1 1 = .ok (.iconst 1, 1) := by decide +kernel
theorem s53_1 {ls : LV} {st : List AV} {m : MM} : go 53 1 ls st m = go 53 2 ls (.inl 1 :: st) m := e_1 d53_1 (Or.inl rfl) rfl
theorem d53_2 : decode (mt 53).2.1 2 = .ok (.iload_n 1, 1) := by decide +kernel
theorem s53_2 {a0 a2 a3 : Option AV} {st : List AV} {m : MM} {x : Int32} : go 53 2 [a0, some (.inl x), a2, a3] st m = go 53 3 [a0, some (.inl x), a2, a3] (.inl x :: st) m := e_1 d53_2 (Or.inl rfl) rfl
theorem d53_3 : decode (mt 53).2.1 3 = .ok (.iload_n 2, 1) := by decide +kernel
theorem s53_3 {a0 a1 a3 : Option AV} {st : List AV} {m : MM} {x : Int32} : go 53 3 [a0, a1, some (.inl x), a3] st m = go 53 4 [a0, a1, some (.inl x), a3] (.inl x :: st) m := e_1 d53_3 (Or.inl rfl) rfl
theorem d53_4 : decode (mt 53).2.1 4 = .ok (.iload_n 3, 1) := by decide +kernel
theorem s53_4 {a0 a1 a2 : Option AV} {st : List AV} {m : MM} {x : Int32} : go 53 4 [a0, a1, a2, some (.inl x)] st m = go 53 5 [a0, a1, a2, some (.inl x)] (.inl x :: st) m := e_1 d53_4 (Or.inl rfl) rfl
theorem d53_5 : decode (mt 53).2.1 5 = .ok (.lconst 0, 1) := by decide +kernel
theorem s53_5 {ls : LV} {st : List AV} {m : MM} : go 53 5 ls st m = go 53 6 ls (.inr (.inl 0) :: st) m := e_1 d53_5 (Or.inl rfl) rfl
theorem d53_6 : decode (mt 53).2.1 6 = .ok (.invokevirtual 156, 3) := by decide +kernel
theorem s53_6 {ls : LV} {m : MM} {x0 : Int32} {x1 : Int32} {x2 : Int32} {x3 : Int32} {x4 : Int64} {n : Nat} : go 53 6 ls [.inr (.inl x4), .inl x3, .inl x2, .inl x1, .inl x0, .inr (.inr (7, some n))] m = bd (go 57 0 [some (.inr (.inr (7, some n))), some (.inl x0), some (.inl x1), some (.inl x2), some (.inl x3), some (.inr (.inl x4)), none, none, none] [] m) (fun v m2 => go 53 9 ls (v.toList ++ []) m2) := e_virt (y1 := 57) (na := 5) (as := [.inl x0, .inl x1, .inl x2, .inl x3, .inr (.inl x4)]) (rest := []) d53_6 (by decide +kernel) rfl (by decide +kernel) (show (ent [.inr (.inr (7, some n)), .inl x0, .inl x1, .inl x2, .inl x3, .inr (.inl x4)]).length ≤ (mt 57).2.2.2.1 from Nat.le_of_ble_eq_true rfl) (cats_le (Nat.le_of_ble_eq_true rfl)) (by decide +kernel)
theorem d53_9 : decode (mt 53).2.1 9 = .ok (.ireturn, 1) := by decide +kernel
theorem s53_9 {ls : LV} {m : MM} {x : Int32} : go 53 9 ls [.inl x] m = some (some (.inl x), m) := e_int d53_9 (by decide +kernel)
/-! X6_tally: 54 -/
theorem d54_0 : decode (mt 54).2.1 0 = .ok (.aload_n 0, 1) := by decide +kernel
theorem s54_0 {a1 a2 a3 : Option AV} {st : List AV} {m : MM} {x : Nat × Option Nat} : go 54 0 [some (.inr (.inr x)), a1, a2, a3] st m = go 54 1 [some (.inr (.inr x)), a1, a2, a3] (.inr (.inr x) :: st) m := e_1 d54_0 (Or.inl rfl) rfl
theorem d54_1 : decode (mt 54).2.1 1 = .ok (.iconst 2, 1) := by decide +kernel
theorem s54_1 {ls : LV} {st : List AV} {m : MM} : go 54 1 ls st m = go 54 2 ls (.inl 2 :: st) m := e_1 d54_1 (Or.inl rfl) rfl
theorem d54_2 : decode (mt 54).2.1 2 = .ok (.iload_n 1, 1) := by decide +kernel
theorem s54_2 {a0 a2 a3 : Option AV} {st : List AV} {m : MM} {x : Int32} : go 54 2 [a0, some (.inl x), a2, a3] st m = go 54 3 [a0, some (.inl x), a2, a3] (.inl x :: st) m := e_1 d54_2 (Or.inl rfl) rfl
theorem d54_3 : decode (mt 54).2.1 3 = .ok (.iload_n 2, 1) := by decide +kernel
theorem s54_3 {a0 a1 a3 : Option AV} {st : List AV} {m : MM} {x : Int32} : go 54 3 [a0, a1, some (.inl x), a3] st m = go 54 4 [a0, a1, some (.inl x), a3] (.inl x :: st) m := e_1 d54_3 (Or.inl rfl) rfl
theorem d54_4 : decode (mt 54).2.1 4 = .ok (.iload_n 3, 1) := by decide +kernel
theorem s54_4 {a0 a1 a2 : Option AV} {st : List AV} {m : MM} {x : Int32} : go 54 4 [a0, a1, a2, some (.inl x)] st m = go 54 5 [a0, a1, a2, some (.inl x)] (.inl x :: st) m := e_1 d54_4 (Or.inl rfl) rfl
theorem d54_5 : decode (mt 54).2.1 5 = .ok (.lconst 0, 1) := by decide +kernel
theorem s54_5 {ls : LV} {st : List AV} {m : MM} : go 54 5 ls st m = go 54 6 ls (.inr (.inl 0) :: st) m := e_1 d54_5 (Or.inl rfl) rfl
theorem d54_6 : decode (mt 54).2.1 6 = .ok (.invokevirtual 156, 3) := by decide +kernel
theorem s54_6 {ls : LV} {m : MM} {x0 : Int32} {x1 : Int32} {x2 : Int32} {x3 : Int32} {x4 : Int64} {n : Nat} : go 54 6 ls [.inr (.inl x4), .inl x3, .inl x2, .inl x1, .inl x0, .inr (.inr (7, some n))] m = bd (go 57 0 [some (.inr (.inr (7, some n))), some (.inl x0), some (.inl x1), some (.inl x2), some (.inl x3), some (.inr (.inl x4)), none, none, none] [] m) (fun v m2 => go 54 9 ls (v.toList ++ []) m2) := e_virt (y1 := 57) (na := 5) (as := [.inl x0, .inl x1, .inl x2, .inl x3, .inr (.inl x4)]) (rest := []) d54_6 (by decide +kernel) rfl (by decide +kernel) (show (ent [.inr (.inr (7, some n)), .inl x0, .inl x1, .inl x2, .inl x3, .inr (.inl x4)]).length ≤ (mt 57).2.2.2.1 from Nat.le_of_ble_eq_true rfl) (cats_le (Nat.le_of_ble_eq_true rfl)) (by decide +kernel)
theorem d54_9 : decode (mt 54).2.1 9 = .ok (.ireturn, 1) := by decide +kernel
theorem s54_9 {ls : LV} {m : MM} {x : Int32} : go 54 9 ls [.inl x] m = some (some (.inl x), m) := e_int d54_9 (by decide +kernel)
/-! X6_put: 55 -/
theorem d55_0 : decode (mt 55).2.1 0 = .ok (.aload_n 0, 1) := by decide +kernel
theorem s55_0 {a1 a2 a3 a4 : Option AV} {st : List AV} {m : MM} {x : Nat × Option Nat} : go 55 0 [some (.inr (.inr x)), a1, a2, a3, a4] st m = go 55 1 [some (.inr (.inr x)), a1, a2, a3, a4] (.inr (.inr x) :: st) m := e_1 d55_0 (Or.inl rfl) rfl
theorem d55_1 : decode (mt 55).2.1 1 = .ok (.iconst 3, 1) := by decide +kernel
theorem s55_1 {ls : LV} {st : List AV} {m : MM} : go 55 1 ls st m = go 55 2 ls (.inl 3 :: st) m := e_1 d55_1 (Or.inl rfl) rfl
theorem d55_2 : decode (mt 55).2.1 2 = .ok (.iload_n 1, 1) := by decide +kernel
theorem s55_2 {a0 a2 a3 a4 : Option AV} {st : List AV} {m : MM} {x : Int32} : go 55 2 [a0, some (.inl x), a2, a3, a4] st m = go 55 3 [a0, some (.inl x), a2, a3, a4] (.inl x :: st) m := e_1 d55_2 (Or.inl rfl) rfl
theorem d55_3 : decode (mt 55).2.1 3 = .ok (.iload_n 2, 1) := by decide +kernel
theorem s55_3 {a0 a1 a3 a4 : Option AV} {st : List AV} {m : MM} {x : Int32} : go 55 3 [a0, a1, some (.inl x), a3, a4] st m = go 55 4 [a0, a1, some (.inl x), a3, a4] (.inl x :: st) m := e_1 d55_3 (Or.inl rfl) rfl
theorem d55_4 : decode (mt 55).2.1 4 = .ok (.iload_n 2, 1) := by decide +kernel
theorem s55_4 {a0 a1 a3 a4 : Option AV} {st : List AV} {m : MM} {x : Int32} : go 55 4 [a0, a1, some (.inl x), a3, a4] st m = go 55 5 [a0, a1, some (.inl x), a3, a4] (.inl x :: st) m := e_1 d55_4 (Or.inl rfl) rfl
theorem d55_5 : decode (mt 55).2.1 5 = .ok (.lload_n 3, 1) := by decide +kernel
theorem s55_5 {a0 a1 a2 a4 : Option AV} {st : List AV} {m : MM} {x : Int64} : go 55 5 [a0, a1, a2, some (.inr (.inl x)), a4] st m = go 55 6 [a0, a1, a2, some (.inr (.inl x)), a4] (.inr (.inl x) :: st) m := e_1 d55_5 (Or.inl rfl) rfl
theorem d55_6 : decode (mt 55).2.1 6 = .ok (.invokevirtual 156, 3) := by decide +kernel
theorem s55_6 {ls : LV} {m : MM} {x0 : Int32} {x1 : Int32} {x2 : Int32} {x3 : Int32} {x4 : Int64} {n : Nat} : go 55 6 ls [.inr (.inl x4), .inl x3, .inl x2, .inl x1, .inl x0, .inr (.inr (7, some n))] m = bd (go 57 0 [some (.inr (.inr (7, some n))), some (.inl x0), some (.inl x1), some (.inl x2), some (.inl x3), some (.inr (.inl x4)), none, none, none] [] m) (fun v m2 => go 55 9 ls (v.toList ++ []) m2) := e_virt (y1 := 57) (na := 5) (as := [.inl x0, .inl x1, .inl x2, .inl x3, .inr (.inl x4)]) (rest := []) d55_6 (by decide +kernel) rfl (by decide +kernel) (show (ent [.inr (.inr (7, some n)), .inl x0, .inl x1, .inl x2, .inl x3, .inr (.inl x4)]).length ≤ (mt 57).2.2.2.1 from Nat.le_of_ble_eq_true rfl) (cats_le (Nat.le_of_ble_eq_true rfl)) (by decide +kernel)
theorem d55_9 : decode (mt 55).2.1 9 = .ok (.ireturn, 1) := by decide +kernel
theorem s55_9 {ls : LV} {m : MM} {x : Int32} : go 55 9 ls [.inl x] m = some (some (.inl x), m) := e_int d55_9 (by decide +kernel)
/-! X6_get: 56 -/
theorem d56_0 : decode (mt 56).2.1 0 = .ok (.aload_n 0, 1) := by decide +kernel
theorem s56_0 {a1 a2 : Option AV} {st : List AV} {m : MM} {x : Nat × Option Nat} : go 56 0 [some (.inr (.inr x)), a1, a2] st m = go 56 1 [some (.inr (.inr x)), a1, a2] (.inr (.inr x) :: st) m := e_1 d56_0 (Or.inl rfl) rfl
theorem d56_1 : decode (mt 56).2.1 1 = .ok (.iconst 4, 1) := by decide +kernel
theorem s56_1 {ls : LV} {st : List AV} {m : MM} : go 56 1 ls st m = go 56 2 ls (.inl 4 :: st) m := e_1 d56_1 (Or.inl rfl) rfl
theorem d56_2 : decode (mt 56).2.1 2 = .ok (.iload_n 1, 1) := by decide +kernel
theorem s56_2 {a0 a2 : Option AV} {st : List AV} {m : MM} {x : Int32} : go 56 2 [a0, some (.inl x), a2] st m = go 56 3 [a0, some (.inl x), a2] (.inl x :: st) m := e_1 d56_2 (Or.inl rfl) rfl
theorem d56_3 : decode (mt 56).2.1 3 = .ok (.iload_n 2, 1) := by decide +kernel
theorem s56_3 {a0 a1 : Option AV} {st : List AV} {m : MM} {x : Int32} : go 56 3 [a0, a1, some (.inl x)] st m = go 56 4 [a0, a1, some (.inl x)] (.inl x :: st) m := e_1 d56_3 (Or.inl rfl) rfl
theorem d56_4 : decode (mt 56).2.1 4 = .ok (.iload_n 2, 1) := by decide +kernel
theorem s56_4 {a0 a1 : Option AV} {st : List AV} {m : MM} {x : Int32} : go 56 4 [a0, a1, some (.inl x)] st m = go 56 5 [a0, a1, some (.inl x)] (.inl x :: st) m := e_1 d56_4 (Or.inl rfl) rfl
theorem d56_5 : decode (mt 56).2.1 5 = .ok (.lconst 0, 1) := by decide +kernel
theorem s56_5 {ls : LV} {st : List AV} {m : MM} : go 56 5 ls st m = go 56 6 ls (.inr (.inl 0) :: st) m := e_1 d56_5 (Or.inl rfl) rfl
theorem d56_6 : decode (mt 56).2.1 6 = .ok (.invokevirtual 156, 3) := by decide +kernel
theorem s56_6 {ls : LV} {m : MM} {x0 : Int32} {x1 : Int32} {x2 : Int32} {x3 : Int32} {x4 : Int64} {n : Nat} : go 56 6 ls [.inr (.inl x4), .inl x3, .inl x2, .inl x1, .inl x0, .inr (.inr (7, some n))] m = bd (go 57 0 [some (.inr (.inr (7, some n))), some (.inl x0), some (.inl x1), some (.inl x2), some (.inl x3), some (.inr (.inl x4)), none, none, none] [] m) (fun v m2 => go 56 9 ls (v.toList ++ []) m2) := e_virt (y1 := 57) (na := 5) (as := [.inl x0, .inl x1, .inl x2, .inl x3, .inr (.inl x4)]) (rest := []) d56_6 (by decide +kernel) rfl (by decide +kernel) (show (ent [.inr (.inr (7, some n)), .inl x0, .inl x1, .inl x2, .inl x3, .inr (.inl x4)]).length ≤ (mt 57).2.2.2.1 from Nat.le_of_ble_eq_true rfl) (cats_le (Nat.le_of_ble_eq_true rfl)) (by decide +kernel)
theorem d56_9 : decode (mt 56).2.1 9 = .ok (.ireturn, 1) := by decide +kernel
theorem s56_9 {ls : LV} {m : MM} {x : Int32} : go 56 9 ls [.inl x] m = some (some (.inl x), m) := e_int d56_9 (by decide +kernel)
/-! X6_startAsk: 57 -/
theorem d57_0 : decode (mt 57).2.1 0 = .ok (.aload_n 0, 1) := by decide +kernel
theorem s57_0 {a1 a2 a3 a4 a5 a6 a7 a8 : Option AV} {st : List AV} {m : MM} {x : Nat × Option Nat} : go 57 0 [some (.inr (.inr x)), a1, a2, a3, a4, a5, a6, a7, a8] st m = go 57 1 [some (.inr (.inr x)), a1, a2, a3, a4, a5, a6, a7, a8] (.inr (.inr x) :: st) m := e_1 d57_0 (Or.inl rfl) rfl
theorem d57_1 : decode (mt 57).2.1 1 = .ok (.iload_n 2, 1) := by decide +kernel
theorem s57_1 {a0 a1 a3 a4 a5 a6 a7 a8 : Option AV} {st : List AV} {m : MM} {x : Int32} : go 57 1 [a0, a1, some (.inl x), a3, a4, a5, a6, a7, a8] st m = go 57 2 [a0, a1, some (.inl x), a3, a4, a5, a6, a7, a8] (.inl x :: st) m := e_1 d57_1 (Or.inl rfl) rfl
theorem d57_2 : decode (mt 57).2.1 2 = .ok (.invokevirtual 64, 3) := by decide +kernel
theorem s57_2 {ls : LV} {m : MM} {x0 : Int32} {n : Nat} : go 57 2 ls [.inl x0, .inr (.inr (7, some n))] m = bd (go 43 0 [some (.inr (.inr (7, some n))), some (.inl x0)] [] m) (fun v m2 => go 57 5 ls (v.toList ++ []) m2) := e_virt (y1 := 43) (na := 1) (as := [.inl x0]) (rest := []) d57_2 (by decide +kernel) rfl (by decide +kernel) (show (ent [.inr (.inr (7, some n)), .inl x0]).length ≤ (mt 43).2.2.2.1 from Nat.le_of_ble_eq_true rfl) (cats_le (Nat.le_of_ble_eq_true rfl)) (by decide +kernel)
theorem d57_5 : decode (mt 57).2.1 5 = .ok (.astore 7, 2) := by decide +kernel
theorem s57_5i {a0 a1 a2 a3 a4 a5 a7 a8 : Option AV} {z : Int32} {st : List AV} {m : MM} {x : Nat × Option Nat} : go 57 5 [a0, a1, a2, a3, a4, a5, some (.inl z), a7, a8] (.inr (.inr x) :: st) m = go 57 7 [a0, a1, a2, a3, a4, a5, some (.inl z), some (.inr (.inr x)), a8] st m := e_1 d57_5 (Or.inl rfl) rfl
theorem s57_5r {a0 a1 a2 a3 a4 a5 a7 a8 : Option AV} {z : Nat × Option Nat} {st : List AV} {m : MM} {x : Nat × Option Nat} : go 57 5 [a0, a1, a2, a3, a4, a5, some (.inr (.inr z)), a7, a8] (.inr (.inr x) :: st) m = go 57 7 [a0, a1, a2, a3, a4, a5, some (.inr (.inr z)), some (.inr (.inr x)), a8] st m := e_1 d57_5 (Or.inl rfl) rfl
theorem s57_5n {a0 a1 a2 a3 a4 a5 a7 a8 : Option AV} {st : List AV} {m : MM} {x : Nat × Option Nat} : go 57 5 [a0, a1, a2, a3, a4, a5, none, a7, a8] (.inr (.inr x) :: st) m = go 57 7 [a0, a1, a2, a3, a4, a5, none, some (.inr (.inr x)), a8] st m := e_1 d57_5 (Or.inl rfl) rfl
theorem d57_7 : decode (mt 57).2.1 7 = .ok (.aload 7, 2) := by decide +kernel
theorem s57_7 {a0 a1 a2 a3 a4 a5 a6 a8 : Option AV} {st : List AV} {m : MM} {x : Nat × Option Nat} : go 57 7 [a0, a1, a2, a3, a4, a5, a6, some (.inr (.inr x)), a8] st m = go 57 9 [a0, a1, a2, a3, a4, a5, a6, some (.inr (.inr x)), a8] (.inr (.inr x) :: st) m := e_1 d57_7 (Or.inl rfl) rfl
theorem d57_9 : decode (mt 57).2.1 9 = .ok (.ifnull 9, 3) := by decide +kernel
theorem s57_9n {u : Nat} {ls : LV} {st : List AV} {m : MM} : go 57 9 ls (.inr (.inr (u, none)) :: st) m = go 57 18 ls st m := e_1 d57_9 (Or.inl rfl) (by rw [xi, jm_some (t := 18) (by decide)]; rfl)
theorem s57_9s {u n : Nat} {ls : LV} {st : List AV} {m : MM} : go 57 9 ls (.inr (.inr (u, some n)) :: st) m = go 57 12 ls st m := e_1 d57_9 (Or.inl rfl) (by rw [xi, jm_some (t := 18) (by decide)]; rfl)
theorem d57_12 : decode (mt 57).2.1 12 = .ok (.iload 4, 2) := by decide +kernel
theorem s57_12 {a0 a1 a2 a3 a5 a6 a7 a8 : Option AV} {st : List AV} {m : MM} {x : Int32} : go 57 12 [a0, a1, a2, a3, some (.inl x), a5, a6, a7, a8] st m = go 57 14 [a0, a1, a2, a3, some (.inl x), a5, a6, a7, a8] (.inl x :: st) m := e_1 d57_12 (Or.inl rfl) rfl
theorem d57_14 : decode (mt 57).2.1 14 = .ok (.iload_n 3, 1) := by decide +kernel
theorem s57_14 {a0 a1 a2 a4 a5 a6 a7 a8 : Option AV} {st : List AV} {m : MM} {x : Int32} : go 57 14 [a0, a1, a2, some (.inl x), a4, a5, a6, a7, a8] st m = go 57 15 [a0, a1, a2, some (.inl x), a4, a5, a6, a7, a8] (.inl x :: st) m := e_1 d57_14 (Or.inl rfl) rfl
theorem d57_15 : decode (mt 57).2.1 15 = .ok (.if_icmp .ge 5, 3) := by decide +kernel
theorem s57_15 {ls : LV} {st : List AV} {m : MM} {a b : Int32} : go 57 15 ls (.inl b :: .inl a :: st) m = if b ≤ a then go 57 20 ls st m else go 57 18 ls st m := e_if (t := 20) (b := hc .ge a b) d57_15 (Or.inl rfl) (by simp only [xi, pI, jm_some (t := 20) (show ((15 : Nat) : Int) + 5 = ((20 : Nat) : Int) by decide), Option.bind_some]) (by simp [hc])
theorem d57_18 : decode (mt 57).2.1 18 = .ok (.iconst (-1), 1) := by decide +kernel
theorem s57_18 {ls : LV} {st : List AV} {m : MM} : go 57 18 ls st m = go 57 19 ls (.inl (-1) :: st) m := e_1 d57_18 (Or.inl rfl) rfl
theorem d57_19 : decode (mt 57).2.1 19 = .ok (.ireturn, 1) := by decide +kernel
theorem s57_19 {ls : LV} {m : MM} {x : Int32} : go 57 19 ls [.inl x] m = some (some (.inl x), m) := e_int d57_19 (by decide +kernel)
theorem d57_20 : decode (mt 57).2.1 20 = .ok (.aload 7, 2) := by decide +kernel
theorem s57_20 {a0 a1 a2 a3 a4 a5 a6 a8 : Option AV} {st : List AV} {m : MM} {x : Nat × Option Nat} : go 57 20 [a0, a1, a2, a3, a4, a5, a6, some (.inr (.inr x)), a8] st m = go 57 22 [a0, a1, a2, a3, a4, a5, a6, some (.inr (.inr x)), a8] (.inr (.inr x) :: st) m := e_1 d57_20 (Or.inl rfl) rfl
theorem d57_22 : decode (mt 57).2.1 22 = .ok (.getfield 61, 3) := by decide +kernel
theorem s57_22 {ls : LV} {st : List AV} {m : MM} {n : Nat} : go 57 22 ls (.inr (.inr (6, some n)) :: st) m = go 57 25 ls (.inl (mI m 6 n 3) :: st) m := e_1 d57_22 (Or.inl rfl) (by rw [xi, pA, show lk fdL (mt 57).2.2.1 61 = some (6, 3) by decide +kernel]; rfl)
theorem d57_25 : decode (mt 57).2.1 25 = .ok (.iconst 2, 1) := by decide +kernel
theorem s57_25 {ls : LV} {st : List AV} {m : MM} : go 57 25 ls st m = go 57 26 ls (.inl 2 :: st) m := e_1 d57_25 (Or.inl rfl) rfl
theorem d57_26 : decode (mt 57).2.1 26 = .ok (.if_icmp .eq 6, 3) := by decide +kernel
theorem s57_26 {ls : LV} {st : List AV} {m : MM} {a b : Int32} : go 57 26 ls (.inl b :: .inl a :: st) m = if a = b then go 57 32 ls st m else go 57 29 ls st m := e_if (t := 32) (b := hc .eq a b) d57_26 (Or.inl rfl) (by simp only [xi, pI, jm_some (t := 32) (show ((26 : Nat) : Int) + 6 = ((32 : Nat) : Int) by decide), Option.bind_some]) (by simp [hc])
theorem d57_29 : decode (mt 57).2.1 29 = .ok (.bipush (-2), 2) := by decide +kernel
theorem s57_29 {ls : LV} {st : List AV} {m : MM} : go 57 29 ls st m = go 57 31 ls (.inl (-2) :: st) m := e_1 d57_29 (Or.inl rfl) rfl
theorem d57_31 : decode (mt 57).2.1 31 = .ok (.ireturn, 1) := by decide +kernel
theorem s57_31 {ls : LV} {m : MM} {x : Int32} : go 57 31 ls [.inl x] m = some (some (.inl x), m) := e_int d57_31 (by decide +kernel)
theorem d57_32 : decode (mt 57).2.1 32 = .ok (.aload_n 0, 1) := by decide +kernel
theorem s57_32 {a1 a2 a3 a4 a5 a6 a7 a8 : Option AV} {st : List AV} {m : MM} {x : Nat × Option Nat} : go 57 32 [some (.inr (.inr x)), a1, a2, a3, a4, a5, a6, a7, a8] st m = go 57 33 [some (.inr (.inr x)), a1, a2, a3, a4, a5, a6, a7, a8] (.inr (.inr x) :: st) m := e_1 d57_32 (Or.inl rfl) rfl
theorem d57_33 : decode (mt 57).2.1 33 = .ok (.getfield 160, 3) := by decide +kernel
theorem s57_33 {ls : LV} {st : List AV} {m : MM} {n : Nat} : go 57 33 ls (.inr (.inr (7, some n)) :: st) m = go 57 36 ls (.inl (mI m 7 n 3) :: st) m := e_1 d57_33 (Or.inl rfl) (by rw [xi, pA, show lk fdL (mt 57).2.2.1 160 = some (7, 3) by decide +kernel]; rfl)
theorem d57_36 : decode (mt 57).2.1 36 = .ok (.sipush 160, 3) := by decide +kernel
theorem s57_36 {ls : LV} {st : List AV} {m : MM} : go 57 36 ls st m = go 57 39 ls (.inl 160 :: st) m := e_1 d57_36 (Or.inl rfl) rfl
theorem d57_39 : decode (mt 57).2.1 39 = .ok (.if_icmp .ge 16, 3) := by decide +kernel
theorem s57_39 {ls : LV} {st : List AV} {m : MM} {a b : Int32} : go 57 39 ls (.inl b :: .inl a :: st) m = if b ≤ a then go 57 55 ls st m else go 57 42 ls st m := e_if (t := 55) (b := hc .ge a b) d57_39 (Or.inl rfl) (by simp only [xi, pI, jm_some (t := 55) (show ((39 : Nat) : Int) + 16 = ((55 : Nat) : Int) by decide), Option.bind_some]) (by simp [hc])
theorem d57_42 : decode (mt 57).2.1 42 = .ok (.iload_n 1, 1) := by decide +kernel
theorem s57_42 {a0 a2 a3 a4 a5 a6 a7 a8 : Option AV} {st : List AV} {m : MM} {x : Int32} : go 57 42 [a0, some (.inl x), a2, a3, a4, a5, a6, a7, a8] st m = go 57 43 [a0, some (.inl x), a2, a3, a4, a5, a6, a7, a8] (.inl x :: st) m := e_1 d57_42 (Or.inl rfl) rfl
theorem d57_43 : decode (mt 57).2.1 43 = .ok (.iconst 3, 1) := by decide +kernel
theorem s57_43 {ls : LV} {st : List AV} {m : MM} : go 57 43 ls st m = go 57 44 ls (.inl 3 :: st) m := e_1 d57_43 (Or.inl rfl) rfl
theorem d57_44 : decode (mt 57).2.1 44 = .ok (.if_icmp .ne 14, 3) := by decide +kernel
theorem s57_44 {ls : LV} {st : List AV} {m : MM} {a b : Int32} : go 57 44 ls (.inl b :: .inl a :: st) m = if ¬ a = b then go 57 58 ls st m else go 57 47 ls st m := e_if (t := 58) (b := hc .ne a b) d57_44 (Or.inl rfl) (by simp only [xi, pI, jm_some (t := 58) (show ((44 : Nat) : Int) + 14 = ((58 : Nat) : Int) by decide), Option.bind_some]) (by simp [hc])
theorem d57_47 : decode (mt 57).2.1 47 = .ok (.aload_n 0, 1) := by decide +kernel
theorem s57_47 {a1 a2 a3 a4 a5 a6 a7 a8 : Option AV} {st : List AV} {m : MM} {x : Nat × Option Nat} : go 57 47 [some (.inr (.inr x)), a1, a2, a3, a4, a5, a6, a7, a8] st m = go 57 48 [some (.inr (.inr x)), a1, a2, a3, a4, a5, a6, a7, a8] (.inr (.inr x) :: st) m := e_1 d57_47 (Or.inl rfl) rfl
theorem d57_48 : decode (mt 57).2.1 48 = .ok (.iload_n 3, 1) := by decide +kernel
theorem s57_48 {a0 a1 a2 a4 a5 a6 a7 a8 : Option AV} {st : List AV} {m : MM} {x : Int32} : go 57 48 [a0, a1, a2, some (.inl x), a4, a5, a6, a7, a8] st m = go 57 49 [a0, a1, a2, some (.inl x), a4, a5, a6, a7, a8] (.inl x :: st) m := e_1 d57_48 (Or.inl rfl) rfl
theorem d57_49 : decode (mt 57).2.1 49 = .ok (.invokevirtual 163, 3) := by decide +kernel
theorem s57_49 {ls : LV} {m : MM} {x0 : Int32} {n : Nat} : go 57 49 ls [.inl x0, .inr (.inr (7, some n))] m = bd (go 58 0 [some (.inr (.inr (7, some n))), some (.inl x0), none] [] m) (fun v m2 => go 57 52 ls (v.toList ++ []) m2) := e_virt (y1 := 58) (na := 1) (as := [.inl x0]) (rest := []) d57_49 (by decide +kernel) rfl (by decide +kernel) (show (ent [.inr (.inr (7, some n)), .inl x0]).length ≤ (mt 58).2.2.2.1 from Nat.le_of_ble_eq_true rfl) (cats_le (Nat.le_of_ble_eq_true rfl)) (by decide +kernel)
theorem d57_52 : decode (mt 57).2.1 52 = .ok (.ifCond .ne 6, 3) := by decide +kernel
theorem s57_52 {ls : LV} {st : List AV} {m : MM} {a : Int32} : go 57 52 ls (.inl a :: st) m = if ¬ a = 0 then go 57 58 ls st m else go 57 55 ls st m := e_if (t := 58) (b := hc .ne a 0) d57_52 (Or.inl rfl) (by simp only [xi, pI, jm_some (t := 58) (show ((52 : Nat) : Int) + 6 = ((58 : Nat) : Int) by decide), Option.bind_some]) (by simp [hc])
theorem d57_55 : decode (mt 57).2.1 55 = .ok (.bipush (-3), 2) := by decide +kernel
theorem s57_55 {ls : LV} {st : List AV} {m : MM} : go 57 55 ls st m = go 57 57 ls (.inl (-3) :: st) m := e_1 d57_55 (Or.inl rfl) rfl
theorem d57_57 : decode (mt 57).2.1 57 = .ok (.ireturn, 1) := by decide +kernel
theorem s57_57 {ls : LV} {m : MM} {x : Int32} : go 57 57 ls [.inl x] m = some (some (.inl x), m) := e_int d57_57 (by decide +kernel)
theorem d57_58 : decode (mt 57).2.1 58 = .ok (.new 15, 3) := by decide +kernel
theorem s57_58 {ls : LV} {st : List AV} {m : MM} : go 57 58 ls st m = go 57 61 ls (.inr (.inr (1, some (mC m 1))) :: st) (al m 1 0 13) := e_1 d57_58 (Or.inl rfl) (by rw [xi, show lk nwL (mt 57).2.2.1 15 = some 1 by decide +kernel]; rfl)
theorem d57_61 : decode (mt 57).2.1 61 = .ok (.dup, 1) := by decide +kernel
theorem s57_61 {ls : LV} {st : List AV} {m : MM} {x : Nat × Option Nat} : go 57 61 ls (.inr (.inr x) :: st) m = go 57 62 ls (.inr (.inr x) :: .inr (.inr x) :: st) m := e_1 d57_61 (Or.inl rfl) rfl
theorem d57_62 : decode (mt 57).2.1 62 = .ok (.aload_n 0, 1) := by decide +kernel
theorem s57_62 {a1 a2 a3 a4 a5 a6 a7 a8 : Option AV} {st : List AV} {m : MM} {x : Nat × Option Nat} : go 57 62 [some (.inr (.inr x)), a1, a2, a3, a4, a5, a6, a7, a8] st m = go 57 63 [some (.inr (.inr x)), a1, a2, a3, a4, a5, a6, a7, a8] (.inr (.inr x) :: st) m := e_1 d57_62 (Or.inl rfl) rfl
theorem d57_63 : decode (mt 57).2.1 63 = .ok (.getfield 160, 3) := by decide +kernel
theorem s57_63 {ls : LV} {st : List AV} {m : MM} {n : Nat} : go 57 63 ls (.inr (.inr (7, some n)) :: st) m = go 57 66 ls (.inl (mI m 7 n 3) :: st) m := e_1 d57_63 (Or.inl rfl) (by rw [xi, pA, show lk fdL (mt 57).2.2.1 160 = some (7, 3) by decide +kernel]; rfl)
theorem d57_66 : decode (mt 57).2.1 66 = .ok (.iload_n 1, 1) := by decide +kernel
theorem s57_66 {a0 a2 a3 a4 a5 a6 a7 a8 : Option AV} {st : List AV} {m : MM} {x : Int32} : go 57 66 [a0, some (.inl x), a2, a3, a4, a5, a6, a7, a8] st m = go 57 67 [a0, some (.inl x), a2, a3, a4, a5, a6, a7, a8] (.inl x :: st) m := e_1 d57_66 (Or.inl rfl) rfl
theorem d57_67 : decode (mt 57).2.1 67 = .ok (.iload_n 3, 1) := by decide +kernel
theorem s57_67 {a0 a1 a2 a4 a5 a6 a7 a8 : Option AV} {st : List AV} {m : MM} {x : Int32} : go 57 67 [a0, a1, a2, some (.inl x), a4, a5, a6, a7, a8] st m = go 57 68 [a0, a1, a2, some (.inl x), a4, a5, a6, a7, a8] (.inl x :: st) m := e_1 d57_67 (Or.inl rfl) rfl
theorem d57_68 : decode (mt 57).2.1 68 = .ok (.iload 4, 2) := by decide +kernel
theorem s57_68 {a0 a1 a2 a3 a5 a6 a7 a8 : Option AV} {st : List AV} {m : MM} {x : Int32} : go 57 68 [a0, a1, a2, a3, some (.inl x), a5, a6, a7, a8] st m = go 57 70 [a0, a1, a2, a3, some (.inl x), a5, a6, a7, a8] (.inl x :: st) m := e_1 d57_68 (Or.inl rfl) rfl
theorem d57_70 : decode (mt 57).2.1 70 = .ok (.lload 5, 2) := by decide +kernel
theorem s57_70 {a0 a1 a2 a3 a4 a6 a7 a8 : Option AV} {st : List AV} {m : MM} {x : Int64} : go 57 70 [a0, a1, a2, a3, a4, some (.inr (.inl x)), a6, a7, a8] st m = go 57 72 [a0, a1, a2, a3, a4, some (.inr (.inl x)), a6, a7, a8] (.inr (.inl x) :: st) m := e_1 d57_70 (Or.inl rfl) rfl
theorem d57_72 : decode (mt 57).2.1 72 = .ok (.invokespecial 166, 3) := by decide +kernel
theorem s57_72 {ls : LV} {m : MM} {x0 : Int32} {x1 : Int32} {x2 : Int32} {x3 : Int32} {x4 : Int64} {w0 : AV} {n : Nat} : go 57 72 ls [.inr (.inl x4), .inl x3, .inl x2, .inl x1, .inl x0, .inr (.inr (1, some n)), w0] m = bd (go 0 0 [some (.inr (.inr (1, some n))), some (.inl x0), some (.inl x1), some (.inl x2), some (.inl x3), some (.inr (.inl x4)), none] [] m) (fun v m2 => go 57 75 ls (v.toList ++ [w0]) m2) := e_spec (y1 := 0) (na := 5) (as := [.inl x0, .inl x1, .inl x2, .inl x3, .inr (.inl x4)]) (rest := [w0]) d57_72 (by decide +kernel) rfl (by decide +kernel) (show (ent [.inr (.inr (1, some n)), .inl x0, .inl x1, .inl x2, .inl x3, .inr (.inl x4)]).length ≤ (mt 0).2.2.2.1 from Nat.le_of_ble_eq_true rfl) (cats_le (Nat.le_of_ble_eq_true rfl)) (by decide +kernel)
theorem d57_75 : decode (mt 57).2.1 75 = .ok (.astore 8, 2) := by decide +kernel
theorem s57_75i {a0 a1 a2 a3 a4 a5 a6 a8 : Option AV} {z : Int32} {st : List AV} {m : MM} {x : Nat × Option Nat} : go 57 75 [a0, a1, a2, a3, a4, a5, a6, some (.inl z), a8] (.inr (.inr x) :: st) m = go 57 77 [a0, a1, a2, a3, a4, a5, a6, some (.inl z), some (.inr (.inr x))] st m := e_1 d57_75 (Or.inl rfl) rfl
theorem s57_75r {a0 a1 a2 a3 a4 a5 a6 a8 : Option AV} {z : Nat × Option Nat} {st : List AV} {m : MM} {x : Nat × Option Nat} : go 57 75 [a0, a1, a2, a3, a4, a5, a6, some (.inr (.inr z)), a8] (.inr (.inr x) :: st) m = go 57 77 [a0, a1, a2, a3, a4, a5, a6, some (.inr (.inr z)), some (.inr (.inr x))] st m := e_1 d57_75 (Or.inl rfl) rfl
theorem s57_75n {a0 a1 a2 a3 a4 a5 a6 a8 : Option AV} {st : List AV} {m : MM} {x : Nat × Option Nat} : go 57 75 [a0, a1, a2, a3, a4, a5, a6, none, a8] (.inr (.inr x) :: st) m = go 57 77 [a0, a1, a2, a3, a4, a5, a6, none, some (.inr (.inr x))] st m := e_1 d57_75 (Or.inl rfl) rfl
theorem d57_77 : decode (mt 57).2.1 77 = .ok (.aload_n 0, 1) := by decide +kernel
theorem s57_77 {a1 a2 a3 a4 a5 a6 a7 a8 : Option AV} {st : List AV} {m : MM} {x : Nat × Option Nat} : go 57 77 [some (.inr (.inr x)), a1, a2, a3, a4, a5, a6, a7, a8] st m = go 57 78 [some (.inr (.inr x)), a1, a2, a3, a4, a5, a6, a7, a8] (.inr (.inr x) :: st) m := e_1 d57_77 (Or.inl rfl) rfl
theorem d57_78 : decode (mt 57).2.1 78 = .ok (.getfield 17, 3) := by decide +kernel
theorem s57_78 {ls : LV} {st : List AV} {m : MM} {n : Nat} : go 57 78 ls (.inr (.inr (7, some n)) :: st) m = go 57 81 ls (.inr (.inr (17, mR m 7 n 2)) :: st) m := e_1 d57_78 (Or.inl rfl) (by rw [xi, pA, show lk fdL (mt 57).2.2.1 17 = some (7, 2) by decide +kernel]; rfl)
theorem d57_81 : decode (mt 57).2.1 81 = .ok (.aload_n 0, 1) := by decide +kernel
theorem s57_81 {a1 a2 a3 a4 a5 a6 a7 a8 : Option AV} {st : List AV} {m : MM} {x : Nat × Option Nat} : go 57 81 [some (.inr (.inr x)), a1, a2, a3, a4, a5, a6, a7, a8] st m = go 57 82 [some (.inr (.inr x)), a1, a2, a3, a4, a5, a6, a7, a8] (.inr (.inr x) :: st) m := e_1 d57_81 (Or.inl rfl) rfl
theorem d57_82 : decode (mt 57).2.1 82 = .ok (.getfield 160, 3) := by decide +kernel
theorem s57_82 {ls : LV} {st : List AV} {m : MM} {n : Nat} : go 57 82 ls (.inr (.inr (7, some n)) :: st) m = go 57 85 ls (.inl (mI m 7 n 3) :: st) m := e_1 d57_82 (Or.inl rfl) (by rw [xi, pA, show lk fdL (mt 57).2.2.1 160 = some (7, 3) by decide +kernel]; rfl)
theorem d57_85 : decode (mt 57).2.1 85 = .ok (.aload 8, 2) := by decide +kernel
theorem s57_85 {a0 a1 a2 a3 a4 a5 a6 a7 : Option AV} {st : List AV} {m : MM} {x : Nat × Option Nat} : go 57 85 [a0, a1, a2, a3, a4, a5, a6, a7, some (.inr (.inr x))] st m = go 57 87 [a0, a1, a2, a3, a4, a5, a6, a7, some (.inr (.inr x))] (.inr (.inr x) :: st) m := e_1 d57_85 (Or.inl rfl) rfl
theorem d57_87 : decode (mt 57).2.1 87 = .ok (.aastore, 1) := by decide +kernel
theorem s57_87r {ls : LV} {st : List AV} {m : MM} {n : Nat} {i : Int32} {p : Option Nat} : go 57 87 ls (.inr (.inr (1, p)) :: .inl i :: .inr (.inr (17, some n)) :: st) m = ixk (ix i (mN m 17 n)) (fun j => go 57 88 ls st (sR m 17 n j p)) := e_ald d57_87 (fun j hj => by simp only [xi, pI, pL, pR, pA, hj, Option.bind_some]; exact if_pos (Or.inl rfl)) (fun hj => by simp only [xi, pI, pL, pR, pA, hj, Option.bind_none])
theorem s57_87n {ls : LV} {st : List AV} {m : MM} {n : Nat} {i : Int32} {w : Nat} : go 57 87 ls (.inr (.inr (w, none)) :: .inl i :: .inr (.inr (17, some n)) :: st) m = ixk (ix i (mN m 17 n)) (fun j => go 57 88 ls st (sR m 17 n j none)) := e_ald d57_87 (fun j hj => by simp only [xi, pI, pL, pR, pA, hj, Option.bind_some]; exact if_pos (Or.inr ⟨trivial, by decide⟩)) (fun hj => by simp only [xi, pI, pL, pR, pA, hj, Option.bind_none])
theorem d57_88 : decode (mt 57).2.1 88 = .ok (.aload_n 0, 1) := by decide +kernel
theorem s57_88 {a1 a2 a3 a4 a5 a6 a7 a8 : Option AV} {st : List AV} {m : MM} {x : Nat × Option Nat} : go 57 88 [some (.inr (.inr x)), a1, a2, a3, a4, a5, a6, a7, a8] st m = go 57 89 [some (.inr (.inr x)), a1, a2, a3, a4, a5, a6, a7, a8] (.inr (.inr x) :: st) m := e_1 d57_88 (Or.inl rfl) rfl
theorem d57_89 : decode (mt 57).2.1 89 = .ok (.dup, 1) := by decide +kernel
theorem s57_89 {ls : LV} {st : List AV} {m : MM} {x : Nat × Option Nat} : go 57 89 ls (.inr (.inr x) :: st) m = go 57 90 ls (.inr (.inr x) :: .inr (.inr x) :: st) m := e_1 d57_89 (Or.inl rfl) rfl
theorem d57_90 : decode (mt 57).2.1 90 = .ok (.getfield 160, 3) := by decide +kernel
theorem s57_90 {ls : LV} {st : List AV} {m : MM} {n : Nat} : go 57 90 ls (.inr (.inr (7, some n)) :: st) m = go 57 93 ls (.inl (mI m 7 n 3) :: st) m := e_1 d57_90 (Or.inl rfl) (by rw [xi, pA, show lk fdL (mt 57).2.2.1 160 = some (7, 3) by decide +kernel]; rfl)
theorem d57_93 : decode (mt 57).2.1 93 = .ok (.iconst 1, 1) := by decide +kernel
theorem s57_93 {ls : LV} {st : List AV} {m : MM} : go 57 93 ls st m = go 57 94 ls (.inl 1 :: st) m := e_1 d57_93 (Or.inl rfl) rfl
theorem d57_94 : decode (mt 57).2.1 94 = .ok (.iadd, 1) := by decide +kernel
theorem s57_94 {ls : LV} {st : List AV} {m : MM} {a b : Int32} : go 57 94 ls (.inl b :: .inl a :: st) m = go 57 95 ls (.inl (a + b) :: st) m := e_1 d57_94 (Or.inl rfl) rfl
theorem d57_95 : decode (mt 57).2.1 95 = .ok (.putfield 160, 3) := by decide +kernel
theorem s57_95 {ls : LV} {st : List AV} {m : MM} {n : Nat} {x : Int32} : go 57 95 ls (.inl x :: .inr (.inr (7, some n)) :: st) m = go 57 98 ls st (sI m 7 n 3 x) := e_put (r := 7) (f := 3) d57_95 (by decide +kernel) rfl (by decide +kernel)
theorem d57_98 : decode (mt 57).2.1 98 = .ok (.aload_n 0, 1) := by decide +kernel
theorem s57_98 {a1 a2 a3 a4 a5 a6 a7 a8 : Option AV} {st : List AV} {m : MM} {x : Nat × Option Nat} : go 57 98 [some (.inr (.inr x)), a1, a2, a3, a4, a5, a6, a7, a8] st m = go 57 99 [some (.inr (.inr x)), a1, a2, a3, a4, a5, a6, a7, a8] (.inr (.inr x) :: st) m := e_1 d57_98 (Or.inl rfl) rfl
theorem d57_99 : decode (mt 57).2.1 99 = .ok (.getfield 28, 3) := by decide +kernel
theorem s57_99 {ls : LV} {st : List AV} {m : MM} {n : Nat} : go 57 99 ls (.inr (.inr (7, some n)) :: st) m = go 57 102 ls (.inr (.inr (3, mR m 7 n 6)) :: st) m := e_1 d57_99 (Or.inl rfl) (by rw [xi, pA, show lk fdL (mt 57).2.2.1 28 = some (7, 6) by decide +kernel]; rfl)
theorem d57_102 : decode (mt 57).2.1 102 = .ok (.aload 8, 2) := by decide +kernel
theorem s57_102 {a0 a1 a2 a3 a4 a5 a6 a7 : Option AV} {st : List AV} {m : MM} {x : Nat × Option Nat} : go 57 102 [a0, a1, a2, a3, a4, a5, a6, a7, some (.inr (.inr x))] st m = go 57 104 [a0, a1, a2, a3, a4, a5, a6, a7, some (.inr (.inr x))] (.inr (.inr x) :: st) m := e_1 d57_102 (Or.inl rfl) rfl
theorem d57_104 : decode (mt 57).2.1 104 = .ok (.aload 7, 2) := by decide +kernel
theorem s57_104 {a0 a1 a2 a3 a4 a5 a6 a8 : Option AV} {st : List AV} {m : MM} {x : Nat × Option Nat} : go 57 104 [a0, a1, a2, a3, a4, a5, a6, some (.inr (.inr x)), a8] st m = go 57 106 [a0, a1, a2, a3, a4, a5, a6, some (.inr (.inr x)), a8] (.inr (.inr x) :: st) m := e_1 d57_104 (Or.inl rfl) rfl
theorem d57_106 : decode (mt 57).2.1 106 = .ok (.invokevirtual 169, 3) := by decide +kernel
theorem s57_106 {ls : LV} {m : MM} {x0 : Nat × Option Nat} {x1 : Nat × Option Nat} {n : Nat} : go 57 106 ls [.inr (.inr x1), .inr (.inr x0), .inr (.inr (3, some n))] m = bd (go 10 0 [some (.inr (.inr (3, some n))), some (.inr (.inr x0)), some (.inr (.inr x1))] [] m) (fun v m2 => go 57 109 ls (v.toList ++ []) m2) := e_virt (y1 := 10) (na := 2) (as := [.inr (.inr x0), .inr (.inr x1)]) (rest := []) d57_106 (by decide +kernel) rfl (by decide +kernel) (show (ent [.inr (.inr (3, some n)), .inr (.inr x0), .inr (.inr x1)]).length ≤ (mt 10).2.2.2.1 from Nat.le_of_ble_eq_true rfl) (cats_le (Nat.le_of_ble_eq_true rfl)) (by decide +kernel)
theorem d57_109 : decode (mt 57).2.1 109 = .ok (.aload 8, 2) := by decide +kernel
theorem s57_109 {a0 a1 a2 a3 a4 a5 a6 a7 : Option AV} {st : List AV} {m : MM} {x : Nat × Option Nat} : go 57 109 [a0, a1, a2, a3, a4, a5, a6, a7, some (.inr (.inr x))] st m = go 57 111 [a0, a1, a2, a3, a4, a5, a6, a7, some (.inr (.inr x))] (.inr (.inr x) :: st) m := e_1 d57_109 (Or.inl rfl) rfl
theorem d57_111 : decode (mt 57).2.1 111 = .ok (.getfield 173, 3) := by decide +kernel
theorem s57_111 {ls : LV} {st : List AV} {m : MM} {n : Nat} : go 57 111 ls (.inr (.inr (1, some n)) :: st) m = go 57 114 ls (.inl (mI m 1 n 0) :: st) m := e_1 d57_111 (Or.inl rfl) (by rw [xi, pA, show lk fdL (mt 57).2.2.1 173 = some (1, 0) by decide +kernel]; rfl)
theorem d57_114 : decode (mt 57).2.1 114 = .ok (.ireturn, 1) := by decide +kernel
theorem s57_114 {ls : LV} {m : MM} {x : Int32} : go 57 114 ls [.inl x] m = some (some (.inl x), m) := e_int d57_114 (by decide +kernel)
/-! X6_takeKey: 58 -/
theorem d58_0 : decode (mt 58).2.1 0 = .ok (.iconst 0, 1) := by decide +kernel
theorem s58_0 {ls : LV} {st : List AV} {m : MM} : go 58 0 ls st m = go 58 1 ls (.inl 0 :: st) m := e_1 d58_0 (Or.inl rfl) rfl
theorem d58_1 : decode (mt 58).2.1 1 = .ok (.istore_n 2, 1) := by decide +kernel
theorem s58_1i {a0 a2 : Option AV} {z : Int32} {st : List AV} {m : MM} {x : Int32} : go 58 1 [a0, some (.inl z), a2] (.inl x :: st) m = go 58 2 [a0, some (.inl z), some (.inl x)] st m := e_1 d58_1 (Or.inl rfl) rfl
theorem s58_1r {a0 a2 : Option AV} {z : Nat × Option Nat} {st : List AV} {m : MM} {x : Int32} : go 58 1 [a0, some (.inr (.inr z)), a2] (.inl x :: st) m = go 58 2 [a0, some (.inr (.inr z)), some (.inl x)] st m := e_1 d58_1 (Or.inl rfl) rfl
theorem s58_1n {a0 a2 : Option AV} {st : List AV} {m : MM} {x : Int32} : go 58 1 [a0, none, a2] (.inl x :: st) m = go 58 2 [a0, none, some (.inl x)] st m := e_1 d58_1 (Or.inl rfl) rfl
theorem d58_2 : decode (mt 58).2.1 2 = .ok (.iload_n 2, 1) := by decide +kernel
theorem s58_2 {a0 a1 : Option AV} {st : List AV} {m : MM} {x : Int32} : go 58 2 [a0, a1, some (.inl x)] st m = go 58 3 [a0, a1, some (.inl x)] (.inl x :: st) m := e_1 d58_2 (Or.inl rfl) rfl
theorem d58_3 : decode (mt 58).2.1 3 = .ok (.aload_n 0, 1) := by decide +kernel
theorem s58_3 {a1 a2 : Option AV} {st : List AV} {m : MM} {x : Nat × Option Nat} : go 58 3 [some (.inr (.inr x)), a1, a2] st m = go 58 4 [some (.inr (.inr x)), a1, a2] (.inr (.inr x) :: st) m := e_1 d58_3 (Or.inl rfl) rfl
theorem d58_4 : decode (mt 58).2.1 4 = .ok (.getfield 176, 3) := by decide +kernel
theorem s58_4 {ls : LV} {st : List AV} {m : MM} {n : Nat} : go 58 4 ls (.inr (.inr (7, some n)) :: st) m = go 58 7 ls (.inl (mI m 7 n 5) :: st) m := e_1 d58_4 (Or.inl rfl) (by rw [xi, pA, show lk fdL (mt 58).2.2.1 176 = some (7, 5) by decide +kernel]; rfl)
theorem d58_7 : decode (mt 58).2.1 7 = .ok (.if_icmp .ge 21, 3) := by decide +kernel
theorem s58_7 {ls : LV} {st : List AV} {m : MM} {a b : Int32} : go 58 7 ls (.inl b :: .inl a :: st) m = if b ≤ a then go 58 28 ls st m else go 58 10 ls st m := e_if (t := 28) (b := hc .ge a b) d58_7 (Or.inl rfl) (by simp only [xi, pI, jm_some (t := 28) (show ((7 : Nat) : Int) + 21 = ((28 : Nat) : Int) by decide), Option.bind_some]) (by simp [hc])
theorem d58_10 : decode (mt 58).2.1 10 = .ok (.aload_n 0, 1) := by decide +kernel
theorem s58_10 {a1 a2 : Option AV} {st : List AV} {m : MM} {x : Nat × Option Nat} : go 58 10 [some (.inr (.inr x)), a1, a2] st m = go 58 11 [some (.inr (.inr x)), a1, a2] (.inr (.inr x) :: st) m := e_1 d58_10 (Or.inl rfl) rfl
theorem d58_11 : decode (mt 58).2.1 11 = .ok (.getfield 21, 3) := by decide +kernel
theorem s58_11 {ls : LV} {st : List AV} {m : MM} {n : Nat} : go 58 11 ls (.inr (.inr (7, some n)) :: st) m = go 58 14 ls (.inr (.inr (18, mR m 7 n 4)) :: st) m := e_1 d58_11 (Or.inl rfl) (by rw [xi, pA, show lk fdL (mt 58).2.2.1 21 = some (7, 4) by decide +kernel]; rfl)
theorem d58_14 : decode (mt 58).2.1 14 = .ok (.iload_n 2, 1) := by decide +kernel
theorem s58_14 {a0 a1 : Option AV} {st : List AV} {m : MM} {x : Int32} : go 58 14 [a0, a1, some (.inl x)] st m = go 58 15 [a0, a1, some (.inl x)] (.inl x :: st) m := e_1 d58_14 (Or.inl rfl) rfl
theorem d58_15 : decode (mt 58).2.1 15 = .ok (.iaload, 1) := by decide +kernel
theorem s58_15 {ls : LV} {st : List AV} {m : MM} {n : Nat} {i : Int32} : go 58 15 ls (.inl i :: .inr (.inr (18, some n)) :: st) m = ixk (ix i (mN m 18 n)) (fun j => go 58 16 ls (.inl (mI m 18 n j) :: st) m) := e_ald d58_15 (fun j hj => by simp only [xi, pI, pA, hj, Option.bind_some]; rfl) (fun hj => by simp only [xi, pI, pA, hj, Option.bind_none])
theorem d58_16 : decode (mt 58).2.1 16 = .ok (.iload_n 1, 1) := by decide +kernel
theorem s58_16 {a0 a2 : Option AV} {st : List AV} {m : MM} {x : Int32} : go 58 16 [a0, some (.inl x), a2] st m = go 58 17 [a0, some (.inl x), a2] (.inl x :: st) m := e_1 d58_16 (Or.inl rfl) rfl
theorem d58_17 : decode (mt 58).2.1 17 = .ok (.if_icmp .ne 5, 3) := by decide +kernel
theorem s58_17 {ls : LV} {st : List AV} {m : MM} {a b : Int32} : go 58 17 ls (.inl b :: .inl a :: st) m = if ¬ a = b then go 58 22 ls st m else go 58 20 ls st m := e_if (t := 22) (b := hc .ne a b) d58_17 (Or.inl rfl) (by simp only [xi, pI, jm_some (t := 22) (show ((17 : Nat) : Int) + 5 = ((22 : Nat) : Int) by decide), Option.bind_some]) (by simp [hc])
theorem d58_20 : decode (mt 58).2.1 20 = .ok (.iconst 1, 1) := by decide +kernel
theorem s58_20 {ls : LV} {st : List AV} {m : MM} : go 58 20 ls st m = go 58 21 ls (.inl 1 :: st) m := e_1 d58_20 (Or.inl rfl) rfl
theorem d58_21 : decode (mt 58).2.1 21 = .ok (.ireturn, 1) := by decide +kernel
theorem s58_21b0 {ls : LV} {m : MM} : go 58 21 ls [.inl 0] m = some (some (.inl 0), m) := e_bool d58_21 (by decide +kernel) (by decide)
theorem s58_21b1 {ls : LV} {m : MM} : go 58 21 ls [.inl 1] m = some (some (.inl 1), m) := e_bool d58_21 (by decide +kernel) (by decide)
theorem d58_22 : decode (mt 58).2.1 22 = .ok (.iinc 2 1, 3) := by decide +kernel
theorem s58_22i {a0 : Option AV} {z : Int32} {st : List AV} {m : MM} {x : Int32} : go 58 22 [a0, some (.inl z), some (.inl x)] st m = go 58 25 [a0, some (.inl z), some (.inl (x + 1))] st m := e_1 d58_22 (Or.inl rfl) rfl
theorem s58_22r {a0 : Option AV} {z : Nat × Option Nat} {st : List AV} {m : MM} {x : Int32} : go 58 22 [a0, some (.inr (.inr z)), some (.inl x)] st m = go 58 25 [a0, some (.inr (.inr z)), some (.inl (x + 1))] st m := e_1 d58_22 (Or.inl rfl) rfl
theorem s58_22n {a0 : Option AV} {st : List AV} {m : MM} {x : Int32} : go 58 22 [a0, none, some (.inl x)] st m = go 58 25 [a0, none, some (.inl (x + 1))] st m := e_1 d58_22 (Or.inl rfl) rfl
theorem d58_25 : decode (mt 58).2.1 25 = .ok (.goto (-23), 3) := by decide +kernel
theorem s58_25 {ls : LV} {st : List AV} {m : MM} : go 58 25 ls st m = go 58 2 ls st m := e_1 d58_25 (Or.inl rfl) (by rw [xi, jm_some (t := 2) (by decide)]; rfl)
theorem d58_28 : decode (mt 58).2.1 28 = .ok (.aload_n 0, 1) := by decide +kernel
theorem s58_28 {a1 a2 : Option AV} {st : List AV} {m : MM} {x : Nat × Option Nat} : go 58 28 [some (.inr (.inr x)), a1, a2] st m = go 58 29 [some (.inr (.inr x)), a1, a2] (.inr (.inr x) :: st) m := e_1 d58_28 (Or.inl rfl) rfl
theorem d58_29 : decode (mt 58).2.1 29 = .ok (.getfield 176, 3) := by decide +kernel
theorem s58_29 {ls : LV} {st : List AV} {m : MM} {n : Nat} : go 58 29 ls (.inr (.inr (7, some n)) :: st) m = go 58 32 ls (.inl (mI m 7 n 5) :: st) m := e_1 d58_29 (Or.inl rfl) (by rw [xi, pA, show lk fdL (mt 58).2.2.1 176 = some (7, 5) by decide +kernel]; rfl)
theorem d58_32 : decode (mt 58).2.1 32 = .ok (.bipush 16, 2) := by decide +kernel
theorem s58_32 {ls : LV} {st : List AV} {m : MM} : go 58 32 ls st m = go 58 34 ls (.inl 16 :: st) m := e_1 d58_32 (Or.inl rfl) rfl
theorem d58_34 : decode (mt 58).2.1 34 = .ok (.if_icmp .lt 5, 3) := by decide +kernel
theorem s58_34 {ls : LV} {st : List AV} {m : MM} {a b : Int32} : go 58 34 ls (.inl b :: .inl a :: st) m = if a < b then go 58 39 ls st m else go 58 37 ls st m := e_if (t := 39) (b := hc .lt a b) d58_34 (Or.inl rfl) (by simp only [xi, pI, jm_some (t := 39) (show ((34 : Nat) : Int) + 5 = ((39 : Nat) : Int) by decide), Option.bind_some]) (by simp [hc])
theorem d58_37 : decode (mt 58).2.1 37 = .ok (.iconst 0, 1) := by decide +kernel
theorem s58_37 {ls : LV} {st : List AV} {m : MM} : go 58 37 ls st m = go 58 38 ls (.inl 0 :: st) m := e_1 d58_37 (Or.inl rfl) rfl
theorem d58_38 : decode (mt 58).2.1 38 = .ok (.ireturn, 1) := by decide +kernel
theorem s58_38b0 {ls : LV} {m : MM} : go 58 38 ls [.inl 0] m = some (some (.inl 0), m) := e_bool d58_38 (by decide +kernel) (by decide)
theorem s58_38b1 {ls : LV} {m : MM} : go 58 38 ls [.inl 1] m = some (some (.inl 1), m) := e_bool d58_38 (by decide +kernel) (by decide)
theorem d58_39 : decode (mt 58).2.1 39 = .ok (.aload_n 0, 1) := by decide +kernel
theorem s58_39 {a1 a2 : Option AV} {st : List AV} {m : MM} {x : Nat × Option Nat} : go 58 39 [some (.inr (.inr x)), a1, a2] st m = go 58 40 [some (.inr (.inr x)), a1, a2] (.inr (.inr x) :: st) m := e_1 d58_39 (Or.inl rfl) rfl
theorem d58_40 : decode (mt 58).2.1 40 = .ok (.getfield 21, 3) := by decide +kernel
theorem s58_40 {ls : LV} {st : List AV} {m : MM} {n : Nat} : go 58 40 ls (.inr (.inr (7, some n)) :: st) m = go 58 43 ls (.inr (.inr (18, mR m 7 n 4)) :: st) m := e_1 d58_40 (Or.inl rfl) (by rw [xi, pA, show lk fdL (mt 58).2.2.1 21 = some (7, 4) by decide +kernel]; rfl)
theorem d58_43 : decode (mt 58).2.1 43 = .ok (.aload_n 0, 1) := by decide +kernel
theorem s58_43 {a1 a2 : Option AV} {st : List AV} {m : MM} {x : Nat × Option Nat} : go 58 43 [some (.inr (.inr x)), a1, a2] st m = go 58 44 [some (.inr (.inr x)), a1, a2] (.inr (.inr x) :: st) m := e_1 d58_43 (Or.inl rfl) rfl
theorem d58_44 : decode (mt 58).2.1 44 = .ok (.getfield 176, 3) := by decide +kernel
theorem s58_44 {ls : LV} {st : List AV} {m : MM} {n : Nat} : go 58 44 ls (.inr (.inr (7, some n)) :: st) m = go 58 47 ls (.inl (mI m 7 n 5) :: st) m := e_1 d58_44 (Or.inl rfl) (by rw [xi, pA, show lk fdL (mt 58).2.2.1 176 = some (7, 5) by decide +kernel]; rfl)
theorem d58_47 : decode (mt 58).2.1 47 = .ok (.iload_n 1, 1) := by decide +kernel
theorem s58_47 {a0 a2 : Option AV} {st : List AV} {m : MM} {x : Int32} : go 58 47 [a0, some (.inl x), a2] st m = go 58 48 [a0, some (.inl x), a2] (.inl x :: st) m := e_1 d58_47 (Or.inl rfl) rfl
theorem d58_48 : decode (mt 58).2.1 48 = .ok (.iastore, 1) := by decide +kernel
theorem s58_48 {ls : LV} {st : List AV} {m : MM} {n : Nat} {i : Int32} {x : Int32} : go 58 48 ls (.inl x :: .inl i :: .inr (.inr (18, some n)) :: st) m = ixk (ix i (mN m 18 n)) (fun j => go 58 49 ls st (sI m 18 n j x)) := e_ald d58_48 (fun j hj => by simp only [xi, pI, pL, pR, pA, hj, Option.bind_some]; exact if_pos ⟨rfl, by decide⟩) (fun hj => by simp only [xi, pI, pL, pR, pA, hj, Option.bind_none])
theorem d58_49 : decode (mt 58).2.1 49 = .ok (.aload_n 0, 1) := by decide +kernel
theorem s58_49 {a1 a2 : Option AV} {st : List AV} {m : MM} {x : Nat × Option Nat} : go 58 49 [some (.inr (.inr x)), a1, a2] st m = go 58 50 [some (.inr (.inr x)), a1, a2] (.inr (.inr x) :: st) m := e_1 d58_49 (Or.inl rfl) rfl
theorem d58_50 : decode (mt 58).2.1 50 = .ok (.dup, 1) := by decide +kernel
theorem s58_50 {ls : LV} {st : List AV} {m : MM} {x : Nat × Option Nat} : go 58 50 ls (.inr (.inr x) :: st) m = go 58 51 ls (.inr (.inr x) :: .inr (.inr x) :: st) m := e_1 d58_50 (Or.inl rfl) rfl
theorem d58_51 : decode (mt 58).2.1 51 = .ok (.getfield 176, 3) := by decide +kernel
theorem s58_51 {ls : LV} {st : List AV} {m : MM} {n : Nat} : go 58 51 ls (.inr (.inr (7, some n)) :: st) m = go 58 54 ls (.inl (mI m 7 n 5) :: st) m := e_1 d58_51 (Or.inl rfl) (by rw [xi, pA, show lk fdL (mt 58).2.2.1 176 = some (7, 5) by decide +kernel]; rfl)
theorem d58_54 : decode (mt 58).2.1 54 = .ok (.iconst 1, 1) := by decide +kernel
theorem s58_54 {ls : LV} {st : List AV} {m : MM} : go 58 54 ls st m = go 58 55 ls (.inl 1 :: st) m := e_1 d58_54 (Or.inl rfl) rfl
theorem d58_55 : decode (mt 58).2.1 55 = .ok (.iadd, 1) := by decide +kernel
theorem s58_55 {ls : LV} {st : List AV} {m : MM} {a b : Int32} : go 58 55 ls (.inl b :: .inl a :: st) m = go 58 56 ls (.inl (a + b) :: st) m := e_1 d58_55 (Or.inl rfl) rfl
theorem d58_56 : decode (mt 58).2.1 56 = .ok (.putfield 176, 3) := by decide +kernel
theorem s58_56 {ls : LV} {st : List AV} {m : MM} {n : Nat} {x : Int32} : go 58 56 ls (.inl x :: .inr (.inr (7, some n)) :: st) m = go 58 59 ls st (sI m 7 n 5 x) := e_put (r := 7) (f := 5) d58_56 (by decide +kernel) rfl (by decide +kernel)
theorem d58_59 : decode (mt 58).2.1 59 = .ok (.iconst 1, 1) := by decide +kernel
theorem s58_59 {ls : LV} {st : List AV} {m : MM} : go 58 59 ls st m = go 58 60 ls (.inl 1 :: st) m := e_1 d58_59 (Or.inl rfl) rfl
theorem d58_60 : decode (mt 58).2.1 60 = .ok (.ireturn, 1) := by decide +kernel
theorem s58_60b0 {ls : LV} {m : MM} : go 58 60 ls [.inl 0] m = some (some (.inl 0), m) := e_bool d58_60 (by decide +kernel) (by decide)
theorem s58_60b1 {ls : LV} {m : MM} : go 58 60 ls [.inl 1] m = some (some (.inl 1), m) := e_bool d58_60 (by decide +kernel) (by decide)
/-! X6_askAt: 59 -/
theorem d59_0 : decode (mt 59).2.1 0 = .ok (.iload_n 1, 1) := by decide +kernel
theorem s59_0 {a0 : Option AV} {st : List AV} {m : MM} {x : Int32} : go 59 0 [a0, some (.inl x)] st m = go 59 1 [a0, some (.inl x)] (.inl x :: st) m := e_1 d59_0 (Or.inl rfl) rfl
theorem d59_1 : decode (mt 59).2.1 1 = .ok (.ifCond .lt 20, 3) := by decide +kernel
theorem s59_1 {ls : LV} {st : List AV} {m : MM} {a : Int32} : go 59 1 ls (.inl a :: st) m = if a < 0 then go 59 21 ls st m else go 59 4 ls st m := e_if (t := 21) (b := hc .lt a 0) d59_1 (Or.inl rfl) (by simp only [xi, pI, jm_some (t := 21) (show ((1 : Nat) : Int) + 20 = ((21 : Nat) : Int) by decide), Option.bind_some]) (by simp [hc])
theorem d59_4 : decode (mt 59).2.1 4 = .ok (.iload_n 1, 1) := by decide +kernel
theorem s59_4 {a0 : Option AV} {st : List AV} {m : MM} {x : Int32} : go 59 4 [a0, some (.inl x)] st m = go 59 5 [a0, some (.inl x)] (.inl x :: st) m := e_1 d59_4 (Or.inl rfl) rfl
theorem d59_5 : decode (mt 59).2.1 5 = .ok (.aload_n 0, 1) := by decide +kernel
theorem s59_5 {a1 : Option AV} {st : List AV} {m : MM} {x : Nat × Option Nat} : go 59 5 [some (.inr (.inr x)), a1] st m = go 59 6 [some (.inr (.inr x)), a1] (.inr (.inr x) :: st) m := e_1 d59_5 (Or.inl rfl) rfl
theorem d59_6 : decode (mt 59).2.1 6 = .ok (.getfield 160, 3) := by decide +kernel
theorem s59_6 {ls : LV} {st : List AV} {m : MM} {n : Nat} : go 59 6 ls (.inr (.inr (7, some n)) :: st) m = go 59 9 ls (.inl (mI m 7 n 3) :: st) m := e_1 d59_6 (Or.inl rfl) (by rw [xi, pA, show lk fdL (mt 59).2.2.1 160 = some (7, 3) by decide +kernel]; rfl)
theorem d59_9 : decode (mt 59).2.1 9 = .ok (.if_icmp .ge 12, 3) := by decide +kernel
theorem s59_9 {ls : LV} {st : List AV} {m : MM} {a b : Int32} : go 59 9 ls (.inl b :: .inl a :: st) m = if b ≤ a then go 59 21 ls st m else go 59 12 ls st m := e_if (t := 21) (b := hc .ge a b) d59_9 (Or.inl rfl) (by simp only [xi, pI, jm_some (t := 21) (show ((9 : Nat) : Int) + 12 = ((21 : Nat) : Int) by decide), Option.bind_some]) (by simp [hc])
theorem d59_12 : decode (mt 59).2.1 12 = .ok (.aload_n 0, 1) := by decide +kernel
theorem s59_12 {a1 : Option AV} {st : List AV} {m : MM} {x : Nat × Option Nat} : go 59 12 [some (.inr (.inr x)), a1] st m = go 59 13 [some (.inr (.inr x)), a1] (.inr (.inr x) :: st) m := e_1 d59_12 (Or.inl rfl) rfl
theorem d59_13 : decode (mt 59).2.1 13 = .ok (.getfield 17, 3) := by decide +kernel
theorem s59_13 {ls : LV} {st : List AV} {m : MM} {n : Nat} : go 59 13 ls (.inr (.inr (7, some n)) :: st) m = go 59 16 ls (.inr (.inr (17, mR m 7 n 2)) :: st) m := e_1 d59_13 (Or.inl rfl) (by rw [xi, pA, show lk fdL (mt 59).2.2.1 17 = some (7, 2) by decide +kernel]; rfl)
theorem d59_16 : decode (mt 59).2.1 16 = .ok (.iload_n 1, 1) := by decide +kernel
theorem s59_16 {a0 : Option AV} {st : List AV} {m : MM} {x : Int32} : go 59 16 [a0, some (.inl x)] st m = go 59 17 [a0, some (.inl x)] (.inl x :: st) m := e_1 d59_16 (Or.inl rfl) rfl
theorem d59_17 : decode (mt 59).2.1 17 = .ok (.aaload, 1) := by decide +kernel
theorem s59_17 {ls : LV} {st : List AV} {m : MM} {n : Nat} {i : Int32} : go 59 17 ls (.inl i :: .inr (.inr (17, some n)) :: st) m = ixk (ix i (mN m 17 n)) (fun j => go 59 18 ls (.inr (.inr (1, mR m 17 n j)) :: st) m) := e_ald d59_17 (fun j hj => by simp only [xi, pI, pA, hj, Option.bind_some]; rfl) (fun hj => by simp only [xi, pI, pA, hj, Option.bind_none])
theorem d59_18 : decode (mt 59).2.1 18 = .ok (.goto 4, 3) := by decide +kernel
theorem s59_18 {ls : LV} {st : List AV} {m : MM} : go 59 18 ls st m = go 59 22 ls st m := e_1 d59_18 (Or.inl rfl) (by rw [xi, jm_some (t := 22) (by decide)]; rfl)
theorem d59_21 : decode (mt 59).2.1 21 = .ok (.aconst_null, 1) := by decide +kernel
theorem s59_21 {ls : LV} {st : List AV} {m : MM} : go 59 21 ls st m = go 59 22 ls (.inr (.inr (0, none)) :: st) m := e_1 d59_21 (Or.inl rfl) rfl
theorem d59_22 : decode (mt 59).2.1 22 = .ok (.areturn, 1) := by decide +kernel
theorem s59_22 {ls : LV} {m : MM} {x : Nat × Option Nat} : go 59 22 ls [.inr (.inr x)] m = some (some (.inr (.inr x)), m) := e_ref d59_22 rfl
/-! X6_ask: 60 -/
theorem d60_0 : decode (mt 60).2.1 0 = .ok (.aload_n 0, 1) := by decide +kernel
theorem s60_0 {a1 a2 a3 : Option AV} {st : List AV} {m : MM} {x : Nat × Option Nat} : go 60 0 [some (.inr (.inr x)), a1, a2, a3] st m = go 60 1 [some (.inr (.inr x)), a1, a2, a3] (.inr (.inr x) :: st) m := e_1 d60_0 (Or.inl rfl) rfl
theorem d60_1 : decode (mt 60).2.1 1 = .ok (.iload_n 1, 1) := by decide +kernel
theorem s60_1 {a0 a2 a3 : Option AV} {st : List AV} {m : MM} {x : Int32} : go 60 1 [a0, some (.inl x), a2, a3] st m = go 60 2 [a0, some (.inl x), a2, a3] (.inl x :: st) m := e_1 d60_1 (Or.inl rfl) rfl
theorem d60_2 : decode (mt 60).2.1 2 = .ok (.invokevirtual 179, 3) := by decide +kernel
theorem s60_2 {ls : LV} {m : MM} {x0 : Int32} {n : Nat} : go 60 2 ls [.inl x0, .inr (.inr (7, some n))] m = bd (go 59 0 [some (.inr (.inr (7, some n))), some (.inl x0)] [] m) (fun v m2 => go 60 5 ls (v.toList ++ []) m2) := e_virt (y1 := 59) (na := 1) (as := [.inl x0]) (rest := []) d60_2 (by decide +kernel) rfl (by decide +kernel) (show (ent [.inr (.inr (7, some n)), .inl x0]).length ≤ (mt 59).2.2.2.1 from Nat.le_of_ble_eq_true rfl) (cats_le (Nat.le_of_ble_eq_true rfl)) (by decide +kernel)
theorem d60_5 : decode (mt 60).2.1 5 = .ok (.astore_n 3, 1) := by decide +kernel
theorem s60_5i {a0 a1 a3 : Option AV} {z : Int32} {st : List AV} {m : MM} {x : Nat × Option Nat} : go 60 5 [a0, a1, some (.inl z), a3] (.inr (.inr x) :: st) m = go 60 6 [a0, a1, some (.inl z), some (.inr (.inr x))] st m := e_1 d60_5 (Or.inl rfl) rfl
theorem s60_5r {a0 a1 a3 : Option AV} {z : Nat × Option Nat} {st : List AV} {m : MM} {x : Nat × Option Nat} : go 60 5 [a0, a1, some (.inr (.inr z)), a3] (.inr (.inr x) :: st) m = go 60 6 [a0, a1, some (.inr (.inr z)), some (.inr (.inr x))] st m := e_1 d60_5 (Or.inl rfl) rfl
theorem s60_5n {a0 a1 a3 : Option AV} {st : List AV} {m : MM} {x : Nat × Option Nat} : go 60 5 [a0, a1, none, a3] (.inr (.inr x) :: st) m = go 60 6 [a0, a1, none, some (.inr (.inr x))] st m := e_1 d60_5 (Or.inl rfl) rfl
theorem d60_6 : decode (mt 60).2.1 6 = .ok (.aload_n 3, 1) := by decide +kernel
theorem s60_6 {a0 a1 a2 : Option AV} {st : List AV} {m : MM} {x : Nat × Option Nat} : go 60 6 [a0, a1, a2, some (.inr (.inr x))] st m = go 60 7 [a0, a1, a2, some (.inr (.inr x))] (.inr (.inr x) :: st) m := e_1 d60_6 (Or.inl rfl) rfl
theorem d60_7 : decode (mt 60).2.1 7 = .ok (.ifnonnull 5, 3) := by decide +kernel
theorem s60_7n {u : Nat} {ls : LV} {st : List AV} {m : MM} : go 60 7 ls (.inr (.inr (u, none)) :: st) m = go 60 10 ls st m := e_1 d60_7 (Or.inl rfl) (by rw [xi, jm_some (t := 12) (by decide)]; rfl)
theorem s60_7s {u n : Nat} {ls : LV} {st : List AV} {m : MM} : go 60 7 ls (.inr (.inr (u, some n)) :: st) m = go 60 12 ls st m := e_1 d60_7 (Or.inl rfl) (by rw [xi, jm_some (t := 12) (by decide)]; rfl)
theorem d60_10 : decode (mt 60).2.1 10 = .ok (.iconst (-1), 1) := by decide +kernel
theorem s60_10 {ls : LV} {st : List AV} {m : MM} : go 60 10 ls st m = go 60 11 ls (.inl (-1) :: st) m := e_1 d60_10 (Or.inl rfl) rfl
theorem d60_11 : decode (mt 60).2.1 11 = .ok (.ireturn, 1) := by decide +kernel
theorem s60_11 {ls : LV} {m : MM} {x : Int32} : go 60 11 ls [.inl x] m = some (some (.inl x), m) := e_int d60_11 (by decide +kernel)
theorem d60_12 : decode (mt 60).2.1 12 = .ok (.iload_n 2, 1) := by decide +kernel
theorem s60_12 {a0 a1 a3 : Option AV} {st : List AV} {m : MM} {x : Int32} : go 60 12 [a0, a1, some (.inl x), a3] st m = go 60 13 [a0, a1, some (.inl x), a3] (.inl x :: st) m := e_1 d60_12 (Or.inl rfl) rfl
theorem d60_13 : decode (mt 60).2.1 13 = .ok (.tableswitch 73 0 4 #[35, 40, 53, 58, 63], 35) := by decide +kernel
theorem s60_13_0 {ls : LV} {st : List AV} {m : MM} : go 60 13 ls (.inl 0 :: st) m = go 60 48 ls st m := e_1 d60_13 (Or.inr rfl) (by rw [xi]; rfl)
theorem s60_13_1 {ls : LV} {st : List AV} {m : MM} : go 60 13 ls (.inl 1 :: st) m = go 60 53 ls st m := e_1 d60_13 (Or.inr rfl) (by rw [xi]; rfl)
theorem s60_13_2 {ls : LV} {st : List AV} {m : MM} : go 60 13 ls (.inl 2 :: st) m = go 60 66 ls st m := e_1 d60_13 (Or.inr rfl) (by rw [xi]; rfl)
theorem s60_13_3 {ls : LV} {st : List AV} {m : MM} : go 60 13 ls (.inl 3 :: st) m = go 60 71 ls st m := e_1 d60_13 (Or.inr rfl) (by rw [xi]; rfl)
theorem s60_13_4 {ls : LV} {st : List AV} {m : MM} : go 60 13 ls (.inl 4 :: st) m = go 60 76 ls st m := e_1 d60_13 (Or.inr rfl) (by rw [xi]; rfl)
theorem s60_13_d {ls : LV} {st : List AV} {m : MM} {a : Int32} (h : a.toInt < 0 ∨ 4 < a.toInt) : go 60 13 ls (.inl a :: st) m = go 60 86 ls st m := e_1 d60_13 (Or.inr rfl) (by simp only [xi, pI, if_pos h, jm_some (t := 86) (show ((13 : Nat) : Int) + 73 = ((86 : Nat) : Int) by decide), Option.bind_some]; rw [if_pos (by omega)])
theorem d60_48 : decode (mt 60).2.1 48 = .ok (.aload_n 3, 1) := by decide +kernel
theorem s60_48 {a0 a1 a2 : Option AV} {st : List AV} {m : MM} {x : Nat × Option Nat} : go 60 48 [a0, a1, a2, some (.inr (.inr x))] st m = go 60 49 [a0, a1, a2, some (.inr (.inr x))] (.inr (.inr x) :: st) m := e_1 d60_48 (Or.inl rfl) rfl
theorem d60_49 : decode (mt 60).2.1 49 = .ok (.getfield 183, 3) := by decide +kernel
theorem s60_49 {ls : LV} {st : List AV} {m : MM} {n : Nat} : go 60 49 ls (.inr (.inr (1, some n)) :: st) m = go 60 52 ls (.inl (mI m 1 n 1) :: st) m := e_1 d60_49 (Or.inl rfl) (by rw [xi, pA, show lk fdL (mt 60).2.2.1 183 = some (1, 1) by decide +kernel]; rfl)
theorem d60_52 : decode (mt 60).2.1 52 = .ok (.ireturn, 1) := by decide +kernel
theorem s60_52 {ls : LV} {m : MM} {x : Int32} : go 60 52 ls [.inl x] m = some (some (.inl x), m) := e_int d60_52 (by decide +kernel)
theorem d60_53 : decode (mt 60).2.1 53 = .ok (.aload_n 3, 1) := by decide +kernel
theorem s60_53 {a0 a1 a2 : Option AV} {st : List AV} {m : MM} {x : Nat × Option Nat} : go 60 53 [a0, a1, a2, some (.inr (.inr x))] st m = go 60 54 [a0, a1, a2, some (.inr (.inr x))] (.inr (.inr x) :: st) m := e_1 d60_53 (Or.inl rfl) rfl
theorem d60_54 : decode (mt 60).2.1 54 = .ok (.getfield 186, 3) := by decide +kernel
theorem s60_54 {ls : LV} {st : List AV} {m : MM} {n : Nat} : go 60 54 ls (.inr (.inr (1, some n)) :: st) m = go 60 57 ls (.inl (mI m 1 n 6) :: st) m := e_1 d60_54 (Or.inl rfl) (by rw [xi, pA, show lk fdL (mt 60).2.2.1 186 = some (1, 6) by decide +kernel]; rfl)
theorem d60_57 : decode (mt 60).2.1 57 = .ok (.ifCond .eq 7, 3) := by decide +kernel
theorem s60_57 {ls : LV} {st : List AV} {m : MM} {a : Int32} : go 60 57 ls (.inl a :: st) m = if a = 0 then go 60 64 ls st m else go 60 60 ls st m := e_if (t := 64) (b := hc .eq a 0) d60_57 (Or.inl rfl) (by simp only [xi, pI, jm_some (t := 64) (show ((57 : Nat) : Int) + 7 = ((64 : Nat) : Int) by decide), Option.bind_some]) (by simp [hc])
theorem d60_60 : decode (mt 60).2.1 60 = .ok (.iconst 1, 1) := by decide +kernel
theorem s60_60 {ls : LV} {st : List AV} {m : MM} : go 60 60 ls st m = go 60 61 ls (.inl 1 :: st) m := e_1 d60_60 (Or.inl rfl) rfl
theorem d60_61 : decode (mt 60).2.1 61 = .ok (.goto 4, 3) := by decide +kernel
theorem s60_61 {ls : LV} {st : List AV} {m : MM} : go 60 61 ls st m = go 60 65 ls st m := e_1 d60_61 (Or.inl rfl) (by rw [xi, jm_some (t := 65) (by decide)]; rfl)
theorem d60_64 : decode (mt 60).2.1 64 = .ok (.iconst 0, 1) := by decide +kernel
theorem s60_64 {ls : LV} {st : List AV} {m : MM} : go 60 64 ls st m = go 60 65 ls (.inl 0 :: st) m := e_1 d60_64 (Or.inl rfl) rfl
theorem d60_65 : decode (mt 60).2.1 65 = .ok (.ireturn, 1) := by decide +kernel
theorem s60_65 {ls : LV} {m : MM} {x : Int32} : go 60 65 ls [.inl x] m = some (some (.inl x), m) := e_int d60_65 (by decide +kernel)
theorem d60_66 : decode (mt 60).2.1 66 = .ok (.aload_n 3, 1) := by decide +kernel
theorem s60_66 {a0 a1 a2 : Option AV} {st : List AV} {m : MM} {x : Nat × Option Nat} : go 60 66 [a0, a1, a2, some (.inr (.inr x))] st m = go 60 67 [a0, a1, a2, some (.inr (.inr x))] (.inr (.inr x) :: st) m := e_1 d60_66 (Or.inl rfl) rfl
theorem d60_67 : decode (mt 60).2.1 67 = .ok (.getfield 189, 3) := by decide +kernel
theorem s60_67 {ls : LV} {st : List AV} {m : MM} {n : Nat} : go 60 67 ls (.inr (.inr (1, some n)) :: st) m = go 60 70 ls (.inl (mI m 1 n 8) :: st) m := e_1 d60_67 (Or.inl rfl) (by rw [xi, pA, show lk fdL (mt 60).2.2.1 189 = some (1, 8) by decide +kernel]; rfl)
theorem d60_70 : decode (mt 60).2.1 70 = .ok (.ireturn, 1) := by decide +kernel
theorem s60_70 {ls : LV} {m : MM} {x : Int32} : go 60 70 ls [.inl x] m = some (some (.inl x), m) := e_int d60_70 (by decide +kernel)
theorem d60_71 : decode (mt 60).2.1 71 = .ok (.aload_n 3, 1) := by decide +kernel
theorem s60_71 {a0 a1 a2 : Option AV} {st : List AV} {m : MM} {x : Nat × Option Nat} : go 60 71 [a0, a1, a2, some (.inr (.inr x))] st m = go 60 72 [a0, a1, a2, some (.inr (.inr x))] (.inr (.inr x) :: st) m := e_1 d60_71 (Or.inl rfl) rfl
theorem d60_72 : decode (mt 60).2.1 72 = .ok (.getfield 192, 3) := by decide +kernel
theorem s60_72 {ls : LV} {st : List AV} {m : MM} {n : Nat} : go 60 72 ls (.inr (.inr (1, some n)) :: st) m = go 60 75 ls (.inl (mI m 1 n 9) :: st) m := e_1 d60_72 (Or.inl rfl) (by rw [xi, pA, show lk fdL (mt 60).2.2.1 192 = some (1, 9) by decide +kernel]; rfl)
theorem d60_75 : decode (mt 60).2.1 75 = .ok (.ireturn, 1) := by decide +kernel
theorem s60_75 {ls : LV} {m : MM} {x : Int32} : go 60 75 ls [.inl x] m = some (some (.inl x), m) := e_int d60_75 (by decide +kernel)
theorem d60_76 : decode (mt 60).2.1 76 = .ok (.aload_n 3, 1) := by decide +kernel
theorem s60_76 {a0 a1 a2 : Option AV} {st : List AV} {m : MM} {x : Nat × Option Nat} : go 60 76 [a0, a1, a2, some (.inr (.inr x))] st m = go 60 77 [a0, a1, a2, some (.inr (.inr x))] (.inr (.inr x) :: st) m := e_1 d60_76 (Or.inl rfl) rfl
theorem d60_77 : decode (mt 60).2.1 77 = .ok (.getfield 192, 3) := by decide +kernel
theorem s60_77 {ls : LV} {st : List AV} {m : MM} {n : Nat} : go 60 77 ls (.inr (.inr (1, some n)) :: st) m = go 60 80 ls (.inl (mI m 1 n 9) :: st) m := e_1 d60_77 (Or.inl rfl) (by rw [xi, pA, show lk fdL (mt 60).2.2.1 192 = some (1, 9) by decide +kernel]; rfl)
theorem d60_80 : decode (mt 60).2.1 80 = .ok (.bipush 40, 2) := by decide +kernel
theorem s60_80 {ls : LV} {st : List AV} {m : MM} : go 60 80 ls st m = go 60 82 ls (.inl 40 :: st) m := e_1 d60_80 (Or.inl rfl) rfl
theorem d60_82 : decode (mt 60).2.1 82 = .ok (.invokestatic 195, 3) := by decide +kernel
theorem s60_82 {ls : LV} {m : MM} {a b : Int32} : go 60 82 ls (.inl b :: .inl a :: []) m = go 60 85 ls (.inl (if b < a then b else a) :: []) m := (e_math (y1 := 168) d60_82 (by decide +kernel) (by decide) (cats_le (Nat.le_of_ble_eq_true rfl)) (by decide +kernel)).trans (by simp)
theorem d60_85 : decode (mt 60).2.1 85 = .ok (.ireturn, 1) := by decide +kernel
theorem s60_85 {ls : LV} {m : MM} {x : Int32} : go 60 85 ls [.inl x] m = some (some (.inl x), m) := e_int d60_85 (by decide +kernel)
theorem d60_86 : decode (mt 60).2.1 86 = .ok (.iconst (-1), 1) := by decide +kernel
theorem s60_86 {ls : LV} {st : List AV} {m : MM} : go 60 86 ls st m = go 60 87 ls (.inl (-1) :: st) m := e_1 d60_86 (Or.inl rfl) rfl
theorem d60_87 : decode (mt 60).2.1 87 = .ok (.ireturn, 1) := by decide +kernel
theorem s60_87 {ls : LV} {m : MM} {x : Int32} : go 60 87 ls [.inl x] m = some (some (.inl x), m) := e_int d60_87 (by decide +kernel)
/-! X6_passed: 61 -/
theorem d61_0 : decode (mt 61).2.1 0 = .ok (.aload_n 0, 1) := by decide +kernel
theorem s61_0 {a1 a2 a3 : Option AV} {st : List AV} {m : MM} {x : Nat × Option Nat} : go 61 0 [some (.inr (.inr x)), a1, a2, a3] st m = go 61 1 [some (.inr (.inr x)), a1, a2, a3] (.inr (.inr x) :: st) m := e_1 d61_0 (Or.inl rfl) rfl
theorem d61_1 : decode (mt 61).2.1 1 = .ok (.iload_n 1, 1) := by decide +kernel
theorem s61_1 {a0 a2 a3 : Option AV} {st : List AV} {m : MM} {x : Int32} : go 61 1 [a0, some (.inl x), a2, a3] st m = go 61 2 [a0, some (.inl x), a2, a3] (.inl x :: st) m := e_1 d61_1 (Or.inl rfl) rfl
theorem d61_2 : decode (mt 61).2.1 2 = .ok (.invokevirtual 179, 3) := by decide +kernel
theorem s61_2 {ls : LV} {m : MM} {x0 : Int32} {n : Nat} : go 61 2 ls [.inl x0, .inr (.inr (7, some n))] m = bd (go 59 0 [some (.inr (.inr (7, some n))), some (.inl x0)] [] m) (fun v m2 => go 61 5 ls (v.toList ++ []) m2) := e_virt (y1 := 59) (na := 1) (as := [.inl x0]) (rest := []) d61_2 (by decide +kernel) rfl (by decide +kernel) (show (ent [.inr (.inr (7, some n)), .inl x0]).length ≤ (mt 59).2.2.2.1 from Nat.le_of_ble_eq_true rfl) (cats_le (Nat.le_of_ble_eq_true rfl)) (by decide +kernel)
theorem d61_5 : decode (mt 61).2.1 5 = .ok (.astore_n 3, 1) := by decide +kernel
theorem s61_5i {a0 a1 a3 : Option AV} {z : Int32} {st : List AV} {m : MM} {x : Nat × Option Nat} : go 61 5 [a0, a1, some (.inl z), a3] (.inr (.inr x) :: st) m = go 61 6 [a0, a1, some (.inl z), some (.inr (.inr x))] st m := e_1 d61_5 (Or.inl rfl) rfl
theorem s61_5r {a0 a1 a3 : Option AV} {z : Nat × Option Nat} {st : List AV} {m : MM} {x : Nat × Option Nat} : go 61 5 [a0, a1, some (.inr (.inr z)), a3] (.inr (.inr x) :: st) m = go 61 6 [a0, a1, some (.inr (.inr z)), some (.inr (.inr x))] st m := e_1 d61_5 (Or.inl rfl) rfl
theorem s61_5n {a0 a1 a3 : Option AV} {st : List AV} {m : MM} {x : Nat × Option Nat} : go 61 5 [a0, a1, none, a3] (.inr (.inr x) :: st) m = go 61 6 [a0, a1, none, some (.inr (.inr x))] st m := e_1 d61_5 (Or.inl rfl) rfl
theorem d61_6 : decode (mt 61).2.1 6 = .ok (.aload_n 3, 1) := by decide +kernel
theorem s61_6 {a0 a1 a2 : Option AV} {st : List AV} {m : MM} {x : Nat × Option Nat} : go 61 6 [a0, a1, a2, some (.inr (.inr x))] st m = go 61 7 [a0, a1, a2, some (.inr (.inr x))] (.inr (.inr x) :: st) m := e_1 d61_6 (Or.inl rfl) rfl
theorem d61_7 : decode (mt 61).2.1 7 = .ok (.ifnonnull 5, 3) := by decide +kernel
theorem s61_7n {u : Nat} {ls : LV} {st : List AV} {m : MM} : go 61 7 ls (.inr (.inr (u, none)) :: st) m = go 61 10 ls st m := e_1 d61_7 (Or.inl rfl) (by rw [xi, jm_some (t := 12) (by decide)]; rfl)
theorem s61_7s {u n : Nat} {ls : LV} {st : List AV} {m : MM} : go 61 7 ls (.inr (.inr (u, some n)) :: st) m = go 61 12 ls st m := e_1 d61_7 (Or.inl rfl) (by rw [xi, jm_some (t := 12) (by decide)]; rfl)
theorem d61_10 : decode (mt 61).2.1 10 = .ok (.iconst (-1), 1) := by decide +kernel
theorem s61_10 {ls : LV} {st : List AV} {m : MM} : go 61 10 ls st m = go 61 11 ls (.inl (-1) :: st) m := e_1 d61_10 (Or.inl rfl) rfl
theorem d61_11 : decode (mt 61).2.1 11 = .ok (.ireturn, 1) := by decide +kernel
theorem s61_11 {ls : LV} {m : MM} {x : Int32} : go 61 11 ls [.inl x] m = some (some (.inl x), m) := e_int d61_11 (by decide +kernel)
theorem d61_12 : decode (mt 61).2.1 12 = .ok (.iload_n 2, 1) := by decide +kernel
theorem s61_12 {a0 a1 a3 : Option AV} {st : List AV} {m : MM} {x : Int32} : go 61 12 [a0, a1, some (.inl x), a3] st m = go 61 13 [a0, a1, some (.inl x), a3] (.inl x :: st) m := e_1 d61_12 (Or.inl rfl) rfl
theorem d61_13 : decode (mt 61).2.1 13 = .ok (.ifCond .lt 25, 3) := by decide +kernel
theorem s61_13 {ls : LV} {st : List AV} {m : MM} {a : Int32} : go 61 13 ls (.inl a :: st) m = if a < 0 then go 61 38 ls st m else go 61 16 ls st m := e_if (t := 38) (b := hc .lt a 0) d61_13 (Or.inl rfl) (by simp only [xi, pI, jm_some (t := 38) (show ((13 : Nat) : Int) + 25 = ((38 : Nat) : Int) by decide), Option.bind_some]) (by simp [hc])
theorem d61_16 : decode (mt 61).2.1 16 = .ok (.iload_n 2, 1) := by decide +kernel
theorem s61_16 {a0 a1 a3 : Option AV} {st : List AV} {m : MM} {x : Int32} : go 61 16 [a0, a1, some (.inl x), a3] st m = go 61 17 [a0, a1, some (.inl x), a3] (.inl x :: st) m := e_1 d61_16 (Or.inl rfl) rfl
theorem d61_17 : decode (mt 61).2.1 17 = .ok (.aload_n 3, 1) := by decide +kernel
theorem s61_17 {a0 a1 a2 : Option AV} {st : List AV} {m : MM} {x : Nat × Option Nat} : go 61 17 [a0, a1, a2, some (.inr (.inr x))] st m = go 61 18 [a0, a1, a2, some (.inr (.inr x))] (.inr (.inr x) :: st) m := e_1 d61_17 (Or.inl rfl) rfl
theorem d61_18 : decode (mt 61).2.1 18 = .ok (.getfield 192, 3) := by decide +kernel
theorem s61_18 {ls : LV} {st : List AV} {m : MM} {n : Nat} : go 61 18 ls (.inr (.inr (1, some n)) :: st) m = go 61 21 ls (.inl (mI m 1 n 9) :: st) m := e_1 d61_18 (Or.inl rfl) (by rw [xi, pA, show lk fdL (mt 61).2.2.1 192 = some (1, 9) by decide +kernel]; rfl)
theorem d61_21 : decode (mt 61).2.1 21 = .ok (.bipush 40, 2) := by decide +kernel
theorem s61_21 {ls : LV} {st : List AV} {m : MM} : go 61 21 ls st m = go 61 23 ls (.inl 40 :: st) m := e_1 d61_21 (Or.inl rfl) rfl
theorem d61_23 : decode (mt 61).2.1 23 = .ok (.invokestatic 195, 3) := by decide +kernel
theorem s61_23 {ls : LV} {m : MM} {a b : Int32} {w0 : AV} : go 61 23 ls (.inl b :: .inl a :: [w0]) m = go 61 26 ls (.inl (if b < a then b else a) :: [w0]) m := (e_math (y1 := 168) d61_23 (by decide +kernel) (by decide) (cats_le (Nat.le_of_ble_eq_true rfl)) (by decide +kernel)).trans (by simp)
theorem d61_26 : decode (mt 61).2.1 26 = .ok (.if_icmp .ge 12, 3) := by decide +kernel
theorem s61_26 {ls : LV} {st : List AV} {m : MM} {a b : Int32} : go 61 26 ls (.inl b :: .inl a :: st) m = if b ≤ a then go 61 38 ls st m else go 61 29 ls st m := e_if (t := 38) (b := hc .ge a b) d61_26 (Or.inl rfl) (by simp only [xi, pI, jm_some (t := 38) (show ((26 : Nat) : Int) + 12 = ((38 : Nat) : Int) by decide), Option.bind_some]) (by simp [hc])
theorem d61_29 : decode (mt 61).2.1 29 = .ok (.aload_n 3, 1) := by decide +kernel
theorem s61_29 {a0 a1 a2 : Option AV} {st : List AV} {m : MM} {x : Nat × Option Nat} : go 61 29 [a0, a1, a2, some (.inr (.inr x))] st m = go 61 30 [a0, a1, a2, some (.inr (.inr x))] (.inr (.inr x) :: st) m := e_1 d61_29 (Or.inl rfl) rfl
theorem d61_30 : decode (mt 61).2.1 30 = .ok (.getfield 200, 3) := by decide +kernel
theorem s61_30 {ls : LV} {st : List AV} {m : MM} {n : Nat} : go 61 30 ls (.inr (.inr (1, some n)) :: st) m = go 61 33 ls (.inr (.inr (9, mR m 1 n 11)) :: st) m := e_1 d61_30 (Or.inl rfl) (by rw [xi, pA, show lk fdL (mt 61).2.2.1 200 = some (1, 11) by decide +kernel]; rfl)
theorem d61_33 : decode (mt 61).2.1 33 = .ok (.iload_n 2, 1) := by decide +kernel
theorem s61_33 {a0 a1 a3 : Option AV} {st : List AV} {m : MM} {x : Int32} : go 61 33 [a0, a1, some (.inl x), a3] st m = go 61 34 [a0, a1, some (.inl x), a3] (.inl x :: st) m := e_1 d61_33 (Or.inl rfl) rfl
theorem d61_34 : decode (mt 61).2.1 34 = .ok (.baload, 1) := by decide +kernel
theorem s61_34 {ls : LV} {st : List AV} {m : MM} {n : Nat} {i : Int32} : go 61 34 ls (.inl i :: .inr (.inr (9, some n)) :: st) m = ixk (ix i (mN m 9 n)) (fun j => go 61 35 ls (.inl (mI m 9 n j) :: st) m) := e_ald d61_34 (fun j hj => by simp only [xi, pI, pA, hj, Option.bind_some]; rfl) (fun hj => by simp only [xi, pI, pA, hj, Option.bind_none])
theorem d61_35 : decode (mt 61).2.1 35 = .ok (.goto 5, 3) := by decide +kernel
theorem s61_35 {ls : LV} {st : List AV} {m : MM} : go 61 35 ls st m = go 61 40 ls st m := e_1 d61_35 (Or.inl rfl) (by rw [xi, jm_some (t := 40) (by decide)]; rfl)
theorem d61_38 : decode (mt 61).2.1 38 = .ok (.bipush (-4), 2) := by decide +kernel
theorem s61_38 {ls : LV} {st : List AV} {m : MM} : go 61 38 ls st m = go 61 40 ls (.inl (-4) :: st) m := e_1 d61_38 (Or.inl rfl) rfl
theorem d61_40 : decode (mt 61).2.1 40 = .ok (.ireturn, 1) := by decide +kernel
theorem s61_40 {ls : LV} {m : MM} {x : Int32} : go 61 40 ls [.inl x] m = some (some (.inl x), m) := e_int d61_40 (by decide +kernel)
/-! X6_noted: 62 -/
theorem d62_0 : decode (mt 62).2.1 0 = .ok (.aload_n 0, 1) := by decide +kernel
theorem s62_0 {a1 a2 a3 : Option AV} {st : List AV} {m : MM} {x : Nat × Option Nat} : go 62 0 [some (.inr (.inr x)), a1, a2, a3] st m = go 62 1 [some (.inr (.inr x)), a1, a2, a3] (.inr (.inr x) :: st) m := e_1 d62_0 (Or.inl rfl) rfl
theorem d62_1 : decode (mt 62).2.1 1 = .ok (.iload_n 1, 1) := by decide +kernel
theorem s62_1 {a0 a2 a3 : Option AV} {st : List AV} {m : MM} {x : Int32} : go 62 1 [a0, some (.inl x), a2, a3] st m = go 62 2 [a0, some (.inl x), a2, a3] (.inl x :: st) m := e_1 d62_1 (Or.inl rfl) rfl
theorem d62_2 : decode (mt 62).2.1 2 = .ok (.invokevirtual 179, 3) := by decide +kernel
theorem s62_2 {ls : LV} {m : MM} {x0 : Int32} {n : Nat} : go 62 2 ls [.inl x0, .inr (.inr (7, some n))] m = bd (go 59 0 [some (.inr (.inr (7, some n))), some (.inl x0)] [] m) (fun v m2 => go 62 5 ls (v.toList ++ []) m2) := e_virt (y1 := 59) (na := 1) (as := [.inl x0]) (rest := []) d62_2 (by decide +kernel) rfl (by decide +kernel) (show (ent [.inr (.inr (7, some n)), .inl x0]).length ≤ (mt 59).2.2.2.1 from Nat.le_of_ble_eq_true rfl) (cats_le (Nat.le_of_ble_eq_true rfl)) (by decide +kernel)
theorem d62_5 : decode (mt 62).2.1 5 = .ok (.astore_n 3, 1) := by decide +kernel
theorem s62_5i {a0 a1 a3 : Option AV} {z : Int32} {st : List AV} {m : MM} {x : Nat × Option Nat} : go 62 5 [a0, a1, some (.inl z), a3] (.inr (.inr x) :: st) m = go 62 6 [a0, a1, some (.inl z), some (.inr (.inr x))] st m := e_1 d62_5 (Or.inl rfl) rfl
theorem s62_5r {a0 a1 a3 : Option AV} {z : Nat × Option Nat} {st : List AV} {m : MM} {x : Nat × Option Nat} : go 62 5 [a0, a1, some (.inr (.inr z)), a3] (.inr (.inr x) :: st) m = go 62 6 [a0, a1, some (.inr (.inr z)), some (.inr (.inr x))] st m := e_1 d62_5 (Or.inl rfl) rfl
theorem s62_5n {a0 a1 a3 : Option AV} {st : List AV} {m : MM} {x : Nat × Option Nat} : go 62 5 [a0, a1, none, a3] (.inr (.inr x) :: st) m = go 62 6 [a0, a1, none, some (.inr (.inr x))] st m := e_1 d62_5 (Or.inl rfl) rfl
theorem d62_6 : decode (mt 62).2.1 6 = .ok (.aload_n 3, 1) := by decide +kernel
theorem s62_6 {a0 a1 a2 : Option AV} {st : List AV} {m : MM} {x : Nat × Option Nat} : go 62 6 [a0, a1, a2, some (.inr (.inr x))] st m = go 62 7 [a0, a1, a2, some (.inr (.inr x))] (.inr (.inr x) :: st) m := e_1 d62_6 (Or.inl rfl) rfl
theorem d62_7 : decode (mt 62).2.1 7 = .ok (.ifnull 11, 3) := by decide +kernel
theorem s62_7n {u : Nat} {ls : LV} {st : List AV} {m : MM} : go 62 7 ls (.inr (.inr (u, none)) :: st) m = go 62 18 ls st m := e_1 d62_7 (Or.inl rfl) (by rw [xi, jm_some (t := 18) (by decide)]; rfl)
theorem s62_7s {u n : Nat} {ls : LV} {st : List AV} {m : MM} : go 62 7 ls (.inr (.inr (u, some n)) :: st) m = go 62 10 ls st m := e_1 d62_7 (Or.inl rfl) (by rw [xi, jm_some (t := 18) (by decide)]; rfl)
theorem d62_10 : decode (mt 62).2.1 10 = .ok (.aload_n 3, 1) := by decide +kernel
theorem s62_10 {a0 a1 a2 : Option AV} {st : List AV} {m : MM} {x : Nat × Option Nat} : go 62 10 [a0, a1, a2, some (.inr (.inr x))] st m = go 62 11 [a0, a1, a2, some (.inr (.inr x))] (.inr (.inr x) :: st) m := e_1 d62_10 (Or.inl rfl) rfl
theorem d62_11 : decode (mt 62).2.1 11 = .ok (.getfield 183, 3) := by decide +kernel
theorem s62_11 {ls : LV} {st : List AV} {m : MM} {n : Nat} : go 62 11 ls (.inr (.inr (1, some n)) :: st) m = go 62 14 ls (.inl (mI m 1 n 1) :: st) m := e_1 d62_11 (Or.inl rfl) (by rw [xi, pA, show lk fdL (mt 62).2.2.1 183 = some (1, 1) by decide +kernel]; rfl)
theorem d62_14 : decode (mt 62).2.1 14 = .ok (.iconst 1, 1) := by decide +kernel
theorem s62_14 {ls : LV} {st : List AV} {m : MM} : go 62 14 ls st m = go 62 15 ls (.inl 1 :: st) m := e_1 d62_14 (Or.inl rfl) rfl
theorem d62_15 : decode (mt 62).2.1 15 = .ok (.if_icmp .eq 5, 3) := by decide +kernel
theorem s62_15 {ls : LV} {st : List AV} {m : MM} {a b : Int32} : go 62 15 ls (.inl b :: .inl a :: st) m = if a = b then go 62 20 ls st m else go 62 18 ls st m := e_if (t := 20) (b := hc .eq a b) d62_15 (Or.inl rfl) (by simp only [xi, pI, jm_some (t := 20) (show ((15 : Nat) : Int) + 5 = ((20 : Nat) : Int) by decide), Option.bind_some]) (by simp [hc])
theorem d62_18 : decode (mt 62).2.1 18 = .ok (.iconst (-1), 1) := by decide +kernel
theorem s62_18 {ls : LV} {st : List AV} {m : MM} : go 62 18 ls st m = go 62 19 ls (.inl (-1) :: st) m := e_1 d62_18 (Or.inl rfl) rfl
theorem d62_19 : decode (mt 62).2.1 19 = .ok (.ireturn, 1) := by decide +kernel
theorem s62_19 {ls : LV} {m : MM} {x : Int32} : go 62 19 ls [.inl x] m = some (some (.inl x), m) := e_int d62_19 (by decide +kernel)
theorem d62_20 : decode (mt 62).2.1 20 = .ok (.iload_n 2, 1) := by decide +kernel
theorem s62_20 {a0 a1 a3 : Option AV} {st : List AV} {m : MM} {x : Int32} : go 62 20 [a0, a1, some (.inl x), a3] st m = go 62 21 [a0, a1, some (.inl x), a3] (.inl x :: st) m := e_1 d62_20 (Or.inl rfl) rfl
theorem d62_21 : decode (mt 62).2.1 21 = .ok (.ifCond .lt 28, 3) := by decide +kernel
theorem s62_21 {ls : LV} {st : List AV} {m : MM} {a : Int32} : go 62 21 ls (.inl a :: st) m = if a < 0 then go 62 49 ls st m else go 62 24 ls st m := e_if (t := 49) (b := hc .lt a 0) d62_21 (Or.inl rfl) (by simp only [xi, pI, jm_some (t := 49) (show ((21 : Nat) : Int) + 28 = ((49 : Nat) : Int) by decide), Option.bind_some]) (by simp [hc])
theorem d62_24 : decode (mt 62).2.1 24 = .ok (.iload_n 2, 1) := by decide +kernel
theorem s62_24 {a0 a1 a3 : Option AV} {st : List AV} {m : MM} {x : Int32} : go 62 24 [a0, a1, some (.inl x), a3] st m = go 62 25 [a0, a1, some (.inl x), a3] (.inl x :: st) m := e_1 d62_24 (Or.inl rfl) rfl
theorem d62_25 : decode (mt 62).2.1 25 = .ok (.aload_n 3, 1) := by decide +kernel
theorem s62_25 {a0 a1 a2 : Option AV} {st : List AV} {m : MM} {x : Nat × Option Nat} : go 62 25 [a0, a1, a2, some (.inr (.inr x))] st m = go 62 26 [a0, a1, a2, some (.inr (.inr x))] (.inr (.inr x) :: st) m := e_1 d62_25 (Or.inl rfl) rfl
theorem d62_26 : decode (mt 62).2.1 26 = .ok (.getfield 204, 3) := by decide +kernel
theorem s62_26 {ls : LV} {st : List AV} {m : MM} {n : Nat} : go 62 26 ls (.inr (.inr (1, some n)) :: st) m = go 62 29 ls (.inl (mI m 1 n 10) :: st) m := e_1 d62_26 (Or.inl rfl) (by rw [xi, pA, show lk fdL (mt 62).2.2.1 204 = some (1, 10) by decide +kernel]; rfl)
theorem d62_29 : decode (mt 62).2.1 29 = .ok (.aload_n 3, 1) := by decide +kernel
theorem s62_29 {a0 a1 a2 : Option AV} {st : List AV} {m : MM} {x : Nat × Option Nat} : go 62 29 [a0, a1, a2, some (.inr (.inr x))] st m = go 62 30 [a0, a1, a2, some (.inr (.inr x))] (.inr (.inr x) :: st) m := e_1 d62_29 (Or.inl rfl) rfl
theorem d62_30 : decode (mt 62).2.1 30 = .ok (.getfield 207, 3) := by decide +kernel
theorem s62_30 {ls : LV} {st : List AV} {m : MM} {n : Nat} : go 62 30 ls (.inr (.inr (1, some n)) :: st) m = go 62 33 ls (.inr (.inr (10, mR m 1 n 12)) :: st) m := e_1 d62_30 (Or.inl rfl) (by rw [xi, pA, show lk fdL (mt 62).2.2.1 207 = some (1, 12) by decide +kernel]; rfl)
theorem d62_33 : decode (mt 62).2.1 33 = .ok (.arraylength, 1) := by decide +kernel
theorem s62_33 {ls : LV} {st : List AV} {m : MM} {n : Nat} : go 62 33 ls (.inr (.inr (10, some n)) :: st) m = go 62 34 ls (.inl (nI (mN m 10 n)) :: st) m := e_1 d62_33 (Or.inl rfl) rfl
theorem d62_34 : decode (mt 62).2.1 34 = .ok (.invokestatic 195, 3) := by decide +kernel
theorem s62_34 {ls : LV} {m : MM} {a b : Int32} {w0 : AV} : go 62 34 ls (.inl b :: .inl a :: [w0]) m = go 62 37 ls (.inl (if b < a then b else a) :: [w0]) m := (e_math (y1 := 168) d62_34 (by decide +kernel) (by decide) (cats_le (Nat.le_of_ble_eq_true rfl)) (by decide +kernel)).trans (by simp)
theorem d62_37 : decode (mt 62).2.1 37 = .ok (.if_icmp .ge 12, 3) := by decide +kernel
theorem s62_37 {ls : LV} {st : List AV} {m : MM} {a b : Int32} : go 62 37 ls (.inl b :: .inl a :: st) m = if b ≤ a then go 62 49 ls st m else go 62 40 ls st m := e_if (t := 49) (b := hc .ge a b) d62_37 (Or.inl rfl) (by simp only [xi, pI, jm_some (t := 49) (show ((37 : Nat) : Int) + 12 = ((49 : Nat) : Int) by decide), Option.bind_some]) (by simp [hc])
theorem d62_40 : decode (mt 62).2.1 40 = .ok (.aload_n 3, 1) := by decide +kernel
theorem s62_40 {a0 a1 a2 : Option AV} {st : List AV} {m : MM} {x : Nat × Option Nat} : go 62 40 [a0, a1, a2, some (.inr (.inr x))] st m = go 62 41 [a0, a1, a2, some (.inr (.inr x))] (.inr (.inr x) :: st) m := e_1 d62_40 (Or.inl rfl) rfl
theorem d62_41 : decode (mt 62).2.1 41 = .ok (.getfield 207, 3) := by decide +kernel
theorem s62_41 {ls : LV} {st : List AV} {m : MM} {n : Nat} : go 62 41 ls (.inr (.inr (1, some n)) :: st) m = go 62 44 ls (.inr (.inr (10, mR m 1 n 12)) :: st) m := e_1 d62_41 (Or.inl rfl) (by rw [xi, pA, show lk fdL (mt 62).2.2.1 207 = some (1, 12) by decide +kernel]; rfl)
theorem d62_44 : decode (mt 62).2.1 44 = .ok (.iload_n 2, 1) := by decide +kernel
theorem s62_44 {a0 a1 a3 : Option AV} {st : List AV} {m : MM} {x : Int32} : go 62 44 [a0, a1, some (.inl x), a3] st m = go 62 45 [a0, a1, some (.inl x), a3] (.inl x :: st) m := e_1 d62_44 (Or.inl rfl) rfl
theorem d62_45 : decode (mt 62).2.1 45 = .ok (.baload, 1) := by decide +kernel
theorem s62_45 {ls : LV} {st : List AV} {m : MM} {n : Nat} {i : Int32} : go 62 45 ls (.inl i :: .inr (.inr (10, some n)) :: st) m = ixk (ix i (mN m 10 n)) (fun j => go 62 46 ls (.inl (mI m 10 n j) :: st) m) := e_ald d62_45 (fun j hj => by simp only [xi, pI, pA, hj, Option.bind_some]; rfl) (fun hj => by simp only [xi, pI, pA, hj, Option.bind_none])
theorem d62_46 : decode (mt 62).2.1 46 = .ok (.goto 5, 3) := by decide +kernel
theorem s62_46 {ls : LV} {st : List AV} {m : MM} : go 62 46 ls st m = go 62 51 ls st m := e_1 d62_46 (Or.inl rfl) (by rw [xi, jm_some (t := 51) (by decide)]; rfl)
theorem d62_49 : decode (mt 62).2.1 49 = .ok (.bipush (-4), 2) := by decide +kernel
theorem s62_49 {ls : LV} {st : List AV} {m : MM} : go 62 49 ls st m = go 62 51 ls (.inl (-4) :: st) m := e_1 d62_49 (Or.inl rfl) rfl
theorem d62_51 : decode (mt 62).2.1 51 = .ok (.ireturn, 1) := by decide +kernel
theorem s62_51 {ls : LV} {m : MM} {x : Int32} : go 62 51 ls [.inl x] m = some (some (.inl x), m) := e_int d62_51 (by decide +kernel)
/-! X6_value: 63 -/
theorem d63_0 : decode (mt 63).2.1 0 = .ok (.aload_n 0, 1) := by decide +kernel
theorem s63_0 {a1 a2 : Option AV} {st : List AV} {m : MM} {x : Nat × Option Nat} : go 63 0 [some (.inr (.inr x)), a1, a2] st m = go 63 1 [some (.inr (.inr x)), a1, a2] (.inr (.inr x) :: st) m := e_1 d63_0 (Or.inl rfl) rfl
theorem d63_1 : decode (mt 63).2.1 1 = .ok (.iload_n 1, 1) := by decide +kernel
theorem s63_1 {a0 a2 : Option AV} {st : List AV} {m : MM} {x : Int32} : go 63 1 [a0, some (.inl x), a2] st m = go 63 2 [a0, some (.inl x), a2] (.inl x :: st) m := e_1 d63_1 (Or.inl rfl) rfl
theorem d63_2 : decode (mt 63).2.1 2 = .ok (.invokevirtual 179, 3) := by decide +kernel
theorem s63_2 {ls : LV} {m : MM} {x0 : Int32} {n : Nat} : go 63 2 ls [.inl x0, .inr (.inr (7, some n))] m = bd (go 59 0 [some (.inr (.inr (7, some n))), some (.inl x0)] [] m) (fun v m2 => go 63 5 ls (v.toList ++ []) m2) := e_virt (y1 := 59) (na := 1) (as := [.inl x0]) (rest := []) d63_2 (by decide +kernel) rfl (by decide +kernel) (show (ent [.inr (.inr (7, some n)), .inl x0]).length ≤ (mt 59).2.2.2.1 from Nat.le_of_ble_eq_true rfl) (cats_le (Nat.le_of_ble_eq_true rfl)) (by decide +kernel)
theorem d63_5 : decode (mt 63).2.1 5 = .ok (.astore_n 2, 1) := by decide +kernel
theorem s63_5i {a0 a2 : Option AV} {z : Int32} {st : List AV} {m : MM} {x : Nat × Option Nat} : go 63 5 [a0, some (.inl z), a2] (.inr (.inr x) :: st) m = go 63 6 [a0, some (.inl z), some (.inr (.inr x))] st m := e_1 d63_5 (Or.inl rfl) rfl
theorem s63_5r {a0 a2 : Option AV} {z : Nat × Option Nat} {st : List AV} {m : MM} {x : Nat × Option Nat} : go 63 5 [a0, some (.inr (.inr z)), a2] (.inr (.inr x) :: st) m = go 63 6 [a0, some (.inr (.inr z)), some (.inr (.inr x))] st m := e_1 d63_5 (Or.inl rfl) rfl
theorem s63_5n {a0 a2 : Option AV} {st : List AV} {m : MM} {x : Nat × Option Nat} : go 63 5 [a0, none, a2] (.inr (.inr x) :: st) m = go 63 6 [a0, none, some (.inr (.inr x))] st m := e_1 d63_5 (Or.inl rfl) rfl
theorem d63_6 : decode (mt 63).2.1 6 = .ok (.aload_n 2, 1) := by decide +kernel
theorem s63_6 {a0 a1 : Option AV} {st : List AV} {m : MM} {x : Nat × Option Nat} : go 63 6 [a0, a1, some (.inr (.inr x))] st m = go 63 7 [a0, a1, some (.inr (.inr x))] (.inr (.inr x) :: st) m := e_1 d63_6 (Or.inl rfl) rfl
theorem d63_7 : decode (mt 63).2.1 7 = .ok (.ifnull 18, 3) := by decide +kernel
theorem s63_7n {u : Nat} {ls : LV} {st : List AV} {m : MM} : go 63 7 ls (.inr (.inr (u, none)) :: st) m = go 63 25 ls st m := e_1 d63_7 (Or.inl rfl) (by rw [xi, jm_some (t := 25) (by decide)]; rfl)
theorem s63_7s {u n : Nat} {ls : LV} {st : List AV} {m : MM} : go 63 7 ls (.inr (.inr (u, some n)) :: st) m = go 63 10 ls st m := e_1 d63_7 (Or.inl rfl) (by rw [xi, jm_some (t := 25) (by decide)]; rfl)
theorem d63_10 : decode (mt 63).2.1 10 = .ok (.aload_n 2, 1) := by decide +kernel
theorem s63_10 {a0 a1 : Option AV} {st : List AV} {m : MM} {x : Nat × Option Nat} : go 63 10 [a0, a1, some (.inr (.inr x))] st m = go 63 11 [a0, a1, some (.inr (.inr x))] (.inr (.inr x) :: st) m := e_1 d63_10 (Or.inl rfl) rfl
theorem d63_11 : decode (mt 63).2.1 11 = .ok (.getfield 183, 3) := by decide +kernel
theorem s63_11 {ls : LV} {st : List AV} {m : MM} {n : Nat} : go 63 11 ls (.inr (.inr (1, some n)) :: st) m = go 63 14 ls (.inl (mI m 1 n 1) :: st) m := e_1 d63_11 (Or.inl rfl) (by rw [xi, pA, show lk fdL (mt 63).2.2.1 183 = some (1, 1) by decide +kernel]; rfl)
theorem d63_14 : decode (mt 63).2.1 14 = .ok (.iconst 4, 1) := by decide +kernel
theorem s63_14 {ls : LV} {st : List AV} {m : MM} : go 63 14 ls st m = go 63 15 ls (.inl 4 :: st) m := e_1 d63_14 (Or.inl rfl) rfl
theorem d63_15 : decode (mt 63).2.1 15 = .ok (.if_icmp .ne 10, 3) := by decide +kernel
theorem s63_15 {ls : LV} {st : List AV} {m : MM} {a b : Int32} : go 63 15 ls (.inl b :: .inl a :: st) m = if ¬ a = b then go 63 25 ls st m else go 63 18 ls st m := e_if (t := 25) (b := hc .ne a b) d63_15 (Or.inl rfl) (by simp only [xi, pI, jm_some (t := 25) (show ((15 : Nat) : Int) + 10 = ((25 : Nat) : Int) by decide), Option.bind_some]) (by simp [hc])
theorem d63_18 : decode (mt 63).2.1 18 = .ok (.aload_n 2, 1) := by decide +kernel
theorem s63_18 {a0 a1 : Option AV} {st : List AV} {m : MM} {x : Nat × Option Nat} : go 63 18 [a0, a1, some (.inr (.inr x))] st m = go 63 19 [a0, a1, some (.inr (.inr x))] (.inr (.inr x) :: st) m := e_1 d63_18 (Or.inl rfl) rfl
theorem d63_19 : decode (mt 63).2.1 19 = .ok (.getfield 210, 3) := by decide +kernel
theorem s63_19 {ls : LV} {st : List AV} {m : MM} {n : Nat} : go 63 19 ls (.inr (.inr (1, some n)) :: st) m = go 63 22 ls (.inr (.inl (mL m 1 n 4)) :: st) m := e_1 d63_19 (Or.inl rfl) (by rw [xi, pA, show lk fdL (mt 63).2.2.1 210 = some (1, 4) by decide +kernel]; rfl)
theorem d63_22 : decode (mt 63).2.1 22 = .ok (.goto 4, 3) := by decide +kernel
theorem s63_22 {ls : LV} {st : List AV} {m : MM} : go 63 22 ls st m = go 63 26 ls st m := e_1 d63_22 (Or.inl rfl) (by rw [xi, jm_some (t := 26) (by decide)]; rfl)
theorem d63_25 : decode (mt 63).2.1 25 = .ok (.lconst 0, 1) := by decide +kernel
theorem s63_25 {ls : LV} {st : List AV} {m : MM} : go 63 25 ls st m = go 63 26 ls (.inr (.inl 0) :: st) m := e_1 d63_25 (Or.inl rfl) rfl
theorem d63_26 : decode (mt 63).2.1 26 = .ok (.lreturn, 1) := by decide +kernel
theorem s63_26 {ls : LV} {m : MM} {x : Int64} : go 63 26 ls [.inr (.inl x)] m = some (some (.inr (.inl x)), m) := e_long d63_26 (by decide +kernel)
/-! X6_deliver: 64 -/
theorem d64_0 : decode (mt 64).2.1 0 = .ok (.aload_n 0, 1) := by decide +kernel
theorem s64_0 {a1 a2 : Option AV} {st : List AV} {m : MM} {x : Nat × Option Nat} : go 64 0 [some (.inr (.inr x)), a1, a2] st m = go 64 1 [some (.inr (.inr x)), a1, a2] (.inr (.inr x) :: st) m := e_1 d64_0 (Or.inl rfl) rfl
theorem d64_1 : decode (mt 64).2.1 1 = .ok (.getfield 28, 3) := by decide +kernel
theorem s64_1 {ls : LV} {st : List AV} {m : MM} {n : Nat} : go 64 1 ls (.inr (.inr (7, some n)) :: st) m = go 64 4 ls (.inr (.inr (3, mR m 7 n 6)) :: st) m := e_1 d64_1 (Or.inl rfl) (by rw [xi, pA, show lk fdL (mt 64).2.2.1 28 = some (7, 6) by decide +kernel]; rfl)
theorem d64_4 : decode (mt 64).2.1 4 = .ok (.iload_n 1, 1) := by decide +kernel
theorem s64_4 {a0 a2 : Option AV} {st : List AV} {m : MM} {x : Int32} : go 64 4 [a0, some (.inl x), a2] st m = go 64 5 [a0, some (.inl x), a2] (.inl x :: st) m := e_1 d64_4 (Or.inl rfl) rfl
theorem d64_5 : decode (mt 64).2.1 5 = .ok (.invokevirtual 214, 3) := by decide +kernel
theorem s64_5 {ls : LV} {m : MM} {x0 : Int32} {n : Nat} : go 64 5 ls [.inl x0, .inr (.inr (3, some n))] m = bd (go 9 0 [some (.inr (.inr (3, some n))), some (.inl x0)] [] m) (fun v m2 => go 64 8 ls (v.toList ++ []) m2) := e_virt (y1 := 9) (na := 1) (as := [.inl x0]) (rest := []) d64_5 (by decide +kernel) rfl (by decide +kernel) (show (ent [.inr (.inr (3, some n)), .inl x0]).length ≤ (mt 9).2.2.2.1 from Nat.le_of_ble_eq_true rfl) (cats_le (Nat.le_of_ble_eq_true rfl)) (by decide +kernel)
theorem d64_8 : decode (mt 64).2.1 8 = .ok (.astore_n 2, 1) := by decide +kernel
theorem s64_8i {a0 a2 : Option AV} {z : Int32} {st : List AV} {m : MM} {x : Nat × Option Nat} : go 64 8 [a0, some (.inl z), a2] (.inr (.inr x) :: st) m = go 64 9 [a0, some (.inl z), some (.inr (.inr x))] st m := e_1 d64_8 (Or.inl rfl) rfl
theorem s64_8r {a0 a2 : Option AV} {z : Nat × Option Nat} {st : List AV} {m : MM} {x : Nat × Option Nat} : go 64 8 [a0, some (.inr (.inr z)), a2] (.inr (.inr x) :: st) m = go 64 9 [a0, some (.inr (.inr z)), some (.inr (.inr x))] st m := e_1 d64_8 (Or.inl rfl) rfl
theorem s64_8n {a0 a2 : Option AV} {st : List AV} {m : MM} {x : Nat × Option Nat} : go 64 8 [a0, none, a2] (.inr (.inr x) :: st) m = go 64 9 [a0, none, some (.inr (.inr x))] st m := e_1 d64_8 (Or.inl rfl) rfl
theorem d64_9 : decode (mt 64).2.1 9 = .ok (.aload_n 2, 1) := by decide +kernel
theorem s64_9 {a0 a1 : Option AV} {st : List AV} {m : MM} {x : Nat × Option Nat} : go 64 9 [a0, a1, some (.inr (.inr x))] st m = go 64 10 [a0, a1, some (.inr (.inr x))] (.inr (.inr x) :: st) m := e_1 d64_9 (Or.inl rfl) rfl
theorem d64_10 : decode (mt 64).2.1 10 = .ok (.ifnonnull 5, 3) := by decide +kernel
theorem s64_10n {u : Nat} {ls : LV} {st : List AV} {m : MM} : go 64 10 ls (.inr (.inr (u, none)) :: st) m = go 64 13 ls st m := e_1 d64_10 (Or.inl rfl) (by rw [xi, jm_some (t := 15) (by decide)]; rfl)
theorem s64_10s {u n : Nat} {ls : LV} {st : List AV} {m : MM} : go 64 10 ls (.inr (.inr (u, some n)) :: st) m = go 64 15 ls st m := e_1 d64_10 (Or.inl rfl) (by rw [xi, jm_some (t := 15) (by decide)]; rfl)
theorem d64_13 : decode (mt 64).2.1 13 = .ok (.iconst (-1), 1) := by decide +kernel
theorem s64_13 {ls : LV} {st : List AV} {m : MM} : go 64 13 ls st m = go 64 14 ls (.inl (-1) :: st) m := e_1 d64_13 (Or.inl rfl) rfl
theorem d64_14 : decode (mt 64).2.1 14 = .ok (.ireturn, 1) := by decide +kernel
theorem s64_14 {ls : LV} {m : MM} {x : Int32} : go 64 14 ls [.inl x] m = some (some (.inl x), m) := e_int d64_14 (by decide +kernel)
theorem d64_15 : decode (mt 64).2.1 15 = .ok (.aload_n 0, 1) := by decide +kernel
theorem s64_15 {a1 a2 : Option AV} {st : List AV} {m : MM} {x : Nat × Option Nat} : go 64 15 [some (.inr (.inr x)), a1, a2] st m = go 64 16 [some (.inr (.inr x)), a1, a2] (.inr (.inr x) :: st) m := e_1 d64_15 (Or.inl rfl) rfl
theorem d64_16 : decode (mt 64).2.1 16 = .ok (.aload_n 2, 1) := by decide +kernel
theorem s64_16 {a0 a1 : Option AV} {st : List AV} {m : MM} {x : Nat × Option Nat} : go 64 16 [a0, a1, some (.inr (.inr x))] st m = go 64 17 [a0, a1, some (.inr (.inr x))] (.inr (.inr x) :: st) m := e_1 d64_16 (Or.inl rfl) rfl
theorem d64_17 : decode (mt 64).2.1 17 = .ok (.invokevirtual 218, 3) := by decide +kernel
theorem s64_17 {ls : LV} {m : MM} {x0 : Nat × Option Nat} {n : Nat} : go 64 17 ls [.inr (.inr x0), .inr (.inr (7, some n))] m = bd (go 67 0 [some (.inr (.inr (7, some n))), some (.inr (.inr x0))] [] m) (fun v m2 => go 64 20 ls (v.toList ++ []) m2) := e_virt (y1 := 67) (na := 1) (as := [.inr (.inr x0)]) (rest := []) d64_17 (by decide +kernel) rfl (by decide +kernel) (show (ent [.inr (.inr (7, some n)), .inr (.inr x0)]).length ≤ (mt 67).2.2.2.1 from Nat.le_of_ble_eq_true rfl) (cats_le (Nat.le_of_ble_eq_true rfl)) (by decide +kernel)
theorem d64_20 : decode (mt 64).2.1 20 = .ok (.ifCond .eq 11, 3) := by decide +kernel
theorem s64_20 {ls : LV} {st : List AV} {m : MM} {a : Int32} : go 64 20 ls (.inl a :: st) m = if a = 0 then go 64 31 ls st m else go 64 23 ls st m := e_if (t := 31) (b := hc .eq a 0) d64_20 (Or.inl rfl) (by simp only [xi, pI, jm_some (t := 31) (show ((20 : Nat) : Int) + 11 = ((31 : Nat) : Int) by decide), Option.bind_some]) (by simp [hc])
theorem d64_23 : decode (mt 64).2.1 23 = .ok (.aload_n 0, 1) := by decide +kernel
theorem s64_23 {a1 a2 : Option AV} {st : List AV} {m : MM} {x : Nat × Option Nat} : go 64 23 [some (.inr (.inr x)), a1, a2] st m = go 64 24 [some (.inr (.inr x)), a1, a2] (.inr (.inr x) :: st) m := e_1 d64_23 (Or.inl rfl) rfl
theorem d64_24 : decode (mt 64).2.1 24 = .ok (.iload_n 1, 1) := by decide +kernel
theorem s64_24 {a0 a2 : Option AV} {st : List AV} {m : MM} {x : Int32} : go 64 24 [a0, some (.inl x), a2] st m = go 64 25 [a0, some (.inl x), a2] (.inl x :: st) m := e_1 d64_24 (Or.inl rfl) rfl
theorem d64_25 : decode (mt 64).2.1 25 = .ok (.invokevirtual 222, 3) := by decide +kernel
theorem s64_25 {ls : LV} {m : MM} {x0 : Int32} {n : Nat} : go 64 25 ls [.inl x0, .inr (.inr (7, some n))] m = bd (go 69 0 [some (.inr (.inr (7, some n))), some (.inl x0), none] [] m) (fun v m2 => go 64 28 ls (v.toList ++ []) m2) := e_virt (y1 := 69) (na := 1) (as := [.inl x0]) (rest := []) d64_25 (by decide +kernel) rfl (by decide +kernel) (show (ent [.inr (.inr (7, some n)), .inl x0]).length ≤ (mt 69).2.2.2.1 from Nat.le_of_ble_eq_true rfl) (cats_le (Nat.le_of_ble_eq_true rfl)) (by decide +kernel)
theorem d64_28 : decode (mt 64).2.1 28 = .ok (.goto 5, 3) := by decide +kernel
theorem s64_28 {ls : LV} {st : List AV} {m : MM} : go 64 28 ls st m = go 64 33 ls st m := e_1 d64_28 (Or.inl rfl) (by rw [xi, jm_some (t := 33) (by decide)]; rfl)
theorem d64_31 : decode (mt 64).2.1 31 = .ok (.bipush (-2), 2) := by decide +kernel
theorem s64_31 {ls : LV} {st : List AV} {m : MM} : go 64 31 ls st m = go 64 33 ls (.inl (-2) :: st) m := e_1 d64_31 (Or.inl rfl) rfl
theorem d64_33 : decode (mt 64).2.1 33 = .ok (.ireturn, 1) := by decide +kernel
theorem s64_33 {ls : LV} {m : MM} {x : Int32} : go 64 33 ls [.inl x] m = some (some (.inl x), m) := e_int d64_33 (by decide +kernel)
/-! X6_all: 65 -/
theorem d65_0 : decode (mt 65).2.1 0 = .ok (.iload_n 1, 1) := by decide +kernel
theorem s65_0 {a0 a2 a3 : Option AV} {st : List AV} {m : MM} {x : Int32} : go 65 0 [a0, some (.inl x), a2, a3] st m = go 65 1 [a0, some (.inl x), a2, a3] (.inl x :: st) m := e_1 d65_0 (Or.inl rfl) rfl
theorem d65_1 : decode (mt 65).2.1 1 = .ok (.ifCond .lt 10, 3) := by decide +kernel
theorem s65_1 {ls : LV} {st : List AV} {m : MM} {a : Int32} : go 65 1 ls (.inl a :: st) m = if a < 0 then go 65 11 ls st m else go 65 4 ls st m := e_if (t := 11) (b := hc .lt a 0) d65_1 (Or.inl rfl) (by simp only [xi, pI, jm_some (t := 11) (show ((1 : Nat) : Int) + 10 = ((11 : Nat) : Int) by decide), Option.bind_some]) (by simp [hc])
theorem d65_4 : decode (mt 65).2.1 4 = .ok (.iload_n 1, 1) := by decide +kernel
theorem s65_4 {a0 a2 a3 : Option AV} {st : List AV} {m : MM} {x : Int32} : go 65 4 [a0, some (.inl x), a2, a3] st m = go 65 5 [a0, some (.inl x), a2, a3] (.inl x :: st) m := e_1 d65_4 (Or.inl rfl) rfl
theorem d65_5 : decode (mt 65).2.1 5 = .ok (.sipush 1000, 3) := by decide +kernel
theorem s65_5 {ls : LV} {st : List AV} {m : MM} : go 65 5 ls st m = go 65 8 ls (.inl 1000 :: st) m := e_1 d65_5 (Or.inl rfl) rfl
theorem d65_8 : decode (mt 65).2.1 8 = .ok (.if_icmp .le 5, 3) := by decide +kernel
theorem s65_8 {ls : LV} {st : List AV} {m : MM} {a b : Int32} : go 65 8 ls (.inl b :: .inl a :: st) m = if a ≤ b then go 65 13 ls st m else go 65 11 ls st m := e_if (t := 13) (b := hc .le a b) d65_8 (Or.inl rfl) (by simp only [xi, pI, jm_some (t := 13) (show ((8 : Nat) : Int) + 5 = ((13 : Nat) : Int) by decide), Option.bind_some]) (by simp [hc])
theorem d65_11 : decode (mt 65).2.1 11 = .ok (.iconst (-1), 1) := by decide +kernel
theorem s65_11 {ls : LV} {st : List AV} {m : MM} : go 65 11 ls st m = go 65 12 ls (.inl (-1) :: st) m := e_1 d65_11 (Or.inl rfl) rfl
theorem d65_12 : decode (mt 65).2.1 12 = .ok (.ireturn, 1) := by decide +kernel
theorem s65_12 {ls : LV} {m : MM} {x : Int32} : go 65 12 ls [.inl x] m = some (some (.inl x), m) := e_int d65_12 (by decide +kernel)
theorem d65_13 : decode (mt 65).2.1 13 = .ok (.iconst 0, 1) := by decide +kernel
theorem s65_13 {ls : LV} {st : List AV} {m : MM} : go 65 13 ls st m = go 65 14 ls (.inl 0 :: st) m := e_1 d65_13 (Or.inl rfl) rfl
theorem d65_14 : decode (mt 65).2.1 14 = .ok (.istore_n 2, 1) := by decide +kernel
theorem s65_14i {a0 a2 a3 : Option AV} {z : Int32} {st : List AV} {m : MM} {x : Int32} : go 65 14 [a0, some (.inl z), a2, a3] (.inl x :: st) m = go 65 15 [a0, some (.inl z), some (.inl x), a3] st m := e_1 d65_14 (Or.inl rfl) rfl
theorem s65_14r {a0 a2 a3 : Option AV} {z : Nat × Option Nat} {st : List AV} {m : MM} {x : Int32} : go 65 14 [a0, some (.inr (.inr z)), a2, a3] (.inl x :: st) m = go 65 15 [a0, some (.inr (.inr z)), some (.inl x), a3] st m := e_1 d65_14 (Or.inl rfl) rfl
theorem s65_14n {a0 a2 a3 : Option AV} {st : List AV} {m : MM} {x : Int32} : go 65 14 [a0, none, a2, a3] (.inl x :: st) m = go 65 15 [a0, none, some (.inl x), a3] st m := e_1 d65_14 (Or.inl rfl) rfl
theorem d65_15 : decode (mt 65).2.1 15 = .ok (.iload_n 2, 1) := by decide +kernel
theorem s65_15 {a0 a1 a3 : Option AV} {st : List AV} {m : MM} {x : Int32} : go 65 15 [a0, a1, some (.inl x), a3] st m = go 65 16 [a0, a1, some (.inl x), a3] (.inl x :: st) m := e_1 d65_15 (Or.inl rfl) rfl
theorem d65_16 : decode (mt 65).2.1 16 = .ok (.iload_n 1, 1) := by decide +kernel
theorem s65_16 {a0 a2 a3 : Option AV} {st : List AV} {m : MM} {x : Int32} : go 65 16 [a0, some (.inl x), a2, a3] st m = go 65 17 [a0, some (.inl x), a2, a3] (.inl x :: st) m := e_1 d65_16 (Or.inl rfl) rfl
theorem d65_17 : decode (mt 65).2.1 17 = .ok (.if_icmp .ge 29, 3) := by decide +kernel
theorem s65_17 {ls : LV} {st : List AV} {m : MM} {a b : Int32} : go 65 17 ls (.inl b :: .inl a :: st) m = if b ≤ a then go 65 46 ls st m else go 65 20 ls st m := e_if (t := 46) (b := hc .ge a b) d65_17 (Or.inl rfl) (by simp only [xi, pI, jm_some (t := 46) (show ((17 : Nat) : Int) + 29 = ((46 : Nat) : Int) by decide), Option.bind_some]) (by simp [hc])
theorem d65_20 : decode (mt 65).2.1 20 = .ok (.aload_n 0, 1) := by decide +kernel
theorem s65_20 {a1 a2 a3 : Option AV} {st : List AV} {m : MM} {x : Nat × Option Nat} : go 65 20 [some (.inr (.inr x)), a1, a2, a3] st m = go 65 21 [some (.inr (.inr x)), a1, a2, a3] (.inr (.inr x) :: st) m := e_1 d65_20 (Or.inl rfl) rfl
theorem d65_21 : decode (mt 65).2.1 21 = .ok (.invokevirtual 226, 3) := by decide +kernel
theorem s65_21 {ls : LV} {m : MM} {n : Nat} : go 65 21 ls [.inr (.inr (7, some n))] m = bd (go 68 0 [some (.inr (.inr (7, some n))), none] [] m) (fun v m2 => go 65 24 ls (v.toList ++ []) m2) := e_virt (y1 := 68) (na := 0) (as := []) (rest := []) d65_21 (by decide +kernel) rfl (by decide +kernel) (show (ent [.inr (.inr (7, some n))]).length ≤ (mt 68).2.2.2.1 from Nat.le_of_ble_eq_true rfl) (cats_le (Nat.le_of_ble_eq_true rfl)) (by decide +kernel)
theorem d65_24 : decode (mt 65).2.1 24 = .ok (.istore_n 3, 1) := by decide +kernel
theorem s65_24i {a0 a1 a3 : Option AV} {z : Int32} {st : List AV} {m : MM} {x : Int32} : go 65 24 [a0, a1, some (.inl z), a3] (.inl x :: st) m = go 65 25 [a0, a1, some (.inl z), some (.inl x)] st m := e_1 d65_24 (Or.inl rfl) rfl
theorem s65_24r {a0 a1 a3 : Option AV} {z : Nat × Option Nat} {st : List AV} {m : MM} {x : Int32} : go 65 24 [a0, a1, some (.inr (.inr z)), a3] (.inl x :: st) m = go 65 25 [a0, a1, some (.inr (.inr z)), some (.inl x)] st m := e_1 d65_24 (Or.inl rfl) rfl
theorem s65_24n {a0 a1 a3 : Option AV} {st : List AV} {m : MM} {x : Int32} : go 65 24 [a0, a1, none, a3] (.inl x :: st) m = go 65 25 [a0, a1, none, some (.inl x)] st m := e_1 d65_24 (Or.inl rfl) rfl
theorem d65_25 : decode (mt 65).2.1 25 = .ok (.iload_n 3, 1) := by decide +kernel
theorem s65_25 {a0 a1 a2 : Option AV} {st : List AV} {m : MM} {x : Int32} : go 65 25 [a0, a1, a2, some (.inl x)] st m = go 65 26 [a0, a1, a2, some (.inl x)] (.inl x :: st) m := e_1 d65_25 (Or.inl rfl) rfl
theorem d65_26 : decode (mt 65).2.1 26 = .ok (.bipush (-4), 2) := by decide +kernel
theorem s65_26 {ls : LV} {st : List AV} {m : MM} : go 65 26 ls st m = go 65 28 ls (.inl (-4) :: st) m := e_1 d65_26 (Or.inl rfl) rfl
theorem d65_28 : decode (mt 65).2.1 28 = .ok (.if_icmp .ne 6, 3) := by decide +kernel
theorem s65_28 {ls : LV} {st : List AV} {m : MM} {a b : Int32} : go 65 28 ls (.inl b :: .inl a :: st) m = if ¬ a = b then go 65 34 ls st m else go 65 31 ls st m := e_if (t := 34) (b := hc .ne a b) d65_28 (Or.inl rfl) (by simp only [xi, pI, jm_some (t := 34) (show ((28 : Nat) : Int) + 6 = ((34 : Nat) : Int) by decide), Option.bind_some]) (by simp [hc])
theorem d65_31 : decode (mt 65).2.1 31 = .ok (.goto 15, 3) := by decide +kernel
theorem s65_31 {ls : LV} {st : List AV} {m : MM} : go 65 31 ls st m = go 65 46 ls st m := e_1 d65_31 (Or.inl rfl) (by rw [xi, jm_some (t := 46) (by decide)]; rfl)
theorem d65_34 : decode (mt 65).2.1 34 = .ok (.aload_n 0, 1) := by decide +kernel
theorem s65_34 {a1 a2 a3 : Option AV} {st : List AV} {m : MM} {x : Nat × Option Nat} : go 65 34 [some (.inr (.inr x)), a1, a2, a3] st m = go 65 35 [some (.inr (.inr x)), a1, a2, a3] (.inr (.inr x) :: st) m := e_1 d65_34 (Or.inl rfl) rfl
theorem d65_35 : decode (mt 65).2.1 35 = .ok (.iload_n 3, 1) := by decide +kernel
theorem s65_35 {a0 a1 a2 : Option AV} {st : List AV} {m : MM} {x : Int32} : go 65 35 [a0, a1, a2, some (.inl x)] st m = go 65 36 [a0, a1, a2, some (.inl x)] (.inl x :: st) m := e_1 d65_35 (Or.inl rfl) rfl
theorem d65_36 : decode (mt 65).2.1 36 = .ok (.invokevirtual 222, 3) := by decide +kernel
theorem s65_36 {ls : LV} {m : MM} {x0 : Int32} {n : Nat} : go 65 36 ls [.inl x0, .inr (.inr (7, some n))] m = bd (go 69 0 [some (.inr (.inr (7, some n))), some (.inl x0), none] [] m) (fun v m2 => go 65 39 ls (v.toList ++ []) m2) := e_virt (y1 := 69) (na := 1) (as := [.inl x0]) (rest := []) d65_36 (by decide +kernel) rfl (by decide +kernel) (show (ent [.inr (.inr (7, some n)), .inl x0]).length ≤ (mt 69).2.2.2.1 from Nat.le_of_ble_eq_true rfl) (cats_le (Nat.le_of_ble_eq_true rfl)) (by decide +kernel)
theorem d65_39 : decode (mt 65).2.1 39 = .ok (.pop, 1) := by decide +kernel
theorem s65_39 {ls : LV} {st : List AV} {m : MM} {x : Int32} : go 65 39 ls (.inl x :: st) m = go 65 40 ls st m := e_1 d65_39 (Or.inl rfl) rfl
theorem d65_40 : decode (mt 65).2.1 40 = .ok (.iinc 2 1, 3) := by decide +kernel
theorem s65_40i {a0 a3 : Option AV} {z : Int32} {st : List AV} {m : MM} {x : Int32} : go 65 40 [a0, some (.inl z), some (.inl x), a3] st m = go 65 43 [a0, some (.inl z), some (.inl (x + 1)), a3] st m := e_1 d65_40 (Or.inl rfl) rfl
theorem s65_40r {a0 a3 : Option AV} {z : Nat × Option Nat} {st : List AV} {m : MM} {x : Int32} : go 65 40 [a0, some (.inr (.inr z)), some (.inl x), a3] st m = go 65 43 [a0, some (.inr (.inr z)), some (.inl (x + 1)), a3] st m := e_1 d65_40 (Or.inl rfl) rfl
theorem s65_40n {a0 a3 : Option AV} {st : List AV} {m : MM} {x : Int32} : go 65 40 [a0, none, some (.inl x), a3] st m = go 65 43 [a0, none, some (.inl (x + 1)), a3] st m := e_1 d65_40 (Or.inl rfl) rfl
theorem d65_43 : decode (mt 65).2.1 43 = .ok (.goto (-28), 3) := by decide +kernel
theorem s65_43 {ls : LV} {st : List AV} {m : MM} : go 65 43 ls st m = go 65 15 ls st m := e_1 d65_43 (Or.inl rfl) (by rw [xi, jm_some (t := 15) (by decide)]; rfl)
theorem d65_46 : decode (mt 65).2.1 46 = .ok (.iload_n 2, 1) := by decide +kernel
theorem s65_46 {a0 a1 a3 : Option AV} {st : List AV} {m : MM} {x : Int32} : go 65 46 [a0, a1, some (.inl x), a3] st m = go 65 47 [a0, a1, some (.inl x), a3] (.inl x :: st) m := e_1 d65_46 (Or.inl rfl) rfl
theorem d65_47 : decode (mt 65).2.1 47 = .ok (.ireturn, 1) := by decide +kernel
theorem s65_47 {ls : LV} {m : MM} {x : Int32} : go 65 47 ls [.inl x] m = some (some (.inl x), m) := e_int d65_47 (by decide +kernel)
/-! X6_message: 66 -/
theorem d66_0 : decode (mt 66).2.1 0 = .ok (.aload_n 0, 1) := by decide +kernel
theorem s66_0 {a1 a2 a3 : Option AV} {st : List AV} {m : MM} {x : Nat × Option Nat} : go 66 0 [some (.inr (.inr x)), a1, a2, a3] st m = go 66 1 [some (.inr (.inr x)), a1, a2, a3] (.inr (.inr x) :: st) m := e_1 d66_0 (Or.inl rfl) rfl
theorem d66_1 : decode (mt 66).2.1 1 = .ok (.getfield 28, 3) := by decide +kernel
theorem s66_1 {ls : LV} {st : List AV} {m : MM} {n : Nat} : go 66 1 ls (.inr (.inr (7, some n)) :: st) m = go 66 4 ls (.inr (.inr (3, mR m 7 n 6)) :: st) m := e_1 d66_1 (Or.inl rfl) (by rw [xi, pA, show lk fdL (mt 66).2.2.1 28 = some (7, 6) by decide +kernel]; rfl)
theorem d66_4 : decode (mt 66).2.1 4 = .ok (.iload_n 1, 1) := by decide +kernel
theorem s66_4 {a0 a2 a3 : Option AV} {st : List AV} {m : MM} {x : Int32} : go 66 4 [a0, some (.inl x), a2, a3] st m = go 66 5 [a0, some (.inl x), a2, a3] (.inl x :: st) m := e_1 d66_4 (Or.inl rfl) rfl
theorem d66_5 : decode (mt 66).2.1 5 = .ok (.invokevirtual 214, 3) := by decide +kernel
theorem s66_5 {ls : LV} {m : MM} {x0 : Int32} {n : Nat} : go 66 5 ls [.inl x0, .inr (.inr (3, some n))] m = bd (go 9 0 [some (.inr (.inr (3, some n))), some (.inl x0)] [] m) (fun v m2 => go 66 8 ls (v.toList ++ []) m2) := e_virt (y1 := 9) (na := 1) (as := [.inl x0]) (rest := []) d66_5 (by decide +kernel) rfl (by decide +kernel) (show (ent [.inr (.inr (3, some n)), .inl x0]).length ≤ (mt 9).2.2.2.1 from Nat.le_of_ble_eq_true rfl) (cats_le (Nat.le_of_ble_eq_true rfl)) (by decide +kernel)
theorem d66_8 : decode (mt 66).2.1 8 = .ok (.astore_n 3, 1) := by decide +kernel
theorem s66_8i {a0 a1 a3 : Option AV} {z : Int32} {st : List AV} {m : MM} {x : Nat × Option Nat} : go 66 8 [a0, a1, some (.inl z), a3] (.inr (.inr x) :: st) m = go 66 9 [a0, a1, some (.inl z), some (.inr (.inr x))] st m := e_1 d66_8 (Or.inl rfl) rfl
theorem s66_8r {a0 a1 a3 : Option AV} {z : Nat × Option Nat} {st : List AV} {m : MM} {x : Nat × Option Nat} : go 66 8 [a0, a1, some (.inr (.inr z)), a3] (.inr (.inr x) :: st) m = go 66 9 [a0, a1, some (.inr (.inr z)), some (.inr (.inr x))] st m := e_1 d66_8 (Or.inl rfl) rfl
theorem s66_8n {a0 a1 a3 : Option AV} {st : List AV} {m : MM} {x : Nat × Option Nat} : go 66 8 [a0, a1, none, a3] (.inr (.inr x) :: st) m = go 66 9 [a0, a1, none, some (.inr (.inr x))] st m := e_1 d66_8 (Or.inl rfl) rfl
theorem d66_9 : decode (mt 66).2.1 9 = .ok (.aload_n 3, 1) := by decide +kernel
theorem s66_9 {a0 a1 a2 : Option AV} {st : List AV} {m : MM} {x : Nat × Option Nat} : go 66 9 [a0, a1, a2, some (.inr (.inr x))] st m = go 66 10 [a0, a1, a2, some (.inr (.inr x))] (.inr (.inr x) :: st) m := e_1 d66_9 (Or.inl rfl) rfl
theorem d66_10 : decode (mt 66).2.1 10 = .ok (.ifnonnull 5, 3) := by decide +kernel
theorem s66_10n {u : Nat} {ls : LV} {st : List AV} {m : MM} : go 66 10 ls (.inr (.inr (u, none)) :: st) m = go 66 13 ls st m := e_1 d66_10 (Or.inl rfl) (by rw [xi, jm_some (t := 15) (by decide)]; rfl)
theorem s66_10s {u n : Nat} {ls : LV} {st : List AV} {m : MM} : go 66 10 ls (.inr (.inr (u, some n)) :: st) m = go 66 15 ls st m := e_1 d66_10 (Or.inl rfl) (by rw [xi, jm_some (t := 15) (by decide)]; rfl)
theorem d66_13 : decode (mt 66).2.1 13 = .ok (.iconst (-1), 1) := by decide +kernel
theorem s66_13 {ls : LV} {st : List AV} {m : MM} : go 66 13 ls st m = go 66 14 ls (.inl (-1) :: st) m := e_1 d66_13 (Or.inl rfl) rfl
theorem d66_14 : decode (mt 66).2.1 14 = .ok (.ireturn, 1) := by decide +kernel
theorem s66_14 {ls : LV} {m : MM} {x : Int32} : go 66 14 ls [.inl x] m = some (some (.inl x), m) := e_int d66_14 (by decide +kernel)
theorem d66_15 : decode (mt 66).2.1 15 = .ok (.iload_n 2, 1) := by decide +kernel
theorem s66_15 {a0 a1 a3 : Option AV} {st : List AV} {m : MM} {x : Int32} : go 66 15 [a0, a1, some (.inl x), a3] st m = go 66 16 [a0, a1, some (.inl x), a3] (.inl x :: st) m := e_1 d66_15 (Or.inl rfl) rfl
theorem d66_16 : decode (mt 66).2.1 16 = .ok (.tableswitch 70 0 3 #[32, 37, 45, 65], 32) := by decide +kernel
theorem s66_16_0 {ls : LV} {st : List AV} {m : MM} : go 66 16 ls (.inl 0 :: st) m = go 66 48 ls st m := e_1 d66_16 (Or.inr rfl) (by rw [xi]; rfl)
theorem s66_16_1 {ls : LV} {st : List AV} {m : MM} : go 66 16 ls (.inl 1 :: st) m = go 66 53 ls st m := e_1 d66_16 (Or.inr rfl) (by rw [xi]; rfl)
theorem s66_16_2 {ls : LV} {st : List AV} {m : MM} : go 66 16 ls (.inl 2 :: st) m = go 66 61 ls st m := e_1 d66_16 (Or.inr rfl) (by rw [xi]; rfl)
theorem s66_16_3 {ls : LV} {st : List AV} {m : MM} : go 66 16 ls (.inl 3 :: st) m = go 66 81 ls st m := e_1 d66_16 (Or.inr rfl) (by rw [xi]; rfl)
theorem s66_16_d {ls : LV} {st : List AV} {m : MM} {a : Int32} (h : a.toInt < 0 ∨ 3 < a.toInt) : go 66 16 ls (.inl a :: st) m = go 66 86 ls st m := e_1 d66_16 (Or.inr rfl) (by simp only [xi, pI, if_pos h, jm_some (t := 86) (show ((16 : Nat) : Int) + 70 = ((86 : Nat) : Int) by decide), Option.bind_some]; rw [if_pos (by omega)])
theorem d66_48 : decode (mt 66).2.1 48 = .ok (.aload_n 3, 1) := by decide +kernel
theorem s66_48 {a0 a1 a2 : Option AV} {st : List AV} {m : MM} {x : Nat × Option Nat} : go 66 48 [a0, a1, a2, some (.inr (.inr x))] st m = go 66 49 [a0, a1, a2, some (.inr (.inr x))] (.inr (.inr x) :: st) m := e_1 d66_48 (Or.inl rfl) rfl
theorem d66_49 : decode (mt 66).2.1 49 = .ok (.getfield 229, 3) := by decide +kernel
theorem s66_49 {ls : LV} {st : List AV} {m : MM} {n : Nat} : go 66 49 ls (.inr (.inr (4, some n)) :: st) m = go 66 52 ls (.inl (mI m 4 n 0) :: st) m := e_1 d66_49 (Or.inl rfl) (by rw [xi, pA, show lk fdL (mt 66).2.2.1 229 = some (4, 0) by decide +kernel]; rfl)
theorem d66_52 : decode (mt 66).2.1 52 = .ok (.ireturn, 1) := by decide +kernel
theorem s66_52 {ls : LV} {m : MM} {x : Int32} : go 66 52 ls [.inl x] m = some (some (.inl x), m) := e_int d66_52 (by decide +kernel)
theorem d66_53 : decode (mt 66).2.1 53 = .ok (.aload_n 3, 1) := by decide +kernel
theorem s66_53 {a0 a1 a2 : Option AV} {st : List AV} {m : MM} {x : Nat × Option Nat} : go 66 53 [a0, a1, a2, some (.inr (.inr x))] st m = go 66 54 [a0, a1, a2, some (.inr (.inr x))] (.inr (.inr x) :: st) m := e_1 d66_53 (Or.inl rfl) rfl
theorem d66_54 : decode (mt 66).2.1 54 = .ok (.getfield 232, 3) := by decide +kernel
theorem s66_54 {ls : LV} {st : List AV} {m : MM} {n : Nat} : go 66 54 ls (.inr (.inr (4, some n)) :: st) m = go 66 57 ls (.inr (.inr (6, mR m 4 n 1)) :: st) m := e_1 d66_54 (Or.inl rfl) (by rw [xi, pA, show lk fdL (mt 66).2.2.1 232 = some (4, 1) by decide +kernel]; rfl)
theorem d66_57 : decode (mt 66).2.1 57 = .ok (.getfield 235, 3) := by decide +kernel
theorem s66_57 {ls : LV} {st : List AV} {m : MM} {n : Nat} : go 66 57 ls (.inr (.inr (6, some n)) :: st) m = go 66 60 ls (.inl (mI m 6 n 0) :: st) m := e_1 d66_57 (Or.inl rfl) (by rw [xi, pA, show lk fdL (mt 66).2.2.1 235 = some (6, 0) by decide +kernel]; rfl)
theorem d66_60 : decode (mt 66).2.1 60 = .ok (.ireturn, 1) := by decide +kernel
theorem s66_60 {ls : LV} {m : MM} {x : Int32} : go 66 60 ls [.inl x] m = some (some (.inl x), m) := e_int d66_60 (by decide +kernel)
theorem d66_61 : decode (mt 66).2.1 61 = .ok (.aload_n 3, 1) := by decide +kernel
theorem s66_61 {a0 a1 a2 : Option AV} {st : List AV} {m : MM} {x : Nat × Option Nat} : go 66 61 [a0, a1, a2, some (.inr (.inr x))] st m = go 66 62 [a0, a1, a2, some (.inr (.inr x))] (.inr (.inr x) :: st) m := e_1 d66_61 (Or.inl rfl) rfl
theorem d66_62 : decode (mt 66).2.1 62 = .ok (.getfield 236, 3) := by decide +kernel
theorem s66_62 {ls : LV} {st : List AV} {m : MM} {n : Nat} : go 66 62 ls (.inr (.inr (4, some n)) :: st) m = go 66 65 ls (.inr (.inr (1, mR m 4 n 2)) :: st) m := e_1 d66_62 (Or.inl rfl) (by rw [xi, pA, show lk fdL (mt 66).2.2.1 236 = some (4, 2) by decide +kernel]; rfl)
theorem d66_65 : decode (mt 66).2.1 65 = .ok (.ifnull 13, 3) := by decide +kernel
theorem s66_65n {u : Nat} {ls : LV} {st : List AV} {m : MM} : go 66 65 ls (.inr (.inr (u, none)) :: st) m = go 66 78 ls st m := e_1 d66_65 (Or.inl rfl) (by rw [xi, jm_some (t := 78) (by decide)]; rfl)
theorem s66_65s {u n : Nat} {ls : LV} {st : List AV} {m : MM} : go 66 65 ls (.inr (.inr (u, some n)) :: st) m = go 66 68 ls st m := e_1 d66_65 (Or.inl rfl) (by rw [xi, jm_some (t := 78) (by decide)]; rfl)
theorem d66_68 : decode (mt 66).2.1 68 = .ok (.aload_n 3, 1) := by decide +kernel
theorem s66_68 {a0 a1 a2 : Option AV} {st : List AV} {m : MM} {x : Nat × Option Nat} : go 66 68 [a0, a1, a2, some (.inr (.inr x))] st m = go 66 69 [a0, a1, a2, some (.inr (.inr x))] (.inr (.inr x) :: st) m := e_1 d66_68 (Or.inl rfl) rfl
theorem d66_69 : decode (mt 66).2.1 69 = .ok (.getfield 236, 3) := by decide +kernel
theorem s66_69 {ls : LV} {st : List AV} {m : MM} {n : Nat} : go 66 69 ls (.inr (.inr (4, some n)) :: st) m = go 66 72 ls (.inr (.inr (1, mR m 4 n 2)) :: st) m := e_1 d66_69 (Or.inl rfl) (by rw [xi, pA, show lk fdL (mt 66).2.2.1 236 = some (4, 2) by decide +kernel]; rfl)
theorem d66_72 : decode (mt 66).2.1 72 = .ok (.getfield 173, 3) := by decide +kernel
theorem s66_72 {ls : LV} {st : List AV} {m : MM} {n : Nat} : go 66 72 ls (.inr (.inr (1, some n)) :: st) m = go 66 75 ls (.inl (mI m 1 n 0) :: st) m := e_1 d66_72 (Or.inl rfl) (by rw [xi, pA, show lk fdL (mt 66).2.2.1 173 = some (1, 0) by decide +kernel]; rfl)
theorem d66_75 : decode (mt 66).2.1 75 = .ok (.goto 5, 3) := by decide +kernel
theorem s66_75 {ls : LV} {st : List AV} {m : MM} : go 66 75 ls st m = go 66 80 ls st m := e_1 d66_75 (Or.inl rfl) (by rw [xi, jm_some (t := 80) (by decide)]; rfl)
theorem d66_78 : decode (mt 66).2.1 78 = .ok (.bipush (-4), 2) := by decide +kernel
theorem s66_78 {ls : LV} {st : List AV} {m : MM} : go 66 78 ls st m = go 66 80 ls (.inl (-4) :: st) m := e_1 d66_78 (Or.inl rfl) rfl
theorem d66_80 : decode (mt 66).2.1 80 = .ok (.ireturn, 1) := by decide +kernel
theorem s66_80 {ls : LV} {m : MM} {x : Int32} : go 66 80 ls [.inl x] m = some (some (.inl x), m) := e_int d66_80 (by decide +kernel)
theorem d66_81 : decode (mt 66).2.1 81 = .ok (.aload_n 3, 1) := by decide +kernel
theorem s66_81 {a0 a1 a2 : Option AV} {st : List AV} {m : MM} {x : Nat × Option Nat} : go 66 81 [a0, a1, a2, some (.inr (.inr x))] st m = go 66 82 [a0, a1, a2, some (.inr (.inr x))] (.inr (.inr x) :: st) m := e_1 d66_81 (Or.inl rfl) rfl
theorem d66_82 : decode (mt 66).2.1 82 = .ok (.getfield 240, 3) := by decide +kernel
theorem s66_82 {ls : LV} {st : List AV} {m : MM} {n : Nat} : go 66 82 ls (.inr (.inr (4, some n)) :: st) m = go 66 85 ls (.inl (mI m 4 n 3) :: st) m := e_1 d66_82 (Or.inl rfl) (by rw [xi, pA, show lk fdL (mt 66).2.2.1 240 = some (4, 3) by decide +kernel]; rfl)
theorem d66_85 : decode (mt 66).2.1 85 = .ok (.ireturn, 1) := by decide +kernel
theorem s66_85 {ls : LV} {m : MM} {x : Int32} : go 66 85 ls [.inl x] m = some (some (.inl x), m) := e_int d66_85 (by decide +kernel)
theorem d66_86 : decode (mt 66).2.1 86 = .ok (.iconst (-1), 1) := by decide +kernel
theorem s66_86 {ls : LV} {st : List AV} {m : MM} : go 66 86 ls st m = go 66 87 ls (.inl (-1) :: st) m := e_1 d66_86 (Or.inl rfl) rfl
theorem d66_87 : decode (mt 66).2.1 87 = .ok (.ireturn, 1) := by decide +kernel
theorem s66_87 {ls : LV} {m : MM} {x : Int32} : go 66 87 ls [.inl x] m = some (some (.inl x), m) := e_int d66_87 (by decide +kernel)
/-! X6_canBeTaken: 67 -/
theorem d67_0 : decode (mt 67).2.1 0 = .ok (.aload_n 0, 1) := by decide +kernel
theorem s67_0 {a1 : Option AV} {st : List AV} {m : MM} {x : Nat × Option Nat} : go 67 0 [some (.inr (.inr x)), a1] st m = go 67 1 [some (.inr (.inr x)), a1] (.inr (.inr x) :: st) m := e_1 d67_0 (Or.inl rfl) rfl
theorem d67_1 : decode (mt 67).2.1 1 = .ok (.getfield 35, 3) := by decide +kernel
theorem s67_1 {ls : LV} {st : List AV} {m : MM} {n : Nat} : go 67 1 ls (.inr (.inr (7, some n)) :: st) m = go 67 4 ls (.inr (.inr (2, mR m 7 n 7)) :: st) m := e_1 d67_1 (Or.inl rfl) (by rw [xi, pA, show lk fdL (mt 67).2.2.1 35 = some (7, 7) by decide +kernel]; rfl)
theorem d67_4 : decode (mt 67).2.1 4 = .ok (.invokevirtual 72, 3) := by decide +kernel
theorem s67_4 {ls : LV} {m : MM} {n : Nat} : go 67 4 ls [.inr (.inr (2, some n))] m = bd (go 6 0 [some (.inr (.inr (2, some n)))] [] m) (fun v m2 => go 67 7 ls (v.toList ++ []) m2) := e_virt (y1 := 6) (na := 0) (as := []) (rest := []) d67_4 (by decide +kernel) rfl (by decide +kernel) (show (ent [.inr (.inr (2, some n))]).length ≤ (mt 6).2.2.2.1 from Nat.le_of_ble_eq_true rfl) (cats_le (Nat.le_of_ble_eq_true rfl)) (by decide +kernel)
theorem d67_7 : decode (mt 67).2.1 7 = .ok (.ifCond .eq 19, 3) := by decide +kernel
theorem s67_7 {ls : LV} {st : List AV} {m : MM} {a : Int32} : go 67 7 ls (.inl a :: st) m = if a = 0 then go 67 26 ls st m else go 67 10 ls st m := e_if (t := 26) (b := hc .eq a 0) d67_7 (Or.inl rfl) (by simp only [xi, pI, jm_some (t := 26) (show ((7 : Nat) : Int) + 19 = ((26 : Nat) : Int) by decide), Option.bind_some]) (by simp [hc])
theorem d67_10 : decode (mt 67).2.1 10 = .ok (.aload_n 1, 1) := by decide +kernel
theorem s67_10 {a0 : Option AV} {st : List AV} {m : MM} {x : Nat × Option Nat} : go 67 10 [a0, some (.inr (.inr x))] st m = go 67 11 [a0, some (.inr (.inr x))] (.inr (.inr x) :: st) m := e_1 d67_10 (Or.inl rfl) rfl
theorem d67_11 : decode (mt 67).2.1 11 = .ok (.getfield 229, 3) := by decide +kernel
theorem s67_11 {ls : LV} {st : List AV} {m : MM} {n : Nat} : go 67 11 ls (.inr (.inr (4, some n)) :: st) m = go 67 14 ls (.inl (mI m 4 n 0) :: st) m := e_1 d67_11 (Or.inl rfl) (by rw [xi, pA, show lk fdL (mt 67).2.2.1 229 = some (4, 0) by decide +kernel]; rfl)
theorem d67_14 : decode (mt 67).2.1 14 = .ok (.iconst 3, 1) := by decide +kernel
theorem s67_14 {ls : LV} {st : List AV} {m : MM} : go 67 14 ls st m = go 67 15 ls (.inl 3 :: st) m := e_1 d67_14 (Or.inl rfl) rfl
theorem d67_15 : decode (mt 67).2.1 15 = .ok (.if_icmp .eq 15, 3) := by decide +kernel
theorem s67_15 {ls : LV} {st : List AV} {m : MM} {a b : Int32} : go 67 15 ls (.inl b :: .inl a :: st) m = if a = b then go 67 30 ls st m else go 67 18 ls st m := e_if (t := 30) (b := hc .eq a b) d67_15 (Or.inl rfl) (by simp only [xi, pI, jm_some (t := 30) (show ((15 : Nat) : Int) + 15 = ((30 : Nat) : Int) by decide), Option.bind_some]) (by simp [hc])
theorem d67_18 : decode (mt 67).2.1 18 = .ok (.aload_n 1, 1) := by decide +kernel
theorem s67_18 {a0 : Option AV} {st : List AV} {m : MM} {x : Nat × Option Nat} : go 67 18 [a0, some (.inr (.inr x))] st m = go 67 19 [a0, some (.inr (.inr x))] (.inr (.inr x) :: st) m := e_1 d67_18 (Or.inl rfl) rfl
theorem d67_19 : decode (mt 67).2.1 19 = .ok (.getfield 229, 3) := by decide +kernel
theorem s67_19 {ls : LV} {st : List AV} {m : MM} {n : Nat} : go 67 19 ls (.inr (.inr (4, some n)) :: st) m = go 67 22 ls (.inl (mI m 4 n 0) :: st) m := e_1 d67_19 (Or.inl rfl) (by rw [xi, pA, show lk fdL (mt 67).2.2.1 229 = some (4, 0) by decide +kernel]; rfl)
theorem d67_22 : decode (mt 67).2.1 22 = .ok (.iconst 4, 1) := by decide +kernel
theorem s67_22 {ls : LV} {st : List AV} {m : MM} : go 67 22 ls st m = go 67 23 ls (.inl 4 :: st) m := e_1 d67_22 (Or.inl rfl) rfl
theorem d67_23 : decode (mt 67).2.1 23 = .ok (.if_icmp .eq 7, 3) := by decide +kernel
theorem s67_23 {ls : LV} {st : List AV} {m : MM} {a b : Int32} : go 67 23 ls (.inl b :: .inl a :: st) m = if a = b then go 67 30 ls st m else go 67 26 ls st m := e_if (t := 30) (b := hc .eq a b) d67_23 (Or.inl rfl) (by simp only [xi, pI, jm_some (t := 30) (show ((23 : Nat) : Int) + 7 = ((30 : Nat) : Int) by decide), Option.bind_some]) (by simp [hc])
theorem d67_26 : decode (mt 67).2.1 26 = .ok (.iconst 1, 1) := by decide +kernel
theorem s67_26 {ls : LV} {st : List AV} {m : MM} : go 67 26 ls st m = go 67 27 ls (.inl 1 :: st) m := e_1 d67_26 (Or.inl rfl) rfl
theorem d67_27 : decode (mt 67).2.1 27 = .ok (.goto 4, 3) := by decide +kernel
theorem s67_27 {ls : LV} {st : List AV} {m : MM} : go 67 27 ls st m = go 67 31 ls st m := e_1 d67_27 (Or.inl rfl) (by rw [xi, jm_some (t := 31) (by decide)]; rfl)
theorem d67_30 : decode (mt 67).2.1 30 = .ok (.iconst 0, 1) := by decide +kernel
theorem s67_30 {ls : LV} {st : List AV} {m : MM} : go 67 30 ls st m = go 67 31 ls (.inl 0 :: st) m := e_1 d67_30 (Or.inl rfl) rfl
theorem d67_31 : decode (mt 67).2.1 31 = .ok (.ireturn, 1) := by decide +kernel
theorem s67_31b0 {ls : LV} {m : MM} : go 67 31 ls [.inl 0] m = some (some (.inl 0), m) := e_bool d67_31 (by decide +kernel) (by decide)
theorem s67_31b1 {ls : LV} {m : MM} : go 67 31 ls [.inl 1] m = some (some (.inl 1), m) := e_bool d67_31 (by decide +kernel) (by decide)
/-! X6_firstToTake: 68 -/
theorem d68_0 : decode (mt 68).2.1 0 = .ok (.iconst 0, 1) := by decide +kernel
theorem s68_0 {ls : LV} {st : List AV} {m : MM} : go 68 0 ls st m = go 68 1 ls (.inl 0 :: st) m := e_1 d68_0 (Or.inl rfl) rfl
theorem d68_1 : decode (mt 68).2.1 1 = .ok (.istore_n 1, 1) := by decide +kernel
theorem s68_1i {a1 : Option AV} {z : Int32} {st : List AV} {m : MM} {x : Int32} : go 68 1 [some (.inl z), a1] (.inl x :: st) m = go 68 2 [some (.inl z), some (.inl x)] st m := e_1 d68_1 (Or.inl rfl) rfl
theorem s68_1r {a1 : Option AV} {z : Nat × Option Nat} {st : List AV} {m : MM} {x : Int32} : go 68 1 [some (.inr (.inr z)), a1] (.inl x :: st) m = go 68 2 [some (.inr (.inr z)), some (.inl x)] st m := e_1 d68_1 (Or.inl rfl) rfl
theorem s68_1n {a1 : Option AV} {st : List AV} {m : MM} {x : Int32} : go 68 1 [none, a1] (.inl x :: st) m = go 68 2 [none, some (.inl x)] st m := e_1 d68_1 (Or.inl rfl) rfl
theorem d68_2 : decode (mt 68).2.1 2 = .ok (.iload_n 1, 1) := by decide +kernel
theorem s68_2 {a0 : Option AV} {st : List AV} {m : MM} {x : Int32} : go 68 2 [a0, some (.inl x)] st m = go 68 3 [a0, some (.inl x)] (.inl x :: st) m := e_1 d68_2 (Or.inl rfl) rfl
theorem d68_3 : decode (mt 68).2.1 3 = .ok (.aload_n 0, 1) := by decide +kernel
theorem s68_3 {a1 : Option AV} {st : List AV} {m : MM} {x : Nat × Option Nat} : go 68 3 [some (.inr (.inr x)), a1] st m = go 68 4 [some (.inr (.inr x)), a1] (.inr (.inr x) :: st) m := e_1 d68_3 (Or.inl rfl) rfl
theorem d68_4 : decode (mt 68).2.1 4 = .ok (.getfield 28, 3) := by decide +kernel
theorem s68_4 {ls : LV} {st : List AV} {m : MM} {n : Nat} : go 68 4 ls (.inr (.inr (7, some n)) :: st) m = go 68 7 ls (.inr (.inr (3, mR m 7 n 6)) :: st) m := e_1 d68_4 (Or.inl rfl) (by rw [xi, pA, show lk fdL (mt 68).2.2.1 28 = some (7, 6) by decide +kernel]; rfl)
theorem d68_7 : decode (mt 68).2.1 7 = .ok (.getfield 243, 3) := by decide +kernel
theorem s68_7 {ls : LV} {st : List AV} {m : MM} {n : Nat} : go 68 7 ls (.inr (.inr (3, some n)) :: st) m = go 68 10 ls (.inl (mI m 3 n 1) :: st) m := e_1 d68_7 (Or.inl rfl) (by rw [xi, pA, show lk fdL (mt 68).2.2.1 243 = some (3, 1) by decide +kernel]; rfl)
theorem d68_10 : decode (mt 68).2.1 10 = .ok (.if_icmp .ge 27, 3) := by decide +kernel
theorem s68_10 {ls : LV} {st : List AV} {m : MM} {a b : Int32} : go 68 10 ls (.inl b :: .inl a :: st) m = if b ≤ a then go 68 37 ls st m else go 68 13 ls st m := e_if (t := 37) (b := hc .ge a b) d68_10 (Or.inl rfl) (by simp only [xi, pI, jm_some (t := 37) (show ((10 : Nat) : Int) + 27 = ((37 : Nat) : Int) by decide), Option.bind_some]) (by simp [hc])
theorem d68_13 : decode (mt 68).2.1 13 = .ok (.aload_n 0, 1) := by decide +kernel
theorem s68_13 {a1 : Option AV} {st : List AV} {m : MM} {x : Nat × Option Nat} : go 68 13 [some (.inr (.inr x)), a1] st m = go 68 14 [some (.inr (.inr x)), a1] (.inr (.inr x) :: st) m := e_1 d68_13 (Or.inl rfl) rfl
theorem d68_14 : decode (mt 68).2.1 14 = .ok (.aload_n 0, 1) := by decide +kernel
theorem s68_14 {a1 : Option AV} {st : List AV} {m : MM} {x : Nat × Option Nat} : go 68 14 [some (.inr (.inr x)), a1] st m = go 68 15 [some (.inr (.inr x)), a1] (.inr (.inr x) :: st) m := e_1 d68_14 (Or.inl rfl) rfl
theorem d68_15 : decode (mt 68).2.1 15 = .ok (.getfield 28, 3) := by decide +kernel
theorem s68_15 {ls : LV} {st : List AV} {m : MM} {n : Nat} : go 68 15 ls (.inr (.inr (7, some n)) :: st) m = go 68 18 ls (.inr (.inr (3, mR m 7 n 6)) :: st) m := e_1 d68_15 (Or.inl rfl) (by rw [xi, pA, show lk fdL (mt 68).2.2.1 28 = some (7, 6) by decide +kernel]; rfl)
theorem d68_18 : decode (mt 68).2.1 18 = .ok (.getfield 244, 3) := by decide +kernel
theorem s68_18 {ls : LV} {st : List AV} {m : MM} {n : Nat} : go 68 18 ls (.inr (.inr (3, some n)) :: st) m = go 68 21 ls (.inr (.inr (11, mR m 3 n 0)) :: st) m := e_1 d68_18 (Or.inl rfl) (by rw [xi, pA, show lk fdL (mt 68).2.2.1 244 = some (3, 0) by decide +kernel]; rfl)
theorem d68_21 : decode (mt 68).2.1 21 = .ok (.iload_n 1, 1) := by decide +kernel
theorem s68_21 {a0 : Option AV} {st : List AV} {m : MM} {x : Int32} : go 68 21 [a0, some (.inl x)] st m = go 68 22 [a0, some (.inl x)] (.inl x :: st) m := e_1 d68_21 (Or.inl rfl) rfl
theorem d68_22 : decode (mt 68).2.1 22 = .ok (.aaload, 1) := by decide +kernel
theorem s68_22 {ls : LV} {st : List AV} {m : MM} {n : Nat} {i : Int32} : go 68 22 ls (.inl i :: .inr (.inr (11, some n)) :: st) m = ixk (ix i (mN m 11 n)) (fun j => go 68 23 ls (.inr (.inr (4, mR m 11 n j)) :: st) m) := e_ald d68_22 (fun j hj => by simp only [xi, pI, pA, hj, Option.bind_some]; rfl) (fun hj => by simp only [xi, pI, pA, hj, Option.bind_none])
theorem d68_23 : decode (mt 68).2.1 23 = .ok (.invokevirtual 218, 3) := by decide +kernel
theorem s68_23 {ls : LV} {m : MM} {x0 : Nat × Option Nat} {n : Nat} : go 68 23 ls [.inr (.inr x0), .inr (.inr (7, some n))] m = bd (go 67 0 [some (.inr (.inr (7, some n))), some (.inr (.inr x0))] [] m) (fun v m2 => go 68 26 ls (v.toList ++ []) m2) := e_virt (y1 := 67) (na := 1) (as := [.inr (.inr x0)]) (rest := []) d68_23 (by decide +kernel) rfl (by decide +kernel) (show (ent [.inr (.inr (7, some n)), .inr (.inr x0)]).length ≤ (mt 67).2.2.2.1 from Nat.le_of_ble_eq_true rfl) (cats_le (Nat.le_of_ble_eq_true rfl)) (by decide +kernel)
theorem d68_26 : decode (mt 68).2.1 26 = .ok (.ifCond .eq 5, 3) := by decide +kernel
theorem s68_26 {ls : LV} {st : List AV} {m : MM} {a : Int32} : go 68 26 ls (.inl a :: st) m = if a = 0 then go 68 31 ls st m else go 68 29 ls st m := e_if (t := 31) (b := hc .eq a 0) d68_26 (Or.inl rfl) (by simp only [xi, pI, jm_some (t := 31) (show ((26 : Nat) : Int) + 5 = ((31 : Nat) : Int) by decide), Option.bind_some]) (by simp [hc])
theorem d68_29 : decode (mt 68).2.1 29 = .ok (.iload_n 1, 1) := by decide +kernel
theorem s68_29 {a0 : Option AV} {st : List AV} {m : MM} {x : Int32} : go 68 29 [a0, some (.inl x)] st m = go 68 30 [a0, some (.inl x)] (.inl x :: st) m := e_1 d68_29 (Or.inl rfl) rfl
theorem d68_30 : decode (mt 68).2.1 30 = .ok (.ireturn, 1) := by decide +kernel
theorem s68_30 {ls : LV} {m : MM} {x : Int32} : go 68 30 ls [.inl x] m = some (some (.inl x), m) := e_int d68_30 (by decide +kernel)
theorem d68_31 : decode (mt 68).2.1 31 = .ok (.iinc 1 1, 3) := by decide +kernel
theorem s68_31i {z : Int32} {st : List AV} {m : MM} {x : Int32} : go 68 31 [some (.inl z), some (.inl x)] st m = go 68 34 [some (.inl z), some (.inl (x + 1))] st m := e_1 d68_31 (Or.inl rfl) rfl
theorem s68_31r {z : Nat × Option Nat} {st : List AV} {m : MM} {x : Int32} : go 68 31 [some (.inr (.inr z)), some (.inl x)] st m = go 68 34 [some (.inr (.inr z)), some (.inl (x + 1))] st m := e_1 d68_31 (Or.inl rfl) rfl
theorem s68_31n {st : List AV} {m : MM} {x : Int32} : go 68 31 [none, some (.inl x)] st m = go 68 34 [none, some (.inl (x + 1))] st m := e_1 d68_31 (Or.inl rfl) rfl
theorem d68_34 : decode (mt 68).2.1 34 = .ok (.goto (-32), 3) := by decide +kernel
theorem s68_34 {ls : LV} {st : List AV} {m : MM} : go 68 34 ls st m = go 68 2 ls st m := e_1 d68_34 (Or.inl rfl) (by rw [xi, jm_some (t := 2) (by decide)]; rfl)
theorem d68_37 : decode (mt 68).2.1 37 = .ok (.bipush (-4), 2) := by decide +kernel
theorem s68_37 {ls : LV} {st : List AV} {m : MM} : go 68 37 ls st m = go 68 39 ls (.inl (-4) :: st) m := e_1 d68_37 (Or.inl rfl) rfl
theorem d68_39 : decode (mt 68).2.1 39 = .ok (.ireturn, 1) := by decide +kernel
theorem s68_39 {ls : LV} {m : MM} {x : Int32} : go 68 39 ls [.inl x] m = some (some (.inl x), m) := e_int d68_39 (by decide +kernel)
/-! X6_take: 69 -/
theorem d69_0 : decode (mt 69).2.1 0 = .ok (.aload_n 0, 1) := by decide +kernel
theorem s69_0 {a1 a2 : Option AV} {st : List AV} {m : MM} {x : Nat × Option Nat} : go 69 0 [some (.inr (.inr x)), a1, a2] st m = go 69 1 [some (.inr (.inr x)), a1, a2] (.inr (.inr x) :: st) m := e_1 d69_0 (Or.inl rfl) rfl
theorem d69_1 : decode (mt 69).2.1 1 = .ok (.getfield 28, 3) := by decide +kernel
theorem s69_1 {ls : LV} {st : List AV} {m : MM} {n : Nat} : go 69 1 ls (.inr (.inr (7, some n)) :: st) m = go 69 4 ls (.inr (.inr (3, mR m 7 n 6)) :: st) m := e_1 d69_1 (Or.inl rfl) (by rw [xi, pA, show lk fdL (mt 69).2.2.1 28 = some (7, 6) by decide +kernel]; rfl)
theorem d69_4 : decode (mt 69).2.1 4 = .ok (.iload_n 1, 1) := by decide +kernel
theorem s69_4 {a0 a2 : Option AV} {st : List AV} {m : MM} {x : Int32} : go 69 4 [a0, some (.inl x), a2] st m = go 69 5 [a0, some (.inl x), a2] (.inl x :: st) m := e_1 d69_4 (Or.inl rfl) rfl
theorem d69_5 : decode (mt 69).2.1 5 = .ok (.invokevirtual 248, 3) := by decide +kernel
theorem s69_5 {ls : LV} {m : MM} {x0 : Int32} {n : Nat} : go 69 5 ls [.inl x0, .inr (.inr (3, some n))] m = bd (go 13 0 [some (.inr (.inr (3, some n))), some (.inl x0), none, none] [] m) (fun v m2 => go 69 8 ls (v.toList ++ []) m2) := e_virt (y1 := 13) (na := 1) (as := [.inl x0]) (rest := []) d69_5 (by decide +kernel) rfl (by decide +kernel) (show (ent [.inr (.inr (3, some n)), .inl x0]).length ≤ (mt 13).2.2.2.1 from Nat.le_of_ble_eq_true rfl) (cats_le (Nat.le_of_ble_eq_true rfl)) (by decide +kernel)
theorem d69_8 : decode (mt 69).2.1 8 = .ok (.astore_n 2, 1) := by decide +kernel
theorem s69_8i {a0 a2 : Option AV} {z : Int32} {st : List AV} {m : MM} {x : Nat × Option Nat} : go 69 8 [a0, some (.inl z), a2] (.inr (.inr x) :: st) m = go 69 9 [a0, some (.inl z), some (.inr (.inr x))] st m := e_1 d69_8 (Or.inl rfl) rfl
theorem s69_8r {a0 a2 : Option AV} {z : Nat × Option Nat} {st : List AV} {m : MM} {x : Nat × Option Nat} : go 69 8 [a0, some (.inr (.inr z)), a2] (.inr (.inr x) :: st) m = go 69 9 [a0, some (.inr (.inr z)), some (.inr (.inr x))] st m := e_1 d69_8 (Or.inl rfl) rfl
theorem s69_8n {a0 a2 : Option AV} {st : List AV} {m : MM} {x : Nat × Option Nat} : go 69 8 [a0, none, a2] (.inr (.inr x) :: st) m = go 69 9 [a0, none, some (.inr (.inr x))] st m := e_1 d69_8 (Or.inl rfl) rfl
theorem d69_9 : decode (mt 69).2.1 9 = .ok (.aload_n 2, 1) := by decide +kernel
theorem s69_9 {a0 a1 : Option AV} {st : List AV} {m : MM} {x : Nat × Option Nat} : go 69 9 [a0, a1, some (.inr (.inr x))] st m = go 69 10 [a0, a1, some (.inr (.inr x))] (.inr (.inr x) :: st) m := e_1 d69_9 (Or.inl rfl) rfl
theorem d69_10 : decode (mt 69).2.1 10 = .ok (.ifnonnull 5, 3) := by decide +kernel
theorem s69_10n {u : Nat} {ls : LV} {st : List AV} {m : MM} : go 69 10 ls (.inr (.inr (u, none)) :: st) m = go 69 13 ls st m := e_1 d69_10 (Or.inl rfl) (by rw [xi, jm_some (t := 15) (by decide)]; rfl)
theorem s69_10s {u n : Nat} {ls : LV} {st : List AV} {m : MM} : go 69 10 ls (.inr (.inr (u, some n)) :: st) m = go 69 15 ls st m := e_1 d69_10 (Or.inl rfl) (by rw [xi, jm_some (t := 15) (by decide)]; rfl)
theorem d69_13 : decode (mt 69).2.1 13 = .ok (.iconst (-1), 1) := by decide +kernel
theorem s69_13 {ls : LV} {st : List AV} {m : MM} : go 69 13 ls st m = go 69 14 ls (.inl (-1) :: st) m := e_1 d69_13 (Or.inl rfl) rfl
theorem d69_14 : decode (mt 69).2.1 14 = .ok (.ireturn, 1) := by decide +kernel
theorem s69_14 {ls : LV} {m : MM} {x : Int32} : go 69 14 ls [.inl x] m = some (some (.inl x), m) := e_int d69_14 (by decide +kernel)
theorem d69_15 : decode (mt 69).2.1 15 = .ok (.aload_n 2, 1) := by decide +kernel
theorem s69_15 {a0 a1 : Option AV} {st : List AV} {m : MM} {x : Nat × Option Nat} : go 69 15 [a0, a1, some (.inr (.inr x))] st m = go 69 16 [a0, a1, some (.inr (.inr x))] (.inr (.inr x) :: st) m := e_1 d69_15 (Or.inl rfl) rfl
theorem d69_16 : decode (mt 69).2.1 16 = .ok (.getfield 232, 3) := by decide +kernel
theorem s69_16 {ls : LV} {st : List AV} {m : MM} {n : Nat} : go 69 16 ls (.inr (.inr (4, some n)) :: st) m = go 69 19 ls (.inr (.inr (6, mR m 4 n 1)) :: st) m := e_1 d69_16 (Or.inl rfl) (by rw [xi, pA, show lk fdL (mt 69).2.2.1 232 = some (4, 1) by decide +kernel]; rfl)
theorem d69_19 : decode (mt 69).2.1 19 = .ok (.dup, 1) := by decide +kernel
theorem s69_19 {ls : LV} {st : List AV} {m : MM} {x : Nat × Option Nat} : go 69 19 ls (.inr (.inr x) :: st) m = go 69 20 ls (.inr (.inr x) :: .inr (.inr x) :: st) m := e_1 d69_19 (Or.inl rfl) rfl
theorem d69_20 : decode (mt 69).2.1 20 = .ok (.getfield 251, 3) := by decide +kernel
theorem s69_20 {ls : LV} {st : List AV} {m : MM} {n : Nat} : go 69 20 ls (.inr (.inr (6, some n)) :: st) m = go 69 23 ls (.inl (mI m 6 n 4) :: st) m := e_1 d69_20 (Or.inl rfl) (by rw [xi, pA, show lk fdL (mt 69).2.2.1 251 = some (6, 4) by decide +kernel]; rfl)
theorem d69_23 : decode (mt 69).2.1 23 = .ok (.iconst 1, 1) := by decide +kernel
theorem s69_23 {ls : LV} {st : List AV} {m : MM} : go 69 23 ls st m = go 69 24 ls (.inl 1 :: st) m := e_1 d69_23 (Or.inl rfl) rfl
theorem d69_24 : decode (mt 69).2.1 24 = .ok (.iadd, 1) := by decide +kernel
theorem s69_24 {ls : LV} {st : List AV} {m : MM} {a b : Int32} : go 69 24 ls (.inl b :: .inl a :: st) m = go 69 25 ls (.inl (a + b) :: st) m := e_1 d69_24 (Or.inl rfl) rfl
theorem d69_25 : decode (mt 69).2.1 25 = .ok (.putfield 251, 3) := by decide +kernel
theorem s69_25 {ls : LV} {st : List AV} {m : MM} {n : Nat} {x : Int32} : go 69 25 ls (.inl x :: .inr (.inr (6, some n)) :: st) m = go 69 28 ls st (sI m 6 n 4 x) := e_put (r := 6) (f := 4) d69_25 (by decide +kernel) rfl (by decide +kernel)
theorem d69_28 : decode (mt 69).2.1 28 = .ok (.aload_n 2, 1) := by decide +kernel
theorem s69_28 {a0 a1 : Option AV} {st : List AV} {m : MM} {x : Nat × Option Nat} : go 69 28 [a0, a1, some (.inr (.inr x))] st m = go 69 29 [a0, a1, some (.inr (.inr x))] (.inr (.inr x) :: st) m := e_1 d69_28 (Or.inl rfl) rfl
theorem d69_29 : decode (mt 69).2.1 29 = .ok (.getfield 236, 3) := by decide +kernel
theorem s69_29 {ls : LV} {st : List AV} {m : MM} {n : Nat} : go 69 29 ls (.inr (.inr (4, some n)) :: st) m = go 69 32 ls (.inr (.inr (1, mR m 4 n 2)) :: st) m := e_1 d69_29 (Or.inl rfl) (by rw [xi, pA, show lk fdL (mt 69).2.2.1 236 = some (4, 2) by decide +kernel]; rfl)
theorem d69_32 : decode (mt 69).2.1 32 = .ok (.ifnull 18, 3) := by decide +kernel
theorem s69_32n {u : Nat} {ls : LV} {st : List AV} {m : MM} : go 69 32 ls (.inr (.inr (u, none)) :: st) m = go 69 50 ls st m := e_1 d69_32 (Or.inl rfl) (by rw [xi, jm_some (t := 50) (by decide)]; rfl)
theorem s69_32s {u n : Nat} {ls : LV} {st : List AV} {m : MM} : go 69 32 ls (.inr (.inr (u, some n)) :: st) m = go 69 35 ls st m := e_1 d69_32 (Or.inl rfl) (by rw [xi, jm_some (t := 50) (by decide)]; rfl)
theorem d69_35 : decode (mt 69).2.1 35 = .ok (.aload_n 0, 1) := by decide +kernel
theorem s69_35 {a1 a2 : Option AV} {st : List AV} {m : MM} {x : Nat × Option Nat} : go 69 35 [some (.inr (.inr x)), a1, a2] st m = go 69 36 [some (.inr (.inr x)), a1, a2] (.inr (.inr x) :: st) m := e_1 d69_35 (Or.inl rfl) rfl
theorem d69_36 : decode (mt 69).2.1 36 = .ok (.aload_n 2, 1) := by decide +kernel
theorem s69_36 {a0 a1 : Option AV} {st : List AV} {m : MM} {x : Nat × Option Nat} : go 69 36 [a0, a1, some (.inr (.inr x))] st m = go 69 37 [a0, a1, some (.inr (.inr x))] (.inr (.inr x) :: st) m := e_1 d69_36 (Or.inl rfl) rfl
theorem d69_37 : decode (mt 69).2.1 37 = .ok (.getfield 236, 3) := by decide +kernel
theorem s69_37 {ls : LV} {st : List AV} {m : MM} {n : Nat} : go 69 37 ls (.inr (.inr (4, some n)) :: st) m = go 69 40 ls (.inr (.inr (1, mR m 4 n 2)) :: st) m := e_1 d69_37 (Or.inl rfl) (by rw [xi, pA, show lk fdL (mt 69).2.2.1 236 = some (4, 2) by decide +kernel]; rfl)
theorem d69_40 : decode (mt 69).2.1 40 = .ok (.aload_n 2, 1) := by decide +kernel
theorem s69_40 {a0 a1 : Option AV} {st : List AV} {m : MM} {x : Nat × Option Nat} : go 69 40 [a0, a1, some (.inr (.inr x))] st m = go 69 41 [a0, a1, some (.inr (.inr x))] (.inr (.inr x) :: st) m := e_1 d69_40 (Or.inl rfl) rfl
theorem d69_41 : decode (mt 69).2.1 41 = .ok (.getfield 232, 3) := by decide +kernel
theorem s69_41 {ls : LV} {st : List AV} {m : MM} {n : Nat} : go 69 41 ls (.inr (.inr (4, some n)) :: st) m = go 69 44 ls (.inr (.inr (6, mR m 4 n 1)) :: st) m := e_1 d69_41 (Or.inl rfl) (by rw [xi, pA, show lk fdL (mt 69).2.2.1 232 = some (4, 1) by decide +kernel]; rfl)
theorem d69_44 : decode (mt 69).2.1 44 = .ok (.invokevirtual 254, 3) := by decide +kernel
theorem s69_44 {ls : LV} {m : MM} {x0 : Nat × Option Nat} {x1 : Nat × Option Nat} {n : Nat} : go 69 44 ls [.inr (.inr x1), .inr (.inr x0), .inr (.inr (7, some n))] m = bd (go 70 0 [some (.inr (.inr (7, some n))), some (.inr (.inr x0)), some (.inr (.inr x1)), none] [] m) (fun v m2 => go 69 47 ls (v.toList ++ []) m2) := e_virt (y1 := 70) (na := 2) (as := [.inr (.inr x0), .inr (.inr x1)]) (rest := []) d69_44 (by decide +kernel) rfl (by decide +kernel) (show (ent [.inr (.inr (7, some n)), .inr (.inr x0), .inr (.inr x1)]).length ≤ (mt 70).2.2.2.1 from Nat.le_of_ble_eq_true rfl) (cats_le (Nat.le_of_ble_eq_true rfl)) (by decide +kernel)
theorem d69_47 : decode (mt 69).2.1 47 = .ok (.goto 12, 3) := by decide +kernel
theorem s69_47 {ls : LV} {st : List AV} {m : MM} : go 69 47 ls st m = go 69 59 ls st m := e_1 d69_47 (Or.inl rfl) (by rw [xi, jm_some (t := 59) (by decide)]; rfl)
theorem d69_50 : decode (mt 69).2.1 50 = .ok (.aload_n 0, 1) := by decide +kernel
theorem s69_50 {a1 a2 : Option AV} {st : List AV} {m : MM} {x : Nat × Option Nat} : go 69 50 [some (.inr (.inr x)), a1, a2] st m = go 69 51 [some (.inr (.inr x)), a1, a2] (.inr (.inr x) :: st) m := e_1 d69_50 (Or.inl rfl) rfl
theorem d69_51 : decode (mt 69).2.1 51 = .ok (.aload_n 2, 1) := by decide +kernel
theorem s69_51 {a0 a1 : Option AV} {st : List AV} {m : MM} {x : Nat × Option Nat} : go 69 51 [a0, a1, some (.inr (.inr x))] st m = go 69 52 [a0, a1, some (.inr (.inr x))] (.inr (.inr x) :: st) m := e_1 d69_51 (Or.inl rfl) rfl
theorem d69_52 : decode (mt 69).2.1 52 = .ok (.invokevirtual 257, 3) := by decide +kernel
theorem s69_52 {ls : LV} {m : MM} {x0 : Nat × Option Nat} {n : Nat} : go 69 52 ls [.inr (.inr x0), .inr (.inr (7, some n))] m = bd (go 74 0 [some (.inr (.inr (7, some n))), some (.inr (.inr x0)), none] [] m) (fun v m2 => go 69 55 ls (v.toList ++ []) m2) := e_virt (y1 := 74) (na := 1) (as := [.inr (.inr x0)]) (rest := []) d69_52 (by decide +kernel) rfl (by decide +kernel) (show (ent [.inr (.inr (7, some n)), .inr (.inr x0)]).length ≤ (mt 74).2.2.2.1 from Nat.le_of_ble_eq_true rfl) (cats_le (Nat.le_of_ble_eq_true rfl)) (by decide +kernel)
theorem d69_55 : decode (mt 69).2.1 55 = .ok (.aload_n 0, 1) := by decide +kernel
theorem s69_55 {a1 a2 : Option AV} {st : List AV} {m : MM} {x : Nat × Option Nat} : go 69 55 [some (.inr (.inr x)), a1, a2] st m = go 69 56 [some (.inr (.inr x)), a1, a2] (.inr (.inr x) :: st) m := e_1 d69_55 (Or.inl rfl) rfl
theorem d69_56 : decode (mt 69).2.1 56 = .ok (.invokevirtual 95, 3) := by decide +kernel
theorem s69_56 {ls : LV} {m : MM} {n : Nat} : go 69 56 ls [.inr (.inr (7, some n))] m = bd (go 51 0 [some (.inr (.inr (7, some n)))] [] m) (fun v m2 => go 69 59 ls (v.toList ++ []) m2) := e_virt (y1 := 51) (na := 0) (as := []) (rest := []) d69_56 (by decide +kernel) rfl (by decide +kernel) (show (ent [.inr (.inr (7, some n))]).length ≤ (mt 51).2.2.2.1 from Nat.le_of_ble_eq_true rfl) (cats_le (Nat.le_of_ble_eq_true rfl)) (by decide +kernel)
theorem d69_59 : decode (mt 69).2.1 59 = .ok (.aload_n 2, 1) := by decide +kernel
theorem s69_59 {a0 a1 : Option AV} {st : List AV} {m : MM} {x : Nat × Option Nat} : go 69 59 [a0, a1, some (.inr (.inr x))] st m = go 69 60 [a0, a1, some (.inr (.inr x))] (.inr (.inr x) :: st) m := e_1 d69_59 (Or.inl rfl) rfl
theorem d69_60 : decode (mt 69).2.1 60 = .ok (.getfield 229, 3) := by decide +kernel
theorem s69_60 {ls : LV} {st : List AV} {m : MM} {n : Nat} : go 69 60 ls (.inr (.inr (4, some n)) :: st) m = go 69 63 ls (.inl (mI m 4 n 0) :: st) m := e_1 d69_60 (Or.inl rfl) (by rw [xi, pA, show lk fdL (mt 69).2.2.1 229 = some (4, 0) by decide +kernel]; rfl)
theorem d69_63 : decode (mt 69).2.1 63 = .ok (.ireturn, 1) := by decide +kernel
theorem s69_63 {ls : LV} {m : MM} {x : Int32} : go 69 63 ls [.inl x] m = some (some (.inl x), m) := e_int d69_63 (by decide +kernel)
/-! X6_askComes: 70 -/
theorem d70_0 : decode (mt 70).2.1 0 = .ok (.aload_n 1, 1) := by decide +kernel
theorem s70_0 {a0 a2 a3 : Option AV} {st : List AV} {m : MM} {x : Nat × Option Nat} : go 70 0 [a0, some (.inr (.inr x)), a2, a3] st m = go 70 1 [a0, some (.inr (.inr x)), a2, a3] (.inr (.inr x) :: st) m := e_1 d70_0 (Or.inl rfl) rfl
theorem d70_1 : decode (mt 70).2.1 1 = .ok (.aload_n 2, 1) := by decide +kernel
theorem s70_1 {a0 a1 a3 : Option AV} {st : List AV} {m : MM} {x : Nat × Option Nat} : go 70 1 [a0, a1, some (.inr (.inr x)), a3] st m = go 70 2 [a0, a1, some (.inr (.inr x)), a3] (.inr (.inr x) :: st) m := e_1 d70_1 (Or.inl rfl) rfl
theorem d70_2 : decode (mt 70).2.1 2 = .ok (.invokevirtual 261, 3) := by decide +kernel
theorem s70_2 {ls : LV} {m : MM} {x0 : Nat × Option Nat} {n : Nat} : go 70 2 ls [.inr (.inr x0), .inr (.inr (1, some n))] m = bd (go 1 0 [some (.inr (.inr (1, some n))), some (.inr (.inr x0))] [] m) (fun v m2 => go 70 5 ls (v.toList ++ []) m2) := e_virt (y1 := 1) (na := 1) (as := [.inr (.inr x0)]) (rest := []) d70_2 (by decide +kernel) rfl (by decide +kernel) (show (ent [.inr (.inr (1, some n)), .inr (.inr x0)]).length ≤ (mt 1).2.2.2.1 from Nat.le_of_ble_eq_true rfl) (cats_le (Nat.le_of_ble_eq_true rfl)) (by decide +kernel)
theorem d70_5 : decode (mt 70).2.1 5 = .ok (.aload_n 2, 1) := by decide +kernel
theorem s70_5 {a0 a1 a3 : Option AV} {st : List AV} {m : MM} {x : Nat × Option Nat} : go 70 5 [a0, a1, some (.inr (.inr x)), a3] st m = go 70 6 [a0, a1, some (.inr (.inr x)), a3] (.inr (.inr x) :: st) m := e_1 d70_5 (Or.inl rfl) rfl
theorem d70_6 : decode (mt 70).2.1 6 = .ok (.invokevirtual 264, 3) := by decide +kernel
theorem s70_6 {ls : LV} {m : MM} {n : Nat} : go 70 6 ls [.inr (.inr (6, some n))] m = bd (go 23 0 [some (.inr (.inr (6, some n)))] [] m) (fun v m2 => go 70 9 ls (v.toList ++ []) m2) := e_virt (y1 := 23) (na := 0) (as := []) (rest := []) d70_6 (by decide +kernel) rfl (by decide +kernel) (show (ent [.inr (.inr (6, some n))]).length ≤ (mt 23).2.2.2.1 from Nat.le_of_ble_eq_true rfl) (cats_le (Nat.le_of_ble_eq_true rfl)) (by decide +kernel)
theorem d70_9 : decode (mt 70).2.1 9 = .ok (.ifCond .ne 10, 3) := by decide +kernel
theorem s70_9 {ls : LV} {st : List AV} {m : MM} {a : Int32} : go 70 9 ls (.inl a :: st) m = if ¬ a = 0 then go 70 19 ls st m else go 70 12 ls st m := e_if (t := 19) (b := hc .ne a 0) d70_9 (Or.inl rfl) (by simp only [xi, pI, jm_some (t := 19) (show ((9 : Nat) : Int) + 10 = ((19 : Nat) : Int) by decide), Option.bind_some]) (by simp [hc])
theorem d70_12 : decode (mt 70).2.1 12 = .ok (.aload_n 1, 1) := by decide +kernel
theorem s70_12 {a0 a2 a3 : Option AV} {st : List AV} {m : MM} {x : Nat × Option Nat} : go 70 12 [a0, some (.inr (.inr x)), a2, a3] st m = go 70 13 [a0, some (.inr (.inr x)), a2, a3] (.inr (.inr x) :: st) m := e_1 d70_12 (Or.inl rfl) rfl
theorem d70_13 : decode (mt 70).2.1 13 = .ok (.getfield 267, 3) := by decide +kernel
theorem s70_13 {ls : LV} {st : List AV} {m : MM} {n : Nat} : go 70 13 ls (.inr (.inr (1, some n)) :: st) m = go 70 16 ls (.inl (mI m 1 n 5) :: st) m := e_1 d70_13 (Or.inl rfl) (by rw [xi, pA, show lk fdL (mt 70).2.2.1 267 = some (1, 5) by decide +kernel]; rfl)
theorem d70_16 : decode (mt 70).2.1 16 = .ok (.ifCond .ne 14, 3) := by decide +kernel
theorem s70_16 {ls : LV} {st : List AV} {m : MM} {a : Int32} : go 70 16 ls (.inl a :: st) m = if ¬ a = 0 then go 70 30 ls st m else go 70 19 ls st m := e_if (t := 30) (b := hc .ne a 0) d70_16 (Or.inl rfl) (by simp only [xi, pI, jm_some (t := 30) (show ((16 : Nat) : Int) + 14 = ((30 : Nat) : Int) by decide), Option.bind_some]) (by simp [hc])
theorem d70_19 : decode (mt 70).2.1 19 = .ok (.aload_n 2, 1) := by decide +kernel
theorem s70_19 {a0 a1 a3 : Option AV} {st : List AV} {m : MM} {x : Nat × Option Nat} : go 70 19 [a0, a1, some (.inr (.inr x)), a3] st m = go 70 20 [a0, a1, some (.inr (.inr x)), a3] (.inr (.inr x) :: st) m := e_1 d70_19 (Or.inl rfl) rfl
theorem d70_20 : decode (mt 70).2.1 20 = .ok (.aload_n 1, 1) := by decide +kernel
theorem s70_20 {a0 a2 a3 : Option AV} {st : List AV} {m : MM} {x : Nat × Option Nat} : go 70 20 [a0, some (.inr (.inr x)), a2, a3] st m = go 70 21 [a0, some (.inr (.inr x)), a2, a3] (.inr (.inr x) :: st) m := e_1 d70_20 (Or.inl rfl) rfl
theorem d70_21 : decode (mt 70).2.1 21 = .ok (.getfield 270, 3) := by decide +kernel
theorem s70_21 {ls : LV} {st : List AV} {m : MM} {n : Nat} : go 70 21 ls (.inr (.inr (1, some n)) :: st) m = go 70 24 ls (.inl (mI m 1 n 2) :: st) m := e_1 d70_21 (Or.inl rfl) (by rw [xi, pA, show lk fdL (mt 70).2.2.1 270 = some (1, 2) by decide +kernel]; rfl)
theorem d70_24 : decode (mt 70).2.1 24 = .ok (.invokevirtual 273, 3) := by decide +kernel
theorem s70_24 {ls : LV} {m : MM} {x0 : Int32} {n : Nat} : go 70 24 ls [.inl x0, .inr (.inr (6, some n))] m = bd (go 36 0 [some (.inr (.inr (6, some n))), some (.inl x0), none, none, none] [] m) (fun v m2 => go 70 27 ls (v.toList ++ []) m2) := e_virt (y1 := 36) (na := 1) (as := [.inl x0]) (rest := []) d70_24 (by decide +kernel) rfl (by decide +kernel) (show (ent [.inr (.inr (6, some n)), .inl x0]).length ≤ (mt 36).2.2.2.1 from Nat.le_of_ble_eq_true rfl) (cats_le (Nat.le_of_ble_eq_true rfl)) (by decide +kernel)
theorem d70_27 : decode (mt 70).2.1 27 = .ok (.goto 4, 3) := by decide +kernel
theorem s70_27 {ls : LV} {st : List AV} {m : MM} : go 70 27 ls st m = go 70 31 ls st m := e_1 d70_27 (Or.inl rfl) (by rw [xi, jm_some (t := 31) (by decide)]; rfl)
theorem d70_30 : decode (mt 70).2.1 30 = .ok (.aconst_null, 1) := by decide +kernel
theorem s70_30 {ls : LV} {st : List AV} {m : MM} : go 70 30 ls st m = go 70 31 ls (.inr (.inr (0, none)) :: st) m := e_1 d70_30 (Or.inl rfl) rfl
theorem d70_31 : decode (mt 70).2.1 31 = .ok (.astore_n 3, 1) := by decide +kernel
theorem s70_31i {a0 a1 a3 : Option AV} {z : Int32} {st : List AV} {m : MM} {x : Nat × Option Nat} : go 70 31 [a0, a1, some (.inl z), a3] (.inr (.inr x) :: st) m = go 70 32 [a0, a1, some (.inl z), some (.inr (.inr x))] st m := e_1 d70_31 (Or.inl rfl) rfl
theorem s70_31r {a0 a1 a3 : Option AV} {z : Nat × Option Nat} {st : List AV} {m : MM} {x : Nat × Option Nat} : go 70 31 [a0, a1, some (.inr (.inr z)), a3] (.inr (.inr x) :: st) m = go 70 32 [a0, a1, some (.inr (.inr z)), some (.inr (.inr x))] st m := e_1 d70_31 (Or.inl rfl) rfl
theorem s70_31n {a0 a1 a3 : Option AV} {st : List AV} {m : MM} {x : Nat × Option Nat} : go 70 31 [a0, a1, none, a3] (.inr (.inr x) :: st) m = go 70 32 [a0, a1, none, some (.inr (.inr x))] st m := e_1 d70_31 (Or.inl rfl) rfl
theorem d70_32 : decode (mt 70).2.1 32 = .ok (.aload_n 3, 1) := by decide +kernel
theorem s70_32 {a0 a1 a2 : Option AV} {st : List AV} {m : MM} {x : Nat × Option Nat} : go 70 32 [a0, a1, a2, some (.inr (.inr x))] st m = go 70 33 [a0, a1, a2, some (.inr (.inr x))] (.inr (.inr x) :: st) m := e_1 d70_32 (Or.inl rfl) rfl
theorem d70_33 : decode (mt 70).2.1 33 = .ok (.ifnonnull 9, 3) := by decide +kernel
theorem s70_33n {u : Nat} {ls : LV} {st : List AV} {m : MM} : go 70 33 ls (.inr (.inr (u, none)) :: st) m = go 70 36 ls st m := e_1 d70_33 (Or.inl rfl) (by rw [xi, jm_some (t := 42) (by decide)]; rfl)
theorem s70_33s {u n : Nat} {ls : LV} {st : List AV} {m : MM} : go 70 33 ls (.inr (.inr (u, some n)) :: st) m = go 70 42 ls st m := e_1 d70_33 (Or.inl rfl) (by rw [xi, jm_some (t := 42) (by decide)]; rfl)
theorem d70_36 : decode (mt 70).2.1 36 = .ok (.aload_n 1, 1) := by decide +kernel
theorem s70_36 {a0 a2 a3 : Option AV} {st : List AV} {m : MM} {x : Nat × Option Nat} : go 70 36 [a0, some (.inr (.inr x)), a2, a3] st m = go 70 37 [a0, some (.inr (.inr x)), a2, a3] (.inr (.inr x) :: st) m := e_1 d70_36 (Or.inl rfl) rfl
theorem d70_37 : decode (mt 70).2.1 37 = .ok (.aload_n 2, 1) := by decide +kernel
theorem s70_37 {a0 a1 a3 : Option AV} {st : List AV} {m : MM} {x : Nat × Option Nat} : go 70 37 [a0, a1, some (.inr (.inr x)), a3] st m = go 70 38 [a0, a1, some (.inr (.inr x)), a3] (.inr (.inr x) :: st) m := e_1 d70_37 (Or.inl rfl) rfl
theorem d70_38 : decode (mt 70).2.1 38 = .ok (.invokestatic 276, 3) := by decide +kernel
theorem s70_38 {ls : LV} {m : MM} {x0 : Nat × Option Nat} {x1 : Nat × Option Nat} : go 70 38 ls [.inr (.inr x1), .inr (.inr x0)] m = bd (go 71 0 [some (.inr (.inr x0)), some (.inr (.inr x1))] [] m) (fun v m2 => go 70 41 ls (v.toList ++ []) m2) := e_stat (y1 := 71) (na := 2) (as := [.inr (.inr x0), .inr (.inr x1)]) (rest := []) d70_38 (by decide +kernel) rfl (by decide +kernel) (show (ent [.inr (.inr x0), .inr (.inr x1)]).length ≤ (mt 71).2.2.2.1 from Nat.le_of_ble_eq_true rfl) (cats_le (Nat.le_of_ble_eq_true rfl)) (by decide +kernel)
theorem d70_41 : decode (mt 70).2.1 41 = .ok (.astore_n 3, 1) := by decide +kernel
theorem s70_41i {a0 a1 a3 : Option AV} {z : Int32} {st : List AV} {m : MM} {x : Nat × Option Nat} : go 70 41 [a0, a1, some (.inl z), a3] (.inr (.inr x) :: st) m = go 70 42 [a0, a1, some (.inl z), some (.inr (.inr x))] st m := e_1 d70_41 (Or.inl rfl) rfl
theorem s70_41r {a0 a1 a3 : Option AV} {z : Nat × Option Nat} {st : List AV} {m : MM} {x : Nat × Option Nat} : go 70 41 [a0, a1, some (.inr (.inr z)), a3] (.inr (.inr x) :: st) m = go 70 42 [a0, a1, some (.inr (.inr z)), some (.inr (.inr x))] st m := e_1 d70_41 (Or.inl rfl) rfl
theorem s70_41n {a0 a1 a3 : Option AV} {st : List AV} {m : MM} {x : Nat × Option Nat} : go 70 41 [a0, a1, none, a3] (.inr (.inr x) :: st) m = go 70 42 [a0, a1, none, some (.inr (.inr x))] st m := e_1 d70_41 (Or.inl rfl) rfl
theorem d70_42 : decode (mt 70).2.1 42 = .ok (.aload_n 3, 1) := by decide +kernel
theorem s70_42 {a0 a1 a2 : Option AV} {st : List AV} {m : MM} {x : Nat × Option Nat} : go 70 42 [a0, a1, a2, some (.inr (.inr x))] st m = go 70 43 [a0, a1, a2, some (.inr (.inr x))] (.inr (.inr x) :: st) m := e_1 d70_42 (Or.inl rfl) rfl
theorem d70_43 : decode (mt 70).2.1 43 = .ok (.ifnull 12, 3) := by decide +kernel
theorem s70_43n {u : Nat} {ls : LV} {st : List AV} {m : MM} : go 70 43 ls (.inr (.inr (u, none)) :: st) m = go 70 55 ls st m := e_1 d70_43 (Or.inl rfl) (by rw [xi, jm_some (t := 55) (by decide)]; rfl)
theorem s70_43s {u n : Nat} {ls : LV} {st : List AV} {m : MM} : go 70 43 ls (.inr (.inr (u, some n)) :: st) m = go 70 46 ls st m := e_1 d70_43 (Or.inl rfl) (by rw [xi, jm_some (t := 55) (by decide)]; rfl)
theorem d70_46 : decode (mt 70).2.1 46 = .ok (.aload_n 0, 1) := by decide +kernel
theorem s70_46 {a1 a2 a3 : Option AV} {st : List AV} {m : MM} {x : Nat × Option Nat} : go 70 46 [some (.inr (.inr x)), a1, a2, a3] st m = go 70 47 [some (.inr (.inr x)), a1, a2, a3] (.inr (.inr x) :: st) m := e_1 d70_46 (Or.inl rfl) rfl
theorem d70_47 : decode (mt 70).2.1 47 = .ok (.getfield 28, 3) := by decide +kernel
theorem s70_47 {ls : LV} {st : List AV} {m : MM} {n : Nat} : go 70 47 ls (.inr (.inr (7, some n)) :: st) m = go 70 50 ls (.inr (.inr (3, mR m 7 n 6)) :: st) m := e_1 d70_47 (Or.inl rfl) (by rw [xi, pA, show lk fdL (mt 70).2.2.1 28 = some (7, 6) by decide +kernel]; rfl)
theorem d70_50 : decode (mt 70).2.1 50 = .ok (.aload_n 1, 1) := by decide +kernel
theorem s70_50 {a0 a2 a3 : Option AV} {st : List AV} {m : MM} {x : Nat × Option Nat} : go 70 50 [a0, some (.inr (.inr x)), a2, a3] st m = go 70 51 [a0, some (.inr (.inr x)), a2, a3] (.inr (.inr x) :: st) m := e_1 d70_50 (Or.inl rfl) rfl
theorem d70_51 : decode (mt 70).2.1 51 = .ok (.aload_n 3, 1) := by decide +kernel
theorem s70_51 {a0 a1 a2 : Option AV} {st : List AV} {m : MM} {x : Nat × Option Nat} : go 70 51 [a0, a1, a2, some (.inr (.inr x))] st m = go 70 52 [a0, a1, a2, some (.inr (.inr x))] (.inr (.inr x) :: st) m := e_1 d70_51 (Or.inl rfl) rfl
theorem d70_52 : decode (mt 70).2.1 52 = .ok (.invokevirtual 169, 3) := by decide +kernel
theorem s70_52 {ls : LV} {m : MM} {x0 : Nat × Option Nat} {x1 : Nat × Option Nat} {n : Nat} : go 70 52 ls [.inr (.inr x1), .inr (.inr x0), .inr (.inr (3, some n))] m = bd (go 10 0 [some (.inr (.inr (3, some n))), some (.inr (.inr x0)), some (.inr (.inr x1))] [] m) (fun v m2 => go 70 55 ls (v.toList ++ []) m2) := e_virt (y1 := 10) (na := 2) (as := [.inr (.inr x0), .inr (.inr x1)]) (rest := []) d70_52 (by decide +kernel) rfl (by decide +kernel) (show (ent [.inr (.inr (3, some n)), .inr (.inr x0), .inr (.inr x1)]).length ≤ (mt 10).2.2.2.1 from Nat.le_of_ble_eq_true rfl) (cats_le (Nat.le_of_ble_eq_true rfl)) (by decide +kernel)
theorem d70_55 : decode (mt 70).2.1 55 = .ok (.return_, 1) := by decide +kernel
theorem s70_55 {ls : LV} {m : MM} : go 70 55 ls [] m = some (none, m) := e_void d70_55 (by decide +kernel)
/-! X6_endOrGoAlong: 71 -/
theorem d71_0 : decode (mt 71).2.1 0 = .ok (.aload_n 1, 1) := by decide +kernel
theorem s71_0 {a0 : Option AV} {st : List AV} {m : MM} {x : Nat × Option Nat} : go 71 0 [a0, some (.inr (.inr x))] st m = go 71 1 [a0, some (.inr (.inr x))] (.inr (.inr x) :: st) m := e_1 d71_0 (Or.inl rfl) rfl
theorem d71_1 : decode (mt 71).2.1 1 = .ok (.invokevirtual 264, 3) := by decide +kernel
theorem s71_1 {ls : LV} {m : MM} {n : Nat} : go 71 1 ls [.inr (.inr (6, some n))] m = bd (go 23 0 [some (.inr (.inr (6, some n)))] [] m) (fun v m2 => go 71 4 ls (v.toList ++ []) m2) := e_virt (y1 := 23) (na := 0) (as := []) (rest := []) d71_1 (by decide +kernel) rfl (by decide +kernel) (show (ent [.inr (.inr (6, some n))]).length ≤ (mt 23).2.2.2.1 from Nat.le_of_ble_eq_true rfl) (cats_le (Nat.le_of_ble_eq_true rfl)) (by decide +kernel)
theorem d71_4 : decode (mt 71).2.1 4 = .ok (.ifCond .eq 9, 3) := by decide +kernel
theorem s71_4 {ls : LV} {st : List AV} {m : MM} {a : Int32} : go 71 4 ls (.inl a :: st) m = if a = 0 then go 71 13 ls st m else go 71 7 ls st m := e_if (t := 13) (b := hc .eq a 0) d71_4 (Or.inl rfl) (by simp only [xi, pI, jm_some (t := 13) (show ((4 : Nat) : Int) + 9 = ((13 : Nat) : Int) by decide), Option.bind_some]) (by simp [hc])
theorem d71_7 : decode (mt 71).2.1 7 = .ok (.aload_n 0, 1) := by decide +kernel
theorem s71_7 {a1 : Option AV} {st : List AV} {m : MM} {x : Nat × Option Nat} : go 71 7 [some (.inr (.inr x)), a1] st m = go 71 8 [some (.inr (.inr x)), a1] (.inr (.inr x) :: st) m := e_1 d71_7 (Or.inl rfl) rfl
theorem d71_8 : decode (mt 71).2.1 8 = .ok (.invokevirtual 280, 3) := by decide +kernel
theorem s71_8 {ls : LV} {m : MM} {n : Nat} : go 71 8 ls [.inr (.inr (1, some n))] m = bd (go 4 0 [some (.inr (.inr (1, some n)))] [] m) (fun v m2 => go 71 11 ls (v.toList ++ []) m2) := e_virt (y1 := 4) (na := 0) (as := []) (rest := []) d71_8 (by decide +kernel) rfl (by decide +kernel) (show (ent [.inr (.inr (1, some n))]).length ≤ (mt 4).2.2.2.1 from Nat.le_of_ble_eq_true rfl) (cats_le (Nat.le_of_ble_eq_true rfl)) (by decide +kernel)
theorem d71_11 : decode (mt 71).2.1 11 = .ok (.aconst_null, 1) := by decide +kernel
theorem s71_11 {ls : LV} {st : List AV} {m : MM} : go 71 11 ls st m = go 71 12 ls (.inr (.inr (0, none)) :: st) m := e_1 d71_11 (Or.inl rfl) rfl
theorem d71_12 : decode (mt 71).2.1 12 = .ok (.areturn, 1) := by decide +kernel
theorem s71_12 {ls : LV} {m : MM} {x : Nat × Option Nat} : go 71 12 ls [.inr (.inr x)] m = some (some (.inr (.inr x)), m) := e_ref d71_12 rfl
theorem d71_13 : decode (mt 71).2.1 13 = .ok (.aload_n 0, 1) := by decide +kernel
theorem s71_13 {a1 : Option AV} {st : List AV} {m : MM} {x : Nat × Option Nat} : go 71 13 [some (.inr (.inr x)), a1] st m = go 71 14 [some (.inr (.inr x)), a1] (.inr (.inr x) :: st) m := e_1 d71_13 (Or.inl rfl) rfl
theorem d71_14 : decode (mt 71).2.1 14 = .ok (.iconst 1, 1) := by decide +kernel
theorem s71_14 {ls : LV} {st : List AV} {m : MM} : go 71 14 ls st m = go 71 15 ls (.inl 1 :: st) m := e_1 d71_14 (Or.inl rfl) rfl
theorem d71_15 : decode (mt 71).2.1 15 = .ok (.putfield 267, 3) := by decide +kernel
theorem s71_15b0 {ls : LV} {st : List AV} {m : MM} {n : Nat} : go 71 15 ls (.inl 0 :: .inr (.inr (1, some n)) :: st) m = go 71 18 ls st (sI m 1 n 5 0) := e_put (r := 1) (f := 5) d71_15 (by decide +kernel) rfl (by decide +kernel)
theorem s71_15b1 {ls : LV} {st : List AV} {m : MM} {n : Nat} : go 71 15 ls (.inl 1 :: .inr (.inr (1, some n)) :: st) m = go 71 18 ls st (sI m 1 n 5 1) := e_put (r := 1) (f := 5) d71_15 (by decide +kernel) rfl (by decide +kernel)
theorem d71_18 : decode (mt 71).2.1 18 = .ok (.aload_n 0, 1) := by decide +kernel
theorem s71_18 {a1 : Option AV} {st : List AV} {m : MM} {x : Nat × Option Nat} : go 71 18 [some (.inr (.inr x)), a1] st m = go 71 19 [some (.inr (.inr x)), a1] (.inr (.inr x) :: st) m := e_1 d71_18 (Or.inl rfl) rfl
theorem d71_19 : decode (mt 71).2.1 19 = .ok (.getfield 183, 3) := by decide +kernel
theorem s71_19 {ls : LV} {st : List AV} {m : MM} {n : Nat} : go 71 19 ls (.inr (.inr (1, some n)) :: st) m = go 71 22 ls (.inl (mI m 1 n 1) :: st) m := e_1 d71_19 (Or.inl rfl) (by rw [xi, pA, show lk fdL (mt 71).2.2.1 183 = some (1, 1) by decide +kernel]; rfl)
theorem d71_22 : decode (mt 71).2.1 22 = .ok (.tableswitch 76 0 4 #[34, 76, 76, 44, 66], 34) := by decide +kernel
theorem s71_22_0 {ls : LV} {st : List AV} {m : MM} : go 71 22 ls (.inl 0 :: st) m = go 71 56 ls st m := e_1 d71_22 (Or.inr rfl) (by rw [xi]; rfl)
theorem s71_22_1 {ls : LV} {st : List AV} {m : MM} : go 71 22 ls (.inl 1 :: st) m = go 71 98 ls st m := e_1 d71_22 (Or.inr rfl) (by rw [xi]; rfl)
theorem s71_22_2 {ls : LV} {st : List AV} {m : MM} : go 71 22 ls (.inl 2 :: st) m = go 71 98 ls st m := e_1 d71_22 (Or.inr rfl) (by rw [xi]; rfl)
theorem s71_22_3 {ls : LV} {st : List AV} {m : MM} : go 71 22 ls (.inl 3 :: st) m = go 71 66 ls st m := e_1 d71_22 (Or.inr rfl) (by rw [xi]; rfl)
theorem s71_22_4 {ls : LV} {st : List AV} {m : MM} : go 71 22 ls (.inl 4 :: st) m = go 71 88 ls st m := e_1 d71_22 (Or.inr rfl) (by rw [xi]; rfl)
theorem s71_22_d {ls : LV} {st : List AV} {m : MM} {a : Int32} (h : a.toInt < 0 ∨ 4 < a.toInt) : go 71 22 ls (.inl a :: st) m = go 71 98 ls st m := e_1 d71_22 (Or.inr rfl) (by simp only [xi, pI, if_pos h, jm_some (t := 98) (show ((22 : Nat) : Int) + 76 = ((98 : Nat) : Int) by decide), Option.bind_some]; rw [if_pos (by omega)])
theorem d71_56 : decode (mt 71).2.1 56 = .ok (.aload_n 0, 1) := by decide +kernel
theorem s71_56 {a1 : Option AV} {st : List AV} {m : MM} {x : Nat × Option Nat} : go 71 56 [some (.inr (.inr x)), a1] st m = go 71 57 [some (.inr (.inr x)), a1] (.inr (.inr x) :: st) m := e_1 d71_56 (Or.inl rfl) rfl
theorem d71_57 : decode (mt 71).2.1 57 = .ok (.aload_n 1, 1) := by decide +kernel
theorem s71_57 {a0 : Option AV} {st : List AV} {m : MM} {x : Nat × Option Nat} : go 71 57 [a0, some (.inr (.inr x))] st m = go 71 58 [a0, some (.inr (.inr x))] (.inr (.inr x) :: st) m := e_1 d71_57 (Or.inl rfl) rfl
theorem d71_58 : decode (mt 71).2.1 58 = .ok (.getfield 235, 3) := by decide +kernel
theorem s71_58 {ls : LV} {st : List AV} {m : MM} {n : Nat} : go 71 58 ls (.inr (.inr (6, some n)) :: st) m = go 71 61 ls (.inl (mI m 6 n 0) :: st) m := e_1 d71_58 (Or.inl rfl) (by rw [xi, pA, show lk fdL (mt 71).2.2.1 235 = some (6, 0) by decide +kernel]; rfl)
theorem d71_61 : decode (mt 71).2.1 61 = .ok (.invokevirtual 283, 3) := by decide +kernel
theorem s71_61 {ls : LV} {m : MM} {x0 : Int32} {n : Nat} : go 71 61 ls [.inl x0, .inr (.inr (1, some n))] m = bd (go 3 0 [some (.inr (.inr (1, some n))), some (.inl x0)] [] m) (fun v m2 => go 71 64 ls (v.toList ++ []) m2) := e_virt (y1 := 3) (na := 1) (as := [.inl x0]) (rest := []) d71_61 (by decide +kernel) rfl (by decide +kernel) (show (ent [.inr (.inr (1, some n)), .inl x0]).length ≤ (mt 3).2.2.2.1 from Nat.le_of_ble_eq_true rfl) (cats_le (Nat.le_of_ble_eq_true rfl)) (by decide +kernel)
theorem d71_64 : decode (mt 71).2.1 64 = .ok (.aconst_null, 1) := by decide +kernel
theorem s71_64 {ls : LV} {st : List AV} {m : MM} : go 71 64 ls st m = go 71 65 ls (.inr (.inr (0, none)) :: st) m := e_1 d71_64 (Or.inl rfl) rfl
theorem d71_65 : decode (mt 71).2.1 65 = .ok (.areturn, 1) := by decide +kernel
theorem s71_65 {ls : LV} {m : MM} {x : Nat × Option Nat} : go 71 65 ls [.inr (.inr x)] m = some (some (.inr (.inr x)), m) := e_ref d71_65 rfl
theorem d71_66 : decode (mt 71).2.1 66 = .ok (.aload_n 1, 1) := by decide +kernel
theorem s71_66 {a0 : Option AV} {st : List AV} {m : MM} {x : Nat × Option Nat} : go 71 66 [a0, some (.inr (.inr x))] st m = go 71 67 [a0, some (.inr (.inr x))] (.inr (.inr x) :: st) m := e_1 d71_66 (Or.inl rfl) rfl
theorem d71_67 : decode (mt 71).2.1 67 = .ok (.getfield 117, 3) := by decide +kernel
theorem s71_67 {ls : LV} {st : List AV} {m : MM} {n : Nat} : go 71 67 ls (.inr (.inr (6, some n)) :: st) m = go 71 70 ls (.inr (.inr (5, mR m 6 n 9)) :: st) m := e_1 d71_67 (Or.inl rfl) (by rw [xi, pA, show lk fdL (mt 71).2.2.1 117 = some (6, 9) by decide +kernel]; rfl)
theorem d71_70 : decode (mt 71).2.1 70 = .ok (.aload_n 0, 1) := by decide +kernel
theorem s71_70 {a1 : Option AV} {st : List AV} {m : MM} {x : Nat × Option Nat} : go 71 70 [some (.inr (.inr x)), a1] st m = go 71 71 [some (.inr (.inr x)), a1] (.inr (.inr x) :: st) m := e_1 d71_70 (Or.inl rfl) rfl
theorem d71_71 : decode (mt 71).2.1 71 = .ok (.getfield 270, 3) := by decide +kernel
theorem s71_71 {ls : LV} {st : List AV} {m : MM} {n : Nat} : go 71 71 ls (.inr (.inr (1, some n)) :: st) m = go 71 74 ls (.inl (mI m 1 n 2) :: st) m := e_1 d71_71 (Or.inl rfl) (by rw [xi, pA, show lk fdL (mt 71).2.2.1 270 = some (1, 2) by decide +kernel]; rfl)
theorem d71_74 : decode (mt 71).2.1 74 = .ok (.aload_n 0, 1) := by decide +kernel
theorem s71_74 {a1 : Option AV} {st : List AV} {m : MM} {x : Nat × Option Nat} : go 71 74 [some (.inr (.inr x)), a1] st m = go 71 75 [some (.inr (.inr x)), a1] (.inr (.inr x) :: st) m := e_1 d71_74 (Or.inl rfl) rfl
theorem d71_75 : decode (mt 71).2.1 75 = .ok (.getfield 210, 3) := by decide +kernel
theorem s71_75 {ls : LV} {st : List AV} {m : MM} {n : Nat} : go 71 75 ls (.inr (.inr (1, some n)) :: st) m = go 71 78 ls (.inr (.inl (mL m 1 n 4)) :: st) m := e_1 d71_75 (Or.inl rfl) (by rw [xi, pA, show lk fdL (mt 71).2.2.1 210 = some (1, 4) by decide +kernel]; rfl)
theorem d71_78 : decode (mt 71).2.1 78 = .ok (.invokevirtual 286, 3) := by decide +kernel
theorem s71_78 {ls : LV} {m : MM} {x0 : Int32} {x1 : Int64} {n : Nat} : go 71 78 ls [.inr (.inl x1), .inl x0, .inr (.inr (5, some n))] m = bd (go 20 0 [some (.inr (.inr (5, some n))), some (.inl x0), some (.inr (.inl x1)), none, none, none] [] m) (fun v m2 => go 71 81 ls (v.toList ++ []) m2) := e_virt (y1 := 20) (na := 2) (as := [.inl x0, .inr (.inl x1)]) (rest := []) d71_78 (by decide +kernel) rfl (by decide +kernel) (show (ent [.inr (.inr (5, some n)), .inl x0, .inr (.inl x1)]).length ≤ (mt 20).2.2.2.1 from Nat.le_of_ble_eq_true rfl) (cats_le (Nat.le_of_ble_eq_true rfl)) (by decide +kernel)
theorem d71_81 : decode (mt 71).2.1 81 = .ok (.aload_n 0, 1) := by decide +kernel
theorem s71_81 {a1 : Option AV} {st : List AV} {m : MM} {x : Nat × Option Nat} : go 71 81 [some (.inr (.inr x)), a1] st m = go 71 82 [some (.inr (.inr x)), a1] (.inr (.inr x) :: st) m := e_1 d71_81 (Or.inl rfl) rfl
theorem d71_82 : decode (mt 71).2.1 82 = .ok (.iconst 1, 1) := by decide +kernel
theorem s71_82 {ls : LV} {st : List AV} {m : MM} : go 71 82 ls st m = go 71 83 ls (.inl 1 :: st) m := e_1 d71_82 (Or.inl rfl) rfl
theorem d71_83 : decode (mt 71).2.1 83 = .ok (.invokevirtual 283, 3) := by decide +kernel
theorem s71_83 {ls : LV} {m : MM} {x0 : Int32} {n : Nat} : go 71 83 ls [.inl x0, .inr (.inr (1, some n))] m = bd (go 3 0 [some (.inr (.inr (1, some n))), some (.inl x0)] [] m) (fun v m2 => go 71 86 ls (v.toList ++ []) m2) := e_virt (y1 := 3) (na := 1) (as := [.inl x0]) (rest := []) d71_83 (by decide +kernel) rfl (by decide +kernel) (show (ent [.inr (.inr (1, some n)), .inl x0]).length ≤ (mt 3).2.2.2.1 from Nat.le_of_ble_eq_true rfl) (cats_le (Nat.le_of_ble_eq_true rfl)) (by decide +kernel)
theorem d71_86 : decode (mt 71).2.1 86 = .ok (.aconst_null, 1) := by decide +kernel
theorem s71_86 {ls : LV} {st : List AV} {m : MM} : go 71 86 ls st m = go 71 87 ls (.inr (.inr (0, none)) :: st) m := e_1 d71_86 (Or.inl rfl) rfl
theorem d71_87 : decode (mt 71).2.1 87 = .ok (.areturn, 1) := by decide +kernel
theorem s71_87 {ls : LV} {m : MM} {x : Nat × Option Nat} : go 71 87 ls [.inr (.inr x)] m = some (some (.inr (.inr x)), m) := e_ref d71_87 rfl
theorem d71_88 : decode (mt 71).2.1 88 = .ok (.aload_n 0, 1) := by decide +kernel
theorem s71_88 {a1 : Option AV} {st : List AV} {m : MM} {x : Nat × Option Nat} : go 71 88 [some (.inr (.inr x)), a1] st m = go 71 89 [some (.inr (.inr x)), a1] (.inr (.inr x) :: st) m := e_1 d71_88 (Or.inl rfl) rfl
theorem d71_89 : decode (mt 71).2.1 89 = .ok (.aload_n 1, 1) := by decide +kernel
theorem s71_89 {a0 : Option AV} {st : List AV} {m : MM} {x : Nat × Option Nat} : go 71 89 [a0, some (.inr (.inr x))] st m = go 71 90 [a0, some (.inr (.inr x))] (.inr (.inr x) :: st) m := e_1 d71_89 (Or.inl rfl) rfl
theorem d71_90 : decode (mt 71).2.1 90 = .ok (.getfield 117, 3) := by decide +kernel
theorem s71_90 {ls : LV} {st : List AV} {m : MM} {n : Nat} : go 71 90 ls (.inr (.inr (6, some n)) :: st) m = go 71 93 ls (.inr (.inr (5, mR m 6 n 9)) :: st) m := e_1 d71_90 (Or.inl rfl) (by rw [xi, pA, show lk fdL (mt 71).2.2.1 117 = some (6, 9) by decide +kernel]; rfl)
theorem d71_93 : decode (mt 71).2.1 93 = .ok (.invokestatic 290, 3) := by decide +kernel
theorem s71_93 {ls : LV} {m : MM} {x0 : Nat × Option Nat} {x1 : Nat × Option Nat} : go 71 93 ls [.inr (.inr x1), .inr (.inr x0)] m = bd (go 72 0 [some (.inr (.inr x0)), some (.inr (.inr x1))] [] m) (fun v m2 => go 71 96 ls (v.toList ++ []) m2) := e_stat (y1 := 72) (na := 2) (as := [.inr (.inr x0), .inr (.inr x1)]) (rest := []) d71_93 (by decide +kernel) rfl (by decide +kernel) (show (ent [.inr (.inr x0), .inr (.inr x1)]).length ≤ (mt 72).2.2.2.1 from Nat.le_of_ble_eq_true rfl) (cats_le (Nat.le_of_ble_eq_true rfl)) (by decide +kernel)
theorem d71_96 : decode (mt 71).2.1 96 = .ok (.aconst_null, 1) := by decide +kernel
theorem s71_96 {ls : LV} {st : List AV} {m : MM} : go 71 96 ls st m = go 71 97 ls (.inr (.inr (0, none)) :: st) m := e_1 d71_96 (Or.inl rfl) rfl
theorem d71_97 : decode (mt 71).2.1 97 = .ok (.areturn, 1) := by decide +kernel
theorem s71_97 {ls : LV} {m : MM} {x : Nat × Option Nat} : go 71 97 ls [.inr (.inr x)] m = some (some (.inr (.inr x)), m) := e_ref d71_97 rfl
theorem d71_98 : decode (mt 71).2.1 98 = .ok (.aload_n 0, 1) := by decide +kernel
theorem s71_98 {a1 : Option AV} {st : List AV} {m : MM} {x : Nat × Option Nat} : go 71 98 [some (.inr (.inr x)), a1] st m = go 71 99 [some (.inr (.inr x)), a1] (.inr (.inr x) :: st) m := e_1 d71_98 (Or.inl rfl) rfl
theorem d71_99 : decode (mt 71).2.1 99 = .ok (.aload_n 1, 1) := by decide +kernel
theorem s71_99 {a0 : Option AV} {st : List AV} {m : MM} {x : Nat × Option Nat} : go 71 99 [a0, some (.inr (.inr x))] st m = go 71 100 [a0, some (.inr (.inr x))] (.inr (.inr x) :: st) m := e_1 d71_99 (Or.inl rfl) rfl
theorem d71_100 : decode (mt 71).2.1 100 = .ok (.invokestatic 294, 3) := by decide +kernel
theorem s71_100 {ls : LV} {m : MM} {x0 : Nat × Option Nat} {x1 : Nat × Option Nat} : go 71 100 ls [.inr (.inr x1), .inr (.inr x0)] m = bd (go 73 0 [some (.inr (.inr x0)), some (.inr (.inr x1)), none] [] m) (fun v m2 => go 71 103 ls (v.toList ++ []) m2) := e_stat (y1 := 73) (na := 2) (as := [.inr (.inr x0), .inr (.inr x1)]) (rest := []) d71_100 (by decide +kernel) rfl (by decide +kernel) (show (ent [.inr (.inr x0), .inr (.inr x1)]).length ≤ (mt 73).2.2.2.1 from Nat.le_of_ble_eq_true rfl) (cats_le (Nat.le_of_ble_eq_true rfl)) (by decide +kernel)
theorem d71_103 : decode (mt 71).2.1 103 = .ok (.areturn, 1) := by decide +kernel
theorem s71_103 {ls : LV} {m : MM} {x : Nat × Option Nat} : go 71 103 ls [.inr (.inr x)] m = some (some (.inr (.inr x)), m) := e_ref d71_103 rfl
/-! X6_fetch: 72 -/
theorem d72_0 : decode (mt 72).2.1 0 = .ok (.aload_n 1, 1) := by decide +kernel
theorem s72_0 {a0 : Option AV} {st : List AV} {m : MM} {x : Nat × Option Nat} : go 72 0 [a0, some (.inr (.inr x))] st m = go 72 1 [a0, some (.inr (.inr x))] (.inr (.inr x) :: st) m := e_1 d72_0 (Or.inl rfl) rfl
theorem d72_1 : decode (mt 72).2.1 1 = .ok (.aload_n 0, 1) := by decide +kernel
theorem s72_1 {a1 : Option AV} {st : List AV} {m : MM} {x : Nat × Option Nat} : go 72 1 [some (.inr (.inr x)), a1] st m = go 72 2 [some (.inr (.inr x)), a1] (.inr (.inr x) :: st) m := e_1 d72_1 (Or.inl rfl) rfl
theorem d72_2 : decode (mt 72).2.1 2 = .ok (.getfield 270, 3) := by decide +kernel
theorem s72_2 {ls : LV} {st : List AV} {m : MM} {n : Nat} : go 72 2 ls (.inr (.inr (1, some n)) :: st) m = go 72 5 ls (.inl (mI m 1 n 2) :: st) m := e_1 d72_2 (Or.inl rfl) (by rw [xi, pA, show lk fdL (mt 72).2.2.1 270 = some (1, 2) by decide +kernel]; rfl)
theorem d72_5 : decode (mt 72).2.1 5 = .ok (.invokevirtual 297, 3) := by decide +kernel
theorem s72_5 {ls : LV} {m : MM} {x0 : Int32} {n : Nat} : go 72 5 ls [.inl x0, .inr (.inr (5, some n))] m = bd (go 17 0 [some (.inr (.inr (5, some n))), some (.inl x0), none] [] m) (fun v m2 => go 72 8 ls (v.toList ++ []) m2) := e_virt (y1 := 17) (na := 1) (as := [.inl x0]) (rest := []) d72_5 (by decide +kernel) rfl (by decide +kernel) (show (ent [.inr (.inr (5, some n)), .inl x0]).length ≤ (mt 17).2.2.2.1 from Nat.le_of_ble_eq_true rfl) (cats_le (Nat.le_of_ble_eq_true rfl)) (by decide +kernel)
theorem d72_8 : decode (mt 72).2.1 8 = .ok (.ifCond .ne 10, 3) := by decide +kernel
theorem s72_8 {ls : LV} {st : List AV} {m : MM} {a : Int32} : go 72 8 ls (.inl a :: st) m = if ¬ a = 0 then go 72 18 ls st m else go 72 11 ls st m := e_if (t := 18) (b := hc .ne a 0) d72_8 (Or.inl rfl) (by simp only [xi, pI, jm_some (t := 18) (show ((8 : Nat) : Int) + 10 = ((18 : Nat) : Int) by decide), Option.bind_some]) (by simp [hc])
theorem d72_11 : decode (mt 72).2.1 11 = .ok (.aload_n 0, 1) := by decide +kernel
theorem s72_11 {a1 : Option AV} {st : List AV} {m : MM} {x : Nat × Option Nat} : go 72 11 [some (.inr (.inr x)), a1] st m = go 72 12 [some (.inr (.inr x)), a1] (.inr (.inr x) :: st) m := e_1 d72_11 (Or.inl rfl) rfl
theorem d72_12 : decode (mt 72).2.1 12 = .ok (.bipush (-4), 2) := by decide +kernel
theorem s72_12 {ls : LV} {st : List AV} {m : MM} : go 72 12 ls st m = go 72 14 ls (.inl (-4) :: st) m := e_1 d72_12 (Or.inl rfl) rfl
theorem d72_14 : decode (mt 72).2.1 14 = .ok (.invokevirtual 283, 3) := by decide +kernel
theorem s72_14 {ls : LV} {m : MM} {x0 : Int32} {n : Nat} : go 72 14 ls [.inl x0, .inr (.inr (1, some n))] m = bd (go 3 0 [some (.inr (.inr (1, some n))), some (.inl x0)] [] m) (fun v m2 => go 72 17 ls (v.toList ++ []) m2) := e_virt (y1 := 3) (na := 1) (as := [.inl x0]) (rest := []) d72_14 (by decide +kernel) rfl (by decide +kernel) (show (ent [.inr (.inr (1, some n)), .inl x0]).length ≤ (mt 3).2.2.2.1 from Nat.le_of_ble_eq_true rfl) (cats_le (Nat.le_of_ble_eq_true rfl)) (by decide +kernel)
theorem d72_17 : decode (mt 72).2.1 17 = .ok (.return_, 1) := by decide +kernel
theorem s72_17 {ls : LV} {m : MM} : go 72 17 ls [] m = some (none, m) := e_void d72_17 (by decide +kernel)
theorem d72_18 : decode (mt 72).2.1 18 = .ok (.aload_n 0, 1) := by decide +kernel
theorem s72_18 {a1 : Option AV} {st : List AV} {m : MM} {x : Nat × Option Nat} : go 72 18 [some (.inr (.inr x)), a1] st m = go 72 19 [some (.inr (.inr x)), a1] (.inr (.inr x) :: st) m := e_1 d72_18 (Or.inl rfl) rfl
theorem d72_19 : decode (mt 72).2.1 19 = .ok (.aload_n 1, 1) := by decide +kernel
theorem s72_19 {a0 : Option AV} {st : List AV} {m : MM} {x : Nat × Option Nat} : go 72 19 [a0, some (.inr (.inr x))] st m = go 72 20 [a0, some (.inr (.inr x))] (.inr (.inr x) :: st) m := e_1 d72_19 (Or.inl rfl) rfl
theorem d72_20 : decode (mt 72).2.1 20 = .ok (.aload_n 1, 1) := by decide +kernel
theorem s72_20 {a0 : Option AV} {st : List AV} {m : MM} {x : Nat × Option Nat} : go 72 20 [a0, some (.inr (.inr x))] st m = go 72 21 [a0, some (.inr (.inr x))] (.inr (.inr x) :: st) m := e_1 d72_20 (Or.inl rfl) rfl
theorem d72_21 : decode (mt 72).2.1 21 = .ok (.aload_n 0, 1) := by decide +kernel
theorem s72_21 {a1 : Option AV} {st : List AV} {m : MM} {x : Nat × Option Nat} : go 72 21 [some (.inr (.inr x)), a1] st m = go 72 22 [some (.inr (.inr x)), a1] (.inr (.inr x) :: st) m := e_1 d72_21 (Or.inl rfl) rfl
theorem d72_22 : decode (mt 72).2.1 22 = .ok (.getfield 270, 3) := by decide +kernel
theorem s72_22 {ls : LV} {st : List AV} {m : MM} {n : Nat} : go 72 22 ls (.inr (.inr (1, some n)) :: st) m = go 72 25 ls (.inl (mI m 1 n 2) :: st) m := e_1 d72_22 (Or.inl rfl) (by rw [xi, pA, show lk fdL (mt 72).2.2.1 270 = some (1, 2) by decide +kernel]; rfl)
theorem d72_25 : decode (mt 72).2.1 25 = .ok (.invokevirtual 300, 3) := by decide +kernel
theorem s72_25 {ls : LV} {m : MM} {x0 : Int32} {w0 w1 : AV} {n : Nat} : go 72 25 ls [.inl x0, .inr (.inr (5, some n)), w0, w1] m = bd (go 16 0 [some (.inr (.inr (5, some n))), some (.inl x0), none] [] m) (fun v m2 => go 72 28 ls (v.toList ++ [w0, w1]) m2) := e_virt (y1 := 16) (na := 1) (as := [.inl x0]) (rest := [w0, w1]) d72_25 (by decide +kernel) rfl (by decide +kernel) (show (ent [.inr (.inr (5, some n)), .inl x0]).length ≤ (mt 16).2.2.2.1 from Nat.le_of_ble_eq_true rfl) (cats_le (Nat.le_of_ble_eq_true rfl)) (by decide +kernel)
theorem d72_28 : decode (mt 72).2.1 28 = .ok (.invokevirtual 303, 3) := by decide +kernel
theorem s72_28 {ls : LV} {m : MM} {x0 : Int32} {w0 : AV} {n : Nat} : go 72 28 ls [.inl x0, .inr (.inr (5, some n)), w0] m = bd (go 19 0 [some (.inr (.inr (5, some n))), some (.inl x0)] [] m) (fun v m2 => go 72 31 ls (v.toList ++ [w0]) m2) := e_virt (y1 := 19) (na := 1) (as := [.inl x0]) (rest := [w0]) d72_28 (by decide +kernel) rfl (by decide +kernel) (show (ent [.inr (.inr (5, some n)), .inl x0]).length ≤ (mt 19).2.2.2.1 from Nat.le_of_ble_eq_true rfl) (cats_le (Nat.le_of_ble_eq_true rfl)) (by decide +kernel)
theorem d72_31 : decode (mt 72).2.1 31 = .ok (.putfield 210, 3) := by decide +kernel
theorem s72_31 {ls : LV} {st : List AV} {m : MM} {n : Nat} {x : Int64} : go 72 31 ls (.inr (.inl x) :: .inr (.inr (1, some n)) :: st) m = go 72 34 ls st (sL m 1 n 4 x) := e_put (r := 1) (f := 4) d72_31 (by decide +kernel) rfl (by decide +kernel)
theorem d72_34 : decode (mt 72).2.1 34 = .ok (.aload_n 0, 1) := by decide +kernel
theorem s72_34 {a1 : Option AV} {st : List AV} {m : MM} {x : Nat × Option Nat} : go 72 34 [some (.inr (.inr x)), a1] st m = go 72 35 [some (.inr (.inr x)), a1] (.inr (.inr x) :: st) m := e_1 d72_34 (Or.inl rfl) rfl
theorem d72_35 : decode (mt 72).2.1 35 = .ok (.iconst 1, 1) := by decide +kernel
theorem s72_35 {ls : LV} {st : List AV} {m : MM} : go 72 35 ls st m = go 72 36 ls (.inl 1 :: st) m := e_1 d72_35 (Or.inl rfl) rfl
theorem d72_36 : decode (mt 72).2.1 36 = .ok (.invokevirtual 283, 3) := by decide +kernel
theorem s72_36 {ls : LV} {m : MM} {x0 : Int32} {n : Nat} : go 72 36 ls [.inl x0, .inr (.inr (1, some n))] m = bd (go 3 0 [some (.inr (.inr (1, some n))), some (.inl x0)] [] m) (fun v m2 => go 72 39 ls (v.toList ++ []) m2) := e_virt (y1 := 3) (na := 1) (as := [.inl x0]) (rest := []) d72_36 (by decide +kernel) rfl (by decide +kernel) (show (ent [.inr (.inr (1, some n)), .inl x0]).length ≤ (mt 3).2.2.2.1 from Nat.le_of_ble_eq_true rfl) (cats_le (Nat.le_of_ble_eq_true rfl)) (by decide +kernel)
theorem d72_39 : decode (mt 72).2.1 39 = .ok (.return_, 1) := by decide +kernel
theorem s72_39 {ls : LV} {m : MM} : go 72 39 ls [] m = some (none, m) := e_void d72_39 (by decide +kernel)
/-! X6_goAlong: 73 -/
theorem d73_0 : decode (mt 73).2.1 0 = .ok (.aload_n 1, 1) := by decide +kernel
theorem s73_0 {a0 a2 : Option AV} {st : List AV} {m : MM} {x : Nat × Option Nat} : go 73 0 [a0, some (.inr (.inr x)), a2] st m = go 73 1 [a0, some (.inr (.inr x)), a2] (.inr (.inr x) :: st) m := e_1 d73_0 (Or.inl rfl) rfl
theorem d73_1 : decode (mt 73).2.1 1 = .ok (.getfield 58, 3) := by decide +kernel
theorem s73_1 {ls : LV} {st : List AV} {m : MM} {n : Nat} : go 73 1 ls (.inr (.inr (6, some n)) :: st) m = go 73 4 ls (.inl (mI m 6 n 1) :: st) m := e_1 d73_1 (Or.inl rfl) (by rw [xi, pA, show lk fdL (mt 73).2.2.1 58 = some (6, 1) by decide +kernel]; rfl)
theorem d73_4 : decode (mt 73).2.1 4 = .ok (.aload_n 0, 1) := by decide +kernel
theorem s73_4 {a1 a2 : Option AV} {st : List AV} {m : MM} {x : Nat × Option Nat} : go 73 4 [some (.inr (.inr x)), a1, a2] st m = go 73 5 [some (.inr (.inr x)), a1, a2] (.inr (.inr x) :: st) m := e_1 d73_4 (Or.inl rfl) rfl
theorem d73_5 : decode (mt 73).2.1 5 = .ok (.getfield 270, 3) := by decide +kernel
theorem s73_5 {ls : LV} {st : List AV} {m : MM} {n : Nat} : go 73 5 ls (.inr (.inr (1, some n)) :: st) m = go 73 8 ls (.inl (mI m 1 n 2) :: st) m := e_1 d73_5 (Or.inl rfl) (by rw [xi, pA, show lk fdL (mt 73).2.2.1 270 = some (1, 2) by decide +kernel]; rfl)
theorem d73_8 : decode (mt 73).2.1 8 = .ok (.if_icmp .lt 19, 3) := by decide +kernel
theorem s73_8 {ls : LV} {st : List AV} {m : MM} {a b : Int32} : go 73 8 ls (.inl b :: .inl a :: st) m = if a < b then go 73 27 ls st m else go 73 11 ls st m := e_if (t := 27) (b := hc .lt a b) d73_8 (Or.inl rfl) (by simp only [xi, pI, jm_some (t := 27) (show ((8 : Nat) : Int) + 19 = ((27 : Nat) : Int) by decide), Option.bind_some]) (by simp [hc])
theorem d73_11 : decode (mt 73).2.1 11 = .ok (.aload_n 1, 1) := by decide +kernel
theorem s73_11 {a0 a2 : Option AV} {st : List AV} {m : MM} {x : Nat × Option Nat} : go 73 11 [a0, some (.inr (.inr x)), a2] st m = go 73 12 [a0, some (.inr (.inr x)), a2] (.inr (.inr x) :: st) m := e_1 d73_11 (Or.inl rfl) rfl
theorem d73_12 : decode (mt 73).2.1 12 = .ok (.getfield 58, 3) := by decide +kernel
theorem s73_12 {ls : LV} {st : List AV} {m : MM} {n : Nat} : go 73 12 ls (.inr (.inr (6, some n)) :: st) m = go 73 15 ls (.inl (mI m 6 n 1) :: st) m := e_1 d73_12 (Or.inl rfl) (by rw [xi, pA, show lk fdL (mt 73).2.2.1 58 = some (6, 1) by decide +kernel]; rfl)
theorem d73_15 : decode (mt 73).2.1 15 = .ok (.aload_n 0, 1) := by decide +kernel
theorem s73_15 {a1 a2 : Option AV} {st : List AV} {m : MM} {x : Nat × Option Nat} : go 73 15 [some (.inr (.inr x)), a1, a2] st m = go 73 16 [some (.inr (.inr x)), a1, a2] (.inr (.inr x) :: st) m := e_1 d73_15 (Or.inl rfl) rfl
theorem d73_16 : decode (mt 73).2.1 16 = .ok (.getfield 307, 3) := by decide +kernel
theorem s73_16 {ls : LV} {st : List AV} {m : MM} {n : Nat} : go 73 16 ls (.inr (.inr (1, some n)) :: st) m = go 73 19 ls (.inl (mI m 1 n 3) :: st) m := e_1 d73_16 (Or.inl rfl) (by rw [xi, pA, show lk fdL (mt 73).2.2.1 307 = some (1, 3) by decide +kernel]; rfl)
theorem d73_19 : decode (mt 73).2.1 19 = .ok (.if_icmp .gt 8, 3) := by decide +kernel
theorem s73_19 {ls : LV} {st : List AV} {m : MM} {a b : Int32} : go 73 19 ls (.inl b :: .inl a :: st) m = if b < a then go 73 27 ls st m else go 73 22 ls st m := e_if (t := 27) (b := hc .gt a b) d73_19 (Or.inl rfl) (by simp only [xi, pI, jm_some (t := 27) (show ((19 : Nat) : Int) + 8 = ((27 : Nat) : Int) by decide), Option.bind_some]) (by simp [hc])
theorem d73_22 : decode (mt 73).2.1 22 = .ok (.aload_n 0, 1) := by decide +kernel
theorem s73_22 {a1 a2 : Option AV} {st : List AV} {m : MM} {x : Nat × Option Nat} : go 73 22 [some (.inr (.inr x)), a1, a2] st m = go 73 23 [some (.inr (.inr x)), a1, a2] (.inr (.inr x) :: st) m := e_1 d73_22 (Or.inl rfl) rfl
theorem d73_23 : decode (mt 73).2.1 23 = .ok (.aload_n 1, 1) := by decide +kernel
theorem s73_23 {a0 a2 : Option AV} {st : List AV} {m : MM} {x : Nat × Option Nat} : go 73 23 [a0, some (.inr (.inr x)), a2] st m = go 73 24 [a0, some (.inr (.inr x)), a2] (.inr (.inr x) :: st) m := e_1 d73_23 (Or.inl rfl) rfl
theorem d73_24 : decode (mt 73).2.1 24 = .ok (.invokevirtual 310, 3) := by decide +kernel
theorem s73_24 {ls : LV} {m : MM} {x0 : Nat × Option Nat} {n : Nat} : go 73 24 ls [.inr (.inr x0), .inr (.inr (1, some n))] m = bd (go 2 0 [some (.inr (.inr (1, some n))), some (.inr (.inr x0))] [] m) (fun v m2 => go 73 27 ls (v.toList ++ []) m2) := e_virt (y1 := 2) (na := 1) (as := [.inr (.inr x0)]) (rest := []) d73_24 (by decide +kernel) rfl (by decide +kernel) (show (ent [.inr (.inr (1, some n)), .inr (.inr x0)]).length ≤ (mt 2).2.2.2.1 from Nat.le_of_ble_eq_true rfl) (cats_le (Nat.le_of_ble_eq_true rfl)) (by decide +kernel)
theorem d73_27 : decode (mt 73).2.1 27 = .ok (.aload_n 1, 1) := by decide +kernel
theorem s73_27 {a0 a2 : Option AV} {st : List AV} {m : MM} {x : Nat × Option Nat} : go 73 27 [a0, some (.inr (.inr x)), a2] st m = go 73 28 [a0, some (.inr (.inr x)), a2] (.inr (.inr x) :: st) m := e_1 d73_27 (Or.inl rfl) rfl
theorem d73_28 : decode (mt 73).2.1 28 = .ok (.iconst 0, 1) := by decide +kernel
theorem s73_28 {ls : LV} {st : List AV} {m : MM} : go 73 28 ls st m = go 73 29 ls (.inl 0 :: st) m := e_1 d73_28 (Or.inl rfl) rfl
theorem d73_29 : decode (mt 73).2.1 29 = .ok (.iconst 1, 1) := by decide +kernel
theorem s73_29 {ls : LV} {st : List AV} {m : MM} : go 73 29 ls st m = go 73 30 ls (.inl 1 :: st) m := e_1 d73_29 (Or.inl rfl) rfl
theorem d73_30 : decode (mt 73).2.1 30 = .ok (.invokevirtual 109, 3) := by decide +kernel
theorem s73_30 {ls : LV} {m : MM} {x0 : Int32} {x1 : Int32} {n : Nat} : go 73 30 ls [.inl x1, .inl x0, .inr (.inr (6, some n))] m = bd (go 27 0 [some (.inr (.inr (6, some n))), some (.inl x0), some (.inl x1)] [] m) (fun v m2 => go 73 33 ls (v.toList ++ []) m2) := e_virt (y1 := 27) (na := 2) (as := [.inl x0, .inl x1]) (rest := []) d73_30 (by decide +kernel) rfl (by decide +kernel) (show (ent [.inr (.inr (6, some n)), .inl x0, .inl x1]).length ≤ (mt 27).2.2.2.1 from Nat.le_of_ble_eq_true rfl) (cats_le (Nat.le_of_ble_eq_true rfl)) (by decide +kernel)
theorem d73_33 : decode (mt 73).2.1 33 = .ok (.astore_n 2, 1) := by decide +kernel
theorem s73_33i {a0 a2 : Option AV} {z : Int32} {st : List AV} {m : MM} {x : Nat × Option Nat} : go 73 33 [a0, some (.inl z), a2] (.inr (.inr x) :: st) m = go 73 34 [a0, some (.inl z), some (.inr (.inr x))] st m := e_1 d73_33 (Or.inl rfl) rfl
theorem s73_33r {a0 a2 : Option AV} {z : Nat × Option Nat} {st : List AV} {m : MM} {x : Nat × Option Nat} : go 73 33 [a0, some (.inr (.inr z)), a2] (.inr (.inr x) :: st) m = go 73 34 [a0, some (.inr (.inr z)), some (.inr (.inr x))] st m := e_1 d73_33 (Or.inl rfl) rfl
theorem s73_33n {a0 a2 : Option AV} {st : List AV} {m : MM} {x : Nat × Option Nat} : go 73 33 [a0, none, a2] (.inr (.inr x) :: st) m = go 73 34 [a0, none, some (.inr (.inr x))] st m := e_1 d73_33 (Or.inl rfl) rfl
theorem d73_34 : decode (mt 73).2.1 34 = .ok (.aload_n 2, 1) := by decide +kernel
theorem s73_34 {a0 a1 : Option AV} {st : List AV} {m : MM} {x : Nat × Option Nat} : go 73 34 [a0, a1, some (.inr (.inr x))] st m = go 73 35 [a0, a1, some (.inr (.inr x))] (.inr (.inr x) :: st) m := e_1 d73_34 (Or.inl rfl) rfl
theorem d73_35 : decode (mt 73).2.1 35 = .ok (.ifnull 16, 3) := by decide +kernel
theorem s73_35n {u : Nat} {ls : LV} {st : List AV} {m : MM} : go 73 35 ls (.inr (.inr (u, none)) :: st) m = go 73 51 ls st m := e_1 d73_35 (Or.inl rfl) (by rw [xi, jm_some (t := 51) (by decide)]; rfl)
theorem s73_35s {u n : Nat} {ls : LV} {st : List AV} {m : MM} : go 73 35 ls (.inr (.inr (u, some n)) :: st) m = go 73 38 ls st m := e_1 d73_35 (Or.inl rfl) (by rw [xi, jm_some (t := 51) (by decide)]; rfl)
theorem d73_38 : decode (mt 73).2.1 38 = .ok (.aload_n 2, 1) := by decide +kernel
theorem s73_38 {a0 a1 : Option AV} {st : List AV} {m : MM} {x : Nat × Option Nat} : go 73 38 [a0, a1, some (.inr (.inr x))] st m = go 73 39 [a0, a1, some (.inr (.inr x))] (.inr (.inr x) :: st) m := e_1 d73_38 (Or.inl rfl) rfl
theorem d73_39 : decode (mt 73).2.1 39 = .ok (.getfield 58, 3) := by decide +kernel
theorem s73_39 {ls : LV} {st : List AV} {m : MM} {n : Nat} : go 73 39 ls (.inr (.inr (6, some n)) :: st) m = go 73 42 ls (.inl (mI m 6 n 1) :: st) m := e_1 d73_39 (Or.inl rfl) (by rw [xi, pA, show lk fdL (mt 73).2.2.1 58 = some (6, 1) by decide +kernel]; rfl)
theorem d73_42 : decode (mt 73).2.1 42 = .ok (.aload_n 0, 1) := by decide +kernel
theorem s73_42 {a1 a2 : Option AV} {st : List AV} {m : MM} {x : Nat × Option Nat} : go 73 42 [some (.inr (.inr x)), a1, a2] st m = go 73 43 [some (.inr (.inr x)), a1, a2] (.inr (.inr x) :: st) m := e_1 d73_42 (Or.inl rfl) rfl
theorem d73_43 : decode (mt 73).2.1 43 = .ok (.getfield 307, 3) := by decide +kernel
theorem s73_43 {ls : LV} {st : List AV} {m : MM} {n : Nat} : go 73 43 ls (.inr (.inr (1, some n)) :: st) m = go 73 46 ls (.inl (mI m 1 n 3) :: st) m := e_1 d73_43 (Or.inl rfl) (by rw [xi, pA, show lk fdL (mt 73).2.2.1 307 = some (1, 3) by decide +kernel]; rfl)
theorem d73_46 : decode (mt 73).2.1 46 = .ok (.if_icmp .gt 5, 3) := by decide +kernel
theorem s73_46 {ls : LV} {st : List AV} {m : MM} {a b : Int32} : go 73 46 ls (.inl b :: .inl a :: st) m = if b < a then go 73 51 ls st m else go 73 49 ls st m := e_if (t := 51) (b := hc .gt a b) d73_46 (Or.inl rfl) (by simp only [xi, pI, jm_some (t := 51) (show ((46 : Nat) : Int) + 5 = ((51 : Nat) : Int) by decide), Option.bind_some]) (by simp [hc])
theorem d73_49 : decode (mt 73).2.1 49 = .ok (.aload_n 2, 1) := by decide +kernel
theorem s73_49 {a0 a1 : Option AV} {st : List AV} {m : MM} {x : Nat × Option Nat} : go 73 49 [a0, a1, some (.inr (.inr x))] st m = go 73 50 [a0, a1, some (.inr (.inr x))] (.inr (.inr x) :: st) m := e_1 d73_49 (Or.inl rfl) rfl
theorem d73_50 : decode (mt 73).2.1 50 = .ok (.areturn, 1) := by decide +kernel
theorem s73_50 {ls : LV} {m : MM} {x : Nat × Option Nat} : go 73 50 ls [.inr (.inr x)] m = some (some (.inr (.inr x)), m) := e_ref d73_50 rfl
theorem d73_51 : decode (mt 73).2.1 51 = .ok (.aload_n 0, 1) := by decide +kernel
theorem s73_51 {a1 a2 : Option AV} {st : List AV} {m : MM} {x : Nat × Option Nat} : go 73 51 [some (.inr (.inr x)), a1, a2] st m = go 73 52 [some (.inr (.inr x)), a1, a2] (.inr (.inr x) :: st) m := e_1 d73_51 (Or.inl rfl) rfl
theorem d73_52 : decode (mt 73).2.1 52 = .ok (.aload_n 0, 1) := by decide +kernel
theorem s73_52 {a1 a2 : Option AV} {st : List AV} {m : MM} {x : Nat × Option Nat} : go 73 52 [some (.inr (.inr x)), a1, a2] st m = go 73 53 [some (.inr (.inr x)), a1, a2] (.inr (.inr x) :: st) m := e_1 d73_52 (Or.inl rfl) rfl
theorem d73_53 : decode (mt 73).2.1 53 = .ok (.getfield 204, 3) := by decide +kernel
theorem s73_53 {ls : LV} {st : List AV} {m : MM} {n : Nat} : go 73 53 ls (.inr (.inr (1, some n)) :: st) m = go 73 56 ls (.inl (mI m 1 n 10) :: st) m := e_1 d73_53 (Or.inl rfl) (by rw [xi, pA, show lk fdL (mt 73).2.2.1 204 = some (1, 10) by decide +kernel]; rfl)
theorem d73_56 : decode (mt 73).2.1 56 = .ok (.invokevirtual 283, 3) := by decide +kernel
theorem s73_56 {ls : LV} {m : MM} {x0 : Int32} {n : Nat} : go 73 56 ls [.inl x0, .inr (.inr (1, some n))] m = bd (go 3 0 [some (.inr (.inr (1, some n))), some (.inl x0)] [] m) (fun v m2 => go 73 59 ls (v.toList ++ []) m2) := e_virt (y1 := 3) (na := 1) (as := [.inl x0]) (rest := []) d73_56 (by decide +kernel) rfl (by decide +kernel) (show (ent [.inr (.inr (1, some n)), .inl x0]).length ≤ (mt 3).2.2.2.1 from Nat.le_of_ble_eq_true rfl) (cats_le (Nat.le_of_ble_eq_true rfl)) (by decide +kernel)
theorem d73_59 : decode (mt 73).2.1 59 = .ok (.aconst_null, 1) := by decide +kernel
theorem s73_59 {ls : LV} {st : List AV} {m : MM} : go 73 59 ls st m = go 73 60 ls (.inr (.inr (0, none)) :: st) m := e_1 d73_59 (Or.inl rfl) rfl
theorem d73_60 : decode (mt 73).2.1 60 = .ok (.areturn, 1) := by decide +kernel
theorem s73_60 {ls : LV} {m : MM} {x : Nat × Option Nat} : go 73 60 ls [.inr (.inr x)] m = some (some (.inr (.inr x)), m) := e_ref d73_60 rfl
/-! X6_changeComes: 74 -/
theorem d74_0 : decode (mt 74).2.1 0 = .ok (.aload_n 0, 1) := by decide +kernel
theorem s74_0 {a1 a2 : Option AV} {st : List AV} {m : MM} {x : Nat × Option Nat} : go 74 0 [some (.inr (.inr x)), a1, a2] st m = go 74 1 [some (.inr (.inr x)), a1, a2] (.inr (.inr x) :: st) m := e_1 d74_0 (Or.inl rfl) rfl
theorem d74_1 : decode (mt 74).2.1 1 = .ok (.getfield 35, 3) := by decide +kernel
theorem s74_1 {ls : LV} {st : List AV} {m : MM} {n : Nat} : go 74 1 ls (.inr (.inr (7, some n)) :: st) m = go 74 4 ls (.inr (.inr (2, mR m 7 n 7)) :: st) m := e_1 d74_1 (Or.inl rfl) (by rw [xi, pA, show lk fdL (mt 74).2.2.1 35 = some (7, 7) by decide +kernel]; rfl)
theorem d74_4 : decode (mt 74).2.1 4 = .ok (.getfield 137, 3) := by decide +kernel
theorem s74_4 {ls : LV} {st : List AV} {m : MM} {n : Nat} : go 74 4 ls (.inr (.inr (2, some n)) :: st) m = go 74 7 ls (.inr (.inr (6, mR m 2 n 1)) :: st) m := e_1 d74_4 (Or.inl rfl) (by rw [xi, pA, show lk fdL (mt 74).2.2.1 137 = some (2, 1) by decide +kernel]; rfl)
theorem d74_7 : decode (mt 74).2.1 7 = .ok (.astore_n 2, 1) := by decide +kernel
theorem s74_7i {a0 a2 : Option AV} {z : Int32} {st : List AV} {m : MM} {x : Nat × Option Nat} : go 74 7 [a0, some (.inl z), a2] (.inr (.inr x) :: st) m = go 74 8 [a0, some (.inl z), some (.inr (.inr x))] st m := e_1 d74_7 (Or.inl rfl) rfl
theorem s74_7r {a0 a2 : Option AV} {z : Nat × Option Nat} {st : List AV} {m : MM} {x : Nat × Option Nat} : go 74 7 [a0, some (.inr (.inr z)), a2] (.inr (.inr x) :: st) m = go 74 8 [a0, some (.inr (.inr z)), some (.inr (.inr x))] st m := e_1 d74_7 (Or.inl rfl) rfl
theorem s74_7n {a0 a2 : Option AV} {st : List AV} {m : MM} {x : Nat × Option Nat} : go 74 7 [a0, none, a2] (.inr (.inr x) :: st) m = go 74 8 [a0, none, some (.inr (.inr x))] st m := e_1 d74_7 (Or.inl rfl) rfl
theorem d74_8 : decode (mt 74).2.1 8 = .ok (.aload_n 2, 1) := by decide +kernel
theorem s74_8 {a0 a1 : Option AV} {st : List AV} {m : MM} {x : Nat × Option Nat} : go 74 8 [a0, a1, some (.inr (.inr x))] st m = go 74 9 [a0, a1, some (.inr (.inr x))] (.inr (.inr x) :: st) m := e_1 d74_8 (Or.inl rfl) rfl
theorem d74_9 : decode (mt 74).2.1 9 = .ok (.ifnonnull 4, 3) := by decide +kernel
theorem s74_9n {u : Nat} {ls : LV} {st : List AV} {m : MM} : go 74 9 ls (.inr (.inr (u, none)) :: st) m = go 74 12 ls st m := e_1 d74_9 (Or.inl rfl) (by rw [xi, jm_some (t := 13) (by decide)]; rfl)
theorem s74_9s {u n : Nat} {ls : LV} {st : List AV} {m : MM} : go 74 9 ls (.inr (.inr (u, some n)) :: st) m = go 74 13 ls st m := e_1 d74_9 (Or.inl rfl) (by rw [xi, jm_some (t := 13) (by decide)]; rfl)
theorem d74_12 : decode (mt 74).2.1 12 = .ok (.return_, 1) := by decide +kernel
theorem s74_12 {ls : LV} {m : MM} : go 74 12 ls [] m = some (none, m) := e_void d74_12 (by decide +kernel)
theorem d74_13 : decode (mt 74).2.1 13 = .ok (.aload_n 1, 1) := by decide +kernel
theorem s74_13 {a0 a2 : Option AV} {st : List AV} {m : MM} {x : Nat × Option Nat} : go 74 13 [a0, some (.inr (.inr x)), a2] st m = go 74 14 [a0, some (.inr (.inr x)), a2] (.inr (.inr x) :: st) m := e_1 d74_13 (Or.inl rfl) rfl
theorem d74_14 : decode (mt 74).2.1 14 = .ok (.getfield 229, 3) := by decide +kernel
theorem s74_14 {ls : LV} {st : List AV} {m : MM} {n : Nat} : go 74 14 ls (.inr (.inr (4, some n)) :: st) m = go 74 17 ls (.inl (mI m 4 n 0) :: st) m := e_1 d74_14 (Or.inl rfl) (by rw [xi, pA, show lk fdL (mt 74).2.2.1 229 = some (4, 0) by decide +kernel]; rfl)
theorem d74_17 : decode (mt 74).2.1 17 = .ok (.tableswitch 178 5 9 #[35, 47, 93, 130, 150], 35) := by decide +kernel
theorem s74_17_5 {ls : LV} {st : List AV} {m : MM} : go 74 17 ls (.inl 5 :: st) m = go 74 52 ls st m := e_1 d74_17 (Or.inr rfl) (by rw [xi]; rfl)
theorem s74_17_6 {ls : LV} {st : List AV} {m : MM} : go 74 17 ls (.inl 6 :: st) m = go 74 64 ls st m := e_1 d74_17 (Or.inr rfl) (by rw [xi]; rfl)
theorem s74_17_7 {ls : LV} {st : List AV} {m : MM} : go 74 17 ls (.inl 7 :: st) m = go 74 110 ls st m := e_1 d74_17 (Or.inr rfl) (by rw [xi]; rfl)
theorem s74_17_8 {ls : LV} {st : List AV} {m : MM} : go 74 17 ls (.inl 8 :: st) m = go 74 147 ls st m := e_1 d74_17 (Or.inr rfl) (by rw [xi]; rfl)
theorem s74_17_9 {ls : LV} {st : List AV} {m : MM} : go 74 17 ls (.inl 9 :: st) m = go 74 167 ls st m := e_1 d74_17 (Or.inr rfl) (by rw [xi]; rfl)
theorem s74_17_d {ls : LV} {st : List AV} {m : MM} {a : Int32} (h : a.toInt < 5 ∨ 9 < a.toInt) : go 74 17 ls (.inl a :: st) m = go 74 195 ls st m := e_1 d74_17 (Or.inr rfl) (by simp only [xi, pI, if_pos h, jm_some (t := 195) (show ((17 : Nat) : Int) + 178 = ((195 : Nat) : Int) by decide), Option.bind_some]; rw [if_pos (by omega)])
theorem d74_52 : decode (mt 74).2.1 52 = .ok (.aload_n 0, 1) := by decide +kernel
theorem s74_52 {a1 a2 : Option AV} {st : List AV} {m : MM} {x : Nat × Option Nat} : go 74 52 [some (.inr (.inr x)), a1, a2] st m = go 74 53 [some (.inr (.inr x)), a1, a2] (.inr (.inr x) :: st) m := e_1 d74_52 (Or.inl rfl) rfl
theorem d74_53 : decode (mt 74).2.1 53 = .ok (.aload_n 2, 1) := by decide +kernel
theorem s74_53 {a0 a1 : Option AV} {st : List AV} {m : MM} {x : Nat × Option Nat} : go 74 53 [a0, a1, some (.inr (.inr x))] st m = go 74 54 [a0, a1, some (.inr (.inr x))] (.inr (.inr x) :: st) m := e_1 d74_53 (Or.inl rfl) rfl
theorem d74_54 : decode (mt 74).2.1 54 = .ok (.aload_n 1, 1) := by decide +kernel
theorem s74_54 {a0 a2 : Option AV} {st : List AV} {m : MM} {x : Nat × Option Nat} : go 74 54 [a0, some (.inr (.inr x)), a2] st m = go 74 55 [a0, some (.inr (.inr x)), a2] (.inr (.inr x) :: st) m := e_1 d74_54 (Or.inl rfl) rfl
theorem d74_55 : decode (mt 74).2.1 55 = .ok (.getfield 232, 3) := by decide +kernel
theorem s74_55 {ls : LV} {st : List AV} {m : MM} {n : Nat} : go 74 55 ls (.inr (.inr (4, some n)) :: st) m = go 74 58 ls (.inr (.inr (6, mR m 4 n 1)) :: st) m := e_1 d74_55 (Or.inl rfl) (by rw [xi, pA, show lk fdL (mt 74).2.2.1 232 = some (4, 1) by decide +kernel]; rfl)
theorem d74_58 : decode (mt 74).2.1 58 = .ok (.invokevirtual 313, 3) := by decide +kernel
theorem s74_58 {ls : LV} {m : MM} {x0 : Nat × Option Nat} {x1 : Nat × Option Nat} {n : Nat} : go 74 58 ls [.inr (.inr x1), .inr (.inr x0), .inr (.inr (7, some n))] m = bd (go 75 0 [some (.inr (.inr (7, some n))), some (.inr (.inr x0)), some (.inr (.inr x1)), none] [] m) (fun v m2 => go 74 61 ls (v.toList ++ []) m2) := e_virt (y1 := 75) (na := 2) (as := [.inr (.inr x0), .inr (.inr x1)]) (rest := []) d74_58 (by decide +kernel) rfl (by decide +kernel) (show (ent [.inr (.inr (7, some n)), .inr (.inr x0), .inr (.inr x1)]).length ≤ (mt 75).2.2.2.1 from Nat.le_of_ble_eq_true rfl) (cats_le (Nat.le_of_ble_eq_true rfl)) (by decide +kernel)
theorem d74_61 : decode (mt 74).2.1 61 = .ok (.goto 162, 3) := by decide +kernel
theorem s74_61 {ls : LV} {st : List AV} {m : MM} : go 74 61 ls st m = go 74 223 ls st m := e_1 d74_61 (Or.inl rfl) (by rw [xi, jm_some (t := 223) (by decide)]; rfl)
theorem d74_64 : decode (mt 74).2.1 64 = .ok (.aload_n 2, 1) := by decide +kernel
theorem s74_64 {a0 a1 : Option AV} {st : List AV} {m : MM} {x : Nat × Option Nat} : go 74 64 [a0, a1, some (.inr (.inr x))] st m = go 74 65 [a0, a1, some (.inr (.inr x))] (.inr (.inr x) :: st) m := e_1 d74_64 (Or.inl rfl) rfl
theorem d74_65 : decode (mt 74).2.1 65 = .ok (.aload_n 1, 1) := by decide +kernel
theorem s74_65 {a0 a2 : Option AV} {st : List AV} {m : MM} {x : Nat × Option Nat} : go 74 65 [a0, some (.inr (.inr x)), a2] st m = go 74 66 [a0, some (.inr (.inr x)), a2] (.inr (.inr x) :: st) m := e_1 d74_65 (Or.inl rfl) rfl
theorem d74_66 : decode (mt 74).2.1 66 = .ok (.getfield 316, 3) := by decide +kernel
theorem s74_66 {ls : LV} {st : List AV} {m : MM} {n : Nat} : go 74 66 ls (.inr (.inr (4, some n)) :: st) m = go 74 69 ls (.inr (.inr (6, mR m 4 n 5)) :: st) m := e_1 d74_66 (Or.inl rfl) (by rw [xi, pA, show lk fdL (mt 74).2.2.1 316 = some (4, 5) by decide +kernel]; rfl)
theorem d74_69 : decode (mt 74).2.1 69 = .ok (.aload_n 1, 1) := by decide +kernel
theorem s74_69 {a0 a2 : Option AV} {st : List AV} {m : MM} {x : Nat × Option Nat} : go 74 69 [a0, some (.inr (.inr x)), a2] st m = go 74 70 [a0, some (.inr (.inr x)), a2] (.inr (.inr x) :: st) m := e_1 d74_69 (Or.inl rfl) rfl
theorem d74_70 : decode (mt 74).2.1 70 = .ok (.getfield 319, 3) := by decide +kernel
theorem s74_70 {ls : LV} {st : List AV} {m : MM} {n : Nat} : go 74 70 ls (.inr (.inr (4, some n)) :: st) m = go 74 73 ls (.inr (.inr (6, mR m 4 n 6)) :: st) m := e_1 d74_70 (Or.inl rfl) (by rw [xi, pA, show lk fdL (mt 74).2.2.1 319 = some (4, 6) by decide +kernel]; rfl)
theorem d74_73 : decode (mt 74).2.1 73 = .ok (.invokevirtual 76, 3) := by decide +kernel
theorem s74_73 {ls : LV} {m : MM} {x0 : Nat × Option Nat} {x1 : Nat × Option Nat} {n : Nat} : go 74 73 ls [.inr (.inr x1), .inr (.inr x0), .inr (.inr (6, some n))] m = bd (go 34 0 [some (.inr (.inr (6, some n))), some (.inr (.inr x0)), some (.inr (.inr x1))] [] m) (fun v m2 => go 74 76 ls (v.toList ++ []) m2) := e_virt (y1 := 34) (na := 2) (as := [.inr (.inr x0), .inr (.inr x1)]) (rest := []) d74_73 (by decide +kernel) rfl (by decide +kernel) (show (ent [.inr (.inr (6, some n)), .inr (.inr x0), .inr (.inr x1)]).length ≤ (mt 34).2.2.2.1 from Nat.le_of_ble_eq_true rfl) (cats_le (Nat.le_of_ble_eq_true rfl)) (by decide +kernel)
theorem d74_76 : decode (mt 74).2.1 76 = .ok (.aload_n 0, 1) := by decide +kernel
theorem s74_76 {a1 a2 : Option AV} {st : List AV} {m : MM} {x : Nat × Option Nat} : go 74 76 [some (.inr (.inr x)), a1, a2] st m = go 74 77 [some (.inr (.inr x)), a1, a2] (.inr (.inr x) :: st) m := e_1 d74_76 (Or.inl rfl) rfl
theorem d74_77 : decode (mt 74).2.1 77 = .ok (.getfield 35, 3) := by decide +kernel
theorem s74_77 {ls : LV} {st : List AV} {m : MM} {n : Nat} : go 74 77 ls (.inr (.inr (7, some n)) :: st) m = go 74 80 ls (.inr (.inr (2, mR m 7 n 7)) :: st) m := e_1 d74_77 (Or.inl rfl) (by rw [xi, pA, show lk fdL (mt 74).2.2.1 35 = some (7, 7) by decide +kernel]; rfl)
theorem d74_80 : decode (mt 74).2.1 80 = .ok (.getfield 126, 3) := by decide +kernel
theorem s74_80 {ls : LV} {st : List AV} {m : MM} {n : Nat} : go 74 80 ls (.inr (.inr (2, some n)) :: st) m = go 74 83 ls (.inr (.inr (5, mR m 2 n 4)) :: st) m := e_1 d74_80 (Or.inl rfl) (by rw [xi, pA, show lk fdL (mt 74).2.2.1 126 = some (2, 4) by decide +kernel]; rfl)
theorem d74_83 : decode (mt 74).2.1 83 = .ok (.aload_n 2, 1) := by decide +kernel
theorem s74_83 {a0 a1 : Option AV} {st : List AV} {m : MM} {x : Nat × Option Nat} : go 74 83 [a0, a1, some (.inr (.inr x))] st m = go 74 84 [a0, a1, some (.inr (.inr x))] (.inr (.inr x) :: st) m := e_1 d74_83 (Or.inl rfl) rfl
theorem d74_84 : decode (mt 74).2.1 84 = .ok (.getfield 117, 3) := by decide +kernel
theorem s74_84 {ls : LV} {st : List AV} {m : MM} {n : Nat} : go 74 84 ls (.inr (.inr (6, some n)) :: st) m = go 74 87 ls (.inr (.inr (5, mR m 6 n 9)) :: st) m := e_1 d74_84 (Or.inl rfl) (by rw [xi, pA, show lk fdL (mt 74).2.2.1 117 = some (6, 9) by decide +kernel]; rfl)
theorem d74_87 : decode (mt 74).2.1 87 = .ok (.iconst 0, 1) := by decide +kernel
theorem s74_87 {ls : LV} {st : List AV} {m : MM} : go 74 87 ls st m = go 74 88 ls (.inl 0 :: st) m := e_1 d74_87 (Or.inl rfl) rfl
theorem d74_88 : decode (mt 74).2.1 88 = .ok (.aload_n 0, 1) := by decide +kernel
theorem s74_88 {a1 a2 : Option AV} {st : List AV} {m : MM} {x : Nat × Option Nat} : go 74 88 [some (.inr (.inr x)), a1, a2] st m = go 74 89 [some (.inr (.inr x)), a1, a2] (.inr (.inr x) :: st) m := e_1 d74_88 (Or.inl rfl) rfl
theorem d74_89 : decode (mt 74).2.1 89 = .ok (.getfield 35, 3) := by decide +kernel
theorem s74_89 {ls : LV} {st : List AV} {m : MM} {n : Nat} : go 74 89 ls (.inr (.inr (7, some n)) :: st) m = go 74 92 ls (.inr (.inr (2, mR m 7 n 7)) :: st) m := e_1 d74_89 (Or.inl rfl) (by rw [xi, pA, show lk fdL (mt 74).2.2.1 35 = some (7, 7) by decide +kernel]; rfl)
theorem d74_92 : decode (mt 74).2.1 92 = .ok (.getfield 126, 3) := by decide +kernel
theorem s74_92 {ls : LV} {st : List AV} {m : MM} {n : Nat} : go 74 92 ls (.inr (.inr (2, some n)) :: st) m = go 74 95 ls (.inr (.inr (5, mR m 2 n 4)) :: st) m := e_1 d74_92 (Or.inl rfl) (by rw [xi, pA, show lk fdL (mt 74).2.2.1 126 = some (2, 4) by decide +kernel]; rfl)
theorem d74_95 : decode (mt 74).2.1 95 = .ok (.getfield 121, 3) := by decide +kernel
theorem s74_95 {ls : LV} {st : List AV} {m : MM} {n : Nat} : go 74 95 ls (.inr (.inr (5, some n)) :: st) m = go 74 98 ls (.inl (mI m 5 n 2) :: st) m := e_1 d74_95 (Or.inl rfl) (by rw [xi, pA, show lk fdL (mt 74).2.2.1 121 = some (5, 2) by decide +kernel]; rfl)
theorem d74_98 : decode (mt 74).2.1 98 = .ok (.invokevirtual 129, 3) := by decide +kernel
theorem s74_98 {ls : LV} {m : MM} {x0 : Nat × Option Nat} {x1 : Int32} {x2 : Int32} {n : Nat} : go 74 98 ls [.inl x2, .inl x1, .inr (.inr x0), .inr (.inr (5, some n))] m = bd (go 21 0 [some (.inr (.inr (5, some n))), some (.inr (.inr x0)), some (.inl x1), some (.inl x2), none] [] m) (fun v m2 => go 74 101 ls (v.toList ++ []) m2) := e_virt (y1 := 21) (na := 3) (as := [.inr (.inr x0), .inl x1, .inl x2]) (rest := []) d74_98 (by decide +kernel) rfl (by decide +kernel) (show (ent [.inr (.inr (5, some n)), .inr (.inr x0), .inl x1, .inl x2]).length ≤ (mt 21).2.2.2.1 from Nat.le_of_ble_eq_true rfl) (cats_le (Nat.le_of_ble_eq_true rfl)) (by decide +kernel)
theorem d74_101 : decode (mt 74).2.1 101 = .ok (.aload_n 0, 1) := by decide +kernel
theorem s74_101 {a1 a2 : Option AV} {st : List AV} {m : MM} {x : Nat × Option Nat} : go 74 101 [some (.inr (.inr x)), a1, a2] st m = go 74 102 [some (.inr (.inr x)), a1, a2] (.inr (.inr x) :: st) m := e_1 d74_101 (Or.inl rfl) rfl
theorem d74_102 : decode (mt 74).2.1 102 = .ok (.aload_n 2, 1) := by decide +kernel
theorem s74_102 {a0 a1 : Option AV} {st : List AV} {m : MM} {x : Nat × Option Nat} : go 74 102 [a0, a1, some (.inr (.inr x))] st m = go 74 103 [a0, a1, some (.inr (.inr x))] (.inr (.inr x) :: st) m := e_1 d74_102 (Or.inl rfl) rfl
theorem d74_103 : decode (mt 74).2.1 103 = .ok (.iconst 0, 1) := by decide +kernel
theorem s74_103 {ls : LV} {st : List AV} {m : MM} : go 74 103 ls st m = go 74 104 ls (.inl 0 :: st) m := e_1 d74_103 (Or.inl rfl) rfl
theorem d74_104 : decode (mt 74).2.1 104 = .ok (.invokevirtual 322, 3) := by decide +kernel
theorem s74_104 {ls : LV} {m : MM} {x0 : Nat × Option Nat} {x1 : Int32} {n : Nat} : go 74 104 ls [.inl x1, .inr (.inr x0), .inr (.inr (7, some n))] m = bd (go 77 0 [some (.inr (.inr (7, some n))), some (.inr (.inr x0)), some (.inl x1)] [] m) (fun v m2 => go 74 107 ls (v.toList ++ []) m2) := e_virt (y1 := 77) (na := 2) (as := [.inr (.inr x0), .inl x1]) (rest := []) d74_104 (by decide +kernel) rfl (by decide +kernel) (show (ent [.inr (.inr (7, some n)), .inr (.inr x0), .inl x1]).length ≤ (mt 77).2.2.2.1 from Nat.le_of_ble_eq_true rfl) (cats_le (Nat.le_of_ble_eq_true rfl)) (by decide +kernel)
theorem d74_107 : decode (mt 74).2.1 107 = .ok (.goto 116, 3) := by decide +kernel
theorem s74_107 {ls : LV} {st : List AV} {m : MM} : go 74 107 ls st m = go 74 223 ls st m := e_1 d74_107 (Or.inl rfl) (by rw [xi, jm_some (t := 223) (by decide)]; rfl)
theorem d74_110 : decode (mt 74).2.1 110 = .ok (.aload_n 0, 1) := by decide +kernel
theorem s74_110 {a1 a2 : Option AV} {st : List AV} {m : MM} {x : Nat × Option Nat} : go 74 110 [some (.inr (.inr x)), a1, a2] st m = go 74 111 [some (.inr (.inr x)), a1, a2] (.inr (.inr x) :: st) m := e_1 d74_110 (Or.inl rfl) rfl
theorem d74_111 : decode (mt 74).2.1 111 = .ok (.aload_n 1, 1) := by decide +kernel
theorem s74_111 {a0 a2 : Option AV} {st : List AV} {m : MM} {x : Nat × Option Nat} : go 74 111 [a0, some (.inr (.inr x)), a2] st m = go 74 112 [a0, some (.inr (.inr x)), a2] (.inr (.inr x) :: st) m := e_1 d74_111 (Or.inl rfl) rfl
theorem d74_112 : decode (mt 74).2.1 112 = .ok (.getfield 232, 3) := by decide +kernel
theorem s74_112 {ls : LV} {st : List AV} {m : MM} {n : Nat} : go 74 112 ls (.inr (.inr (4, some n)) :: st) m = go 74 115 ls (.inr (.inr (6, mR m 4 n 1)) :: st) m := e_1 d74_112 (Or.inl rfl) (by rw [xi, pA, show lk fdL (mt 74).2.2.1 232 = some (4, 1) by decide +kernel]; rfl)
theorem d74_115 : decode (mt 74).2.1 115 = .ok (.aload_n 1, 1) := by decide +kernel
theorem s74_115 {a0 a2 : Option AV} {st : List AV} {m : MM} {x : Nat × Option Nat} : go 74 115 [a0, some (.inr (.inr x)), a2] st m = go 74 116 [a0, some (.inr (.inr x)), a2] (.inr (.inr x) :: st) m := e_1 d74_115 (Or.inl rfl) rfl
theorem d74_116 : decode (mt 74).2.1 116 = .ok (.getfield 240, 3) := by decide +kernel
theorem s74_116 {ls : LV} {st : List AV} {m : MM} {n : Nat} : go 74 116 ls (.inr (.inr (4, some n)) :: st) m = go 74 119 ls (.inl (mI m 4 n 3) :: st) m := e_1 d74_116 (Or.inl rfl) (by rw [xi, pA, show lk fdL (mt 74).2.2.1 240 = some (4, 3) by decide +kernel]; rfl)
theorem d74_119 : decode (mt 74).2.1 119 = .ok (.aload_n 1, 1) := by decide +kernel
theorem s74_119 {a0 a2 : Option AV} {st : List AV} {m : MM} {x : Nat × Option Nat} : go 74 119 [a0, some (.inr (.inr x)), a2] st m = go 74 120 [a0, some (.inr (.inr x)), a2] (.inr (.inr x) :: st) m := e_1 d74_119 (Or.inl rfl) rfl
theorem d74_120 : decode (mt 74).2.1 120 = .ok (.getfield 325, 3) := by decide +kernel
theorem s74_120 {ls : LV} {st : List AV} {m : MM} {n : Nat} : go 74 120 ls (.inr (.inr (4, some n)) :: st) m = go 74 123 ls (.inl (mI m 4 n 4) :: st) m := e_1 d74_120 (Or.inl rfl) (by rw [xi, pA, show lk fdL (mt 74).2.2.1 325 = some (4, 4) by decide +kernel]; rfl)
theorem d74_123 : decode (mt 74).2.1 123 = .ok (.aload_n 1, 1) := by decide +kernel
theorem s74_123 {a0 a2 : Option AV} {st : List AV} {m : MM} {x : Nat × Option Nat} : go 74 123 [a0, some (.inr (.inr x)), a2] st m = go 74 124 [a0, some (.inr (.inr x)), a2] (.inr (.inr x) :: st) m := e_1 d74_123 (Or.inl rfl) rfl
theorem d74_124 : decode (mt 74).2.1 124 = .ok (.getfield 325, 3) := by decide +kernel
theorem s74_124 {ls : LV} {st : List AV} {m : MM} {n : Nat} : go 74 124 ls (.inr (.inr (4, some n)) :: st) m = go 74 127 ls (.inl (mI m 4 n 4) :: st) m := e_1 d74_124 (Or.inl rfl) (by rw [xi, pA, show lk fdL (mt 74).2.2.1 325 = some (4, 4) by decide +kernel]; rfl)
theorem d74_127 : decode (mt 74).2.1 127 = .ok (.ifCond .ne 10, 3) := by decide +kernel
theorem s74_127 {ls : LV} {st : List AV} {m : MM} {a : Int32} : go 74 127 ls (.inl a :: st) m = if ¬ a = 0 then go 74 137 ls st m else go 74 130 ls st m := e_if (t := 137) (b := hc .ne a 0) d74_127 (Or.inl rfl) (by simp only [xi, pI, jm_some (t := 137) (show ((127 : Nat) : Int) + 10 = ((137 : Nat) : Int) by decide), Option.bind_some]) (by simp [hc])
theorem d74_130 : decode (mt 74).2.1 130 = .ok (.aload_n 1, 1) := by decide +kernel
theorem s74_130 {a0 a2 : Option AV} {st : List AV} {m : MM} {x : Nat × Option Nat} : go 74 130 [a0, some (.inr (.inr x)), a2] st m = go 74 131 [a0, some (.inr (.inr x)), a2] (.inr (.inr x) :: st) m := e_1 d74_130 (Or.inl rfl) rfl
theorem d74_131 : decode (mt 74).2.1 131 = .ok (.getfield 316, 3) := by decide +kernel
theorem s74_131 {ls : LV} {st : List AV} {m : MM} {n : Nat} : go 74 131 ls (.inr (.inr (4, some n)) :: st) m = go 74 134 ls (.inr (.inr (6, mR m 4 n 5)) :: st) m := e_1 d74_131 (Or.inl rfl) (by rw [xi, pA, show lk fdL (mt 74).2.2.1 316 = some (4, 5) by decide +kernel]; rfl)
theorem d74_134 : decode (mt 74).2.1 134 = .ok (.goto 7, 3) := by decide +kernel
theorem s74_134 {ls : LV} {st : List AV} {m : MM} : go 74 134 ls st m = go 74 141 ls st m := e_1 d74_134 (Or.inl rfl) (by rw [xi, jm_some (t := 141) (by decide)]; rfl)
theorem d74_137 : decode (mt 74).2.1 137 = .ok (.aload_n 1, 1) := by decide +kernel
theorem s74_137 {a0 a2 : Option AV} {st : List AV} {m : MM} {x : Nat × Option Nat} : go 74 137 [a0, some (.inr (.inr x)), a2] st m = go 74 138 [a0, some (.inr (.inr x)), a2] (.inr (.inr x) :: st) m := e_1 d74_137 (Or.inl rfl) rfl
theorem d74_138 : decode (mt 74).2.1 138 = .ok (.getfield 319, 3) := by decide +kernel
theorem s74_138 {ls : LV} {st : List AV} {m : MM} {n : Nat} : go 74 138 ls (.inr (.inr (4, some n)) :: st) m = go 74 141 ls (.inr (.inr (6, mR m 4 n 6)) :: st) m := e_1 d74_138 (Or.inl rfl) (by rw [xi, pA, show lk fdL (mt 74).2.2.1 319 = some (4, 6) by decide +kernel]; rfl)
theorem d74_141 : decode (mt 74).2.1 141 = .ok (.invokevirtual 328, 3) := by decide +kernel
theorem s74_141 {ls : LV} {m : MM} {x0 : Nat × Option Nat} {x1 : Int32} {x2 : Int32} {x3 : Nat × Option Nat} {n : Nat} : go 74 141 ls [.inr (.inr x3), .inl x2, .inl x1, .inr (.inr x0), .inr (.inr (7, some n))] m = bd (go 81 0 [some (.inr (.inr (7, some n))), some (.inr (.inr x0)), some (.inl x1), some (.inl x2), some (.inr (.inr x3)), none, none] [] m) (fun v m2 => go 74 144 ls (v.toList ++ []) m2) := e_virt (y1 := 81) (na := 4) (as := [.inr (.inr x0), .inl x1, .inl x2, .inr (.inr x3)]) (rest := []) d74_141 (by decide +kernel) rfl (by decide +kernel) (show (ent [.inr (.inr (7, some n)), .inr (.inr x0), .inl x1, .inl x2, .inr (.inr x3)]).length ≤ (mt 81).2.2.2.1 from Nat.le_of_ble_eq_true rfl) (cats_le (Nat.le_of_ble_eq_true rfl)) (by decide +kernel)
theorem d74_144 : decode (mt 74).2.1 144 = .ok (.goto 79, 3) := by decide +kernel
theorem s74_144 {ls : LV} {st : List AV} {m : MM} : go 74 144 ls st m = go 74 223 ls st m := e_1 d74_144 (Or.inl rfl) (by rw [xi, jm_some (t := 223) (by decide)]; rfl)
theorem d74_147 : decode (mt 74).2.1 147 = .ok (.aload_n 0, 1) := by decide +kernel
theorem s74_147 {a1 a2 : Option AV} {st : List AV} {m : MM} {x : Nat × Option Nat} : go 74 147 [some (.inr (.inr x)), a1, a2] st m = go 74 148 [some (.inr (.inr x)), a1, a2] (.inr (.inr x) :: st) m := e_1 d74_147 (Or.inl rfl) rfl
theorem d74_148 : decode (mt 74).2.1 148 = .ok (.aload_n 2, 1) := by decide +kernel
theorem s74_148 {a0 a1 : Option AV} {st : List AV} {m : MM} {x : Nat × Option Nat} : go 74 148 [a0, a1, some (.inr (.inr x))] st m = go 74 149 [a0, a1, some (.inr (.inr x))] (.inr (.inr x) :: st) m := e_1 d74_148 (Or.inl rfl) rfl
theorem d74_149 : decode (mt 74).2.1 149 = .ok (.aload_n 1, 1) := by decide +kernel
theorem s74_149 {a0 a2 : Option AV} {st : List AV} {m : MM} {x : Nat × Option Nat} : go 74 149 [a0, some (.inr (.inr x)), a2] st m = go 74 150 [a0, some (.inr (.inr x)), a2] (.inr (.inr x) :: st) m := e_1 d74_149 (Or.inl rfl) rfl
theorem d74_150 : decode (mt 74).2.1 150 = .ok (.getfield 232, 3) := by decide +kernel
theorem s74_150 {ls : LV} {st : List AV} {m : MM} {n : Nat} : go 74 150 ls (.inr (.inr (4, some n)) :: st) m = go 74 153 ls (.inr (.inr (6, mR m 4 n 1)) :: st) m := e_1 d74_150 (Or.inl rfl) (by rw [xi, pA, show lk fdL (mt 74).2.2.1 232 = some (4, 1) by decide +kernel]; rfl)
theorem d74_153 : decode (mt 74).2.1 153 = .ok (.aload_n 1, 1) := by decide +kernel
theorem s74_153 {a0 a2 : Option AV} {st : List AV} {m : MM} {x : Nat × Option Nat} : go 74 153 [a0, some (.inr (.inr x)), a2] st m = go 74 154 [a0, some (.inr (.inr x)), a2] (.inr (.inr x) :: st) m := e_1 d74_153 (Or.inl rfl) rfl
theorem d74_154 : decode (mt 74).2.1 154 = .ok (.getfield 240, 3) := by decide +kernel
theorem s74_154 {ls : LV} {st : List AV} {m : MM} {n : Nat} : go 74 154 ls (.inr (.inr (4, some n)) :: st) m = go 74 157 ls (.inl (mI m 4 n 3) :: st) m := e_1 d74_154 (Or.inl rfl) (by rw [xi, pA, show lk fdL (mt 74).2.2.1 240 = some (4, 3) by decide +kernel]; rfl)
theorem d74_157 : decode (mt 74).2.1 157 = .ok (.aload_n 1, 1) := by decide +kernel
theorem s74_157 {a0 a2 : Option AV} {st : List AV} {m : MM} {x : Nat × Option Nat} : go 74 157 [a0, some (.inr (.inr x)), a2] st m = go 74 158 [a0, some (.inr (.inr x)), a2] (.inr (.inr x) :: st) m := e_1 d74_157 (Or.inl rfl) rfl
theorem d74_158 : decode (mt 74).2.1 158 = .ok (.getfield 325, 3) := by decide +kernel
theorem s74_158 {ls : LV} {st : List AV} {m : MM} {n : Nat} : go 74 158 ls (.inr (.inr (4, some n)) :: st) m = go 74 161 ls (.inl (mI m 4 n 4) :: st) m := e_1 d74_158 (Or.inl rfl) (by rw [xi, pA, show lk fdL (mt 74).2.2.1 325 = some (4, 4) by decide +kernel]; rfl)
theorem d74_161 : decode (mt 74).2.1 161 = .ok (.invokevirtual 331, 3) := by decide +kernel
theorem s74_161 {ls : LV} {m : MM} {x0 : Nat × Option Nat} {x1 : Nat × Option Nat} {x2 : Int32} {x3 : Int32} {n : Nat} : go 74 161 ls [.inl x3, .inl x2, .inr (.inr x1), .inr (.inr x0), .inr (.inr (7, some n))] m = bd (go 79 0 [some (.inr (.inr (7, some n))), some (.inr (.inr x0)), some (.inr (.inr x1)), some (.inl x2), some (.inl x3), none, none] [] m) (fun v m2 => go 74 164 ls (v.toList ++ []) m2) := e_virt (y1 := 79) (na := 4) (as := [.inr (.inr x0), .inr (.inr x1), .inl x2, .inl x3]) (rest := []) d74_161 (by decide +kernel) rfl (by decide +kernel) (show (ent [.inr (.inr (7, some n)), .inr (.inr x0), .inr (.inr x1), .inl x2, .inl x3]).length ≤ (mt 79).2.2.2.1 from Nat.le_of_ble_eq_true rfl) (cats_le (Nat.le_of_ble_eq_true rfl)) (by decide +kernel)
theorem d74_164 : decode (mt 74).2.1 164 = .ok (.goto 59, 3) := by decide +kernel
theorem s74_164 {ls : LV} {st : List AV} {m : MM} : go 74 164 ls st m = go 74 223 ls st m := e_1 d74_164 (Or.inl rfl) (by rw [xi, jm_some (t := 223) (by decide)]; rfl)
theorem d74_167 : decode (mt 74).2.1 167 = .ok (.aload_n 2, 1) := by decide +kernel
theorem s74_167 {a0 a1 : Option AV} {st : List AV} {m : MM} {x : Nat × Option Nat} : go 74 167 [a0, a1, some (.inr (.inr x))] st m = go 74 168 [a0, a1, some (.inr (.inr x))] (.inr (.inr x) :: st) m := e_1 d74_167 (Or.inl rfl) rfl
theorem d74_168 : decode (mt 74).2.1 168 = .ok (.aload_n 1, 1) := by decide +kernel
theorem s74_168 {a0 a2 : Option AV} {st : List AV} {m : MM} {x : Nat × Option Nat} : go 74 168 [a0, some (.inr (.inr x)), a2] st m = go 74 169 [a0, some (.inr (.inr x)), a2] (.inr (.inr x) :: st) m := e_1 d74_168 (Or.inl rfl) rfl
theorem d74_169 : decode (mt 74).2.1 169 = .ok (.getfield 240, 3) := by decide +kernel
theorem s74_169 {ls : LV} {st : List AV} {m : MM} {n : Nat} : go 74 169 ls (.inr (.inr (4, some n)) :: st) m = go 74 172 ls (.inl (mI m 4 n 3) :: st) m := e_1 d74_169 (Or.inl rfl) (by rw [xi, pA, show lk fdL (mt 74).2.2.1 240 = some (4, 3) by decide +kernel]; rfl)
theorem d74_172 : decode (mt 74).2.1 172 = .ok (.aload_n 1, 1) := by decide +kernel
theorem s74_172 {a0 a2 : Option AV} {st : List AV} {m : MM} {x : Nat × Option Nat} : go 74 172 [a0, some (.inr (.inr x)), a2] st m = go 74 173 [a0, some (.inr (.inr x)), a2] (.inr (.inr x) :: st) m := e_1 d74_172 (Or.inl rfl) rfl
theorem d74_173 : decode (mt 74).2.1 173 = .ok (.getfield 316, 3) := by decide +kernel
theorem s74_173 {ls : LV} {st : List AV} {m : MM} {n : Nat} : go 74 173 ls (.inr (.inr (4, some n)) :: st) m = go 74 176 ls (.inr (.inr (6, mR m 4 n 5)) :: st) m := e_1 d74_173 (Or.inl rfl) (by rw [xi, pA, show lk fdL (mt 74).2.2.1 316 = some (4, 5) by decide +kernel]; rfl)
theorem d74_176 : decode (mt 74).2.1 176 = .ok (.aload_n 1, 1) := by decide +kernel
theorem s74_176 {a0 a2 : Option AV} {st : List AV} {m : MM} {x : Nat × Option Nat} : go 74 176 [a0, some (.inr (.inr x)), a2] st m = go 74 177 [a0, some (.inr (.inr x)), a2] (.inr (.inr x) :: st) m := e_1 d74_176 (Or.inl rfl) rfl
theorem d74_177 : decode (mt 74).2.1 177 = .ok (.getfield 319, 3) := by decide +kernel
theorem s74_177 {ls : LV} {st : List AV} {m : MM} {n : Nat} : go 74 177 ls (.inr (.inr (4, some n)) :: st) m = go 74 180 ls (.inr (.inr (6, mR m 4 n 6)) :: st) m := e_1 d74_177 (Or.inl rfl) (by rw [xi, pA, show lk fdL (mt 74).2.2.1 319 = some (4, 6) by decide +kernel]; rfl)
theorem d74_180 : decode (mt 74).2.1 180 = .ok (.invokevirtual 335, 3) := by decide +kernel
theorem s74_180 {ls : LV} {m : MM} {x0 : Int32} {x1 : Nat × Option Nat} {x2 : Nat × Option Nat} {n : Nat} : go 74 180 ls [.inr (.inr x2), .inr (.inr x1), .inl x0, .inr (.inr (6, some n))] m = bd (go 31 0 [some (.inr (.inr (6, some n))), some (.inl x0), some (.inr (.inr x1)), some (.inr (.inr x2))] [] m) (fun v m2 => go 74 183 ls (v.toList ++ []) m2) := e_virt (y1 := 31) (na := 3) (as := [.inl x0, .inr (.inr x1), .inr (.inr x2)]) (rest := []) d74_180 (by decide +kernel) rfl (by decide +kernel) (show (ent [.inr (.inr (6, some n)), .inl x0, .inr (.inr x1), .inr (.inr x2)]).length ≤ (mt 31).2.2.2.1 from Nat.le_of_ble_eq_true rfl) (cats_le (Nat.le_of_ble_eq_true rfl)) (by decide +kernel)
theorem d74_183 : decode (mt 74).2.1 183 = .ok (.aload_n 0, 1) := by decide +kernel
theorem s74_183 {a1 a2 : Option AV} {st : List AV} {m : MM} {x : Nat × Option Nat} : go 74 183 [some (.inr (.inr x)), a1, a2] st m = go 74 184 [some (.inr (.inr x)), a1, a2] (.inr (.inr x) :: st) m := e_1 d74_183 (Or.inl rfl) rfl
theorem d74_184 : decode (mt 74).2.1 184 = .ok (.aload_n 2, 1) := by decide +kernel
theorem s74_184 {a0 a1 : Option AV} {st : List AV} {m : MM} {x : Nat × Option Nat} : go 74 184 [a0, a1, some (.inr (.inr x))] st m = go 74 185 [a0, a1, some (.inr (.inr x))] (.inr (.inr x) :: st) m := e_1 d74_184 (Or.inl rfl) rfl
theorem d74_185 : decode (mt 74).2.1 185 = .ok (.aload_n 1, 1) := by decide +kernel
theorem s74_185 {a0 a2 : Option AV} {st : List AV} {m : MM} {x : Nat × Option Nat} : go 74 185 [a0, some (.inr (.inr x)), a2] st m = go 74 186 [a0, some (.inr (.inr x)), a2] (.inr (.inr x) :: st) m := e_1 d74_185 (Or.inl rfl) rfl
theorem d74_186 : decode (mt 74).2.1 186 = .ok (.getfield 240, 3) := by decide +kernel
theorem s74_186 {ls : LV} {st : List AV} {m : MM} {n : Nat} : go 74 186 ls (.inr (.inr (4, some n)) :: st) m = go 74 189 ls (.inl (mI m 4 n 3) :: st) m := e_1 d74_186 (Or.inl rfl) (by rw [xi, pA, show lk fdL (mt 74).2.2.1 240 = some (4, 3) by decide +kernel]; rfl)
theorem d74_189 : decode (mt 74).2.1 189 = .ok (.invokevirtual 322, 3) := by decide +kernel
theorem s74_189 {ls : LV} {m : MM} {x0 : Nat × Option Nat} {x1 : Int32} {n : Nat} : go 74 189 ls [.inl x1, .inr (.inr x0), .inr (.inr (7, some n))] m = bd (go 77 0 [some (.inr (.inr (7, some n))), some (.inr (.inr x0)), some (.inl x1)] [] m) (fun v m2 => go 74 192 ls (v.toList ++ []) m2) := e_virt (y1 := 77) (na := 2) (as := [.inr (.inr x0), .inl x1]) (rest := []) d74_189 (by decide +kernel) rfl (by decide +kernel) (show (ent [.inr (.inr (7, some n)), .inr (.inr x0), .inl x1]).length ≤ (mt 77).2.2.2.1 from Nat.le_of_ble_eq_true rfl) (cats_le (Nat.le_of_ble_eq_true rfl)) (by decide +kernel)
theorem d74_192 : decode (mt 74).2.1 192 = .ok (.goto 31, 3) := by decide +kernel
theorem s74_192 {ls : LV} {st : List AV} {m : MM} : go 74 192 ls st m = go 74 223 ls st m := e_1 d74_192 (Or.inl rfl) (by rw [xi, jm_some (t := 223) (by decide)]; rfl)
theorem d74_195 : decode (mt 74).2.1 195 = .ok (.aload_n 0, 1) := by decide +kernel
theorem s74_195 {a1 a2 : Option AV} {st : List AV} {m : MM} {x : Nat × Option Nat} : go 74 195 [some (.inr (.inr x)), a1, a2] st m = go 74 196 [some (.inr (.inr x)), a1, a2] (.inr (.inr x) :: st) m := e_1 d74_195 (Or.inl rfl) rfl
theorem d74_196 : decode (mt 74).2.1 196 = .ok (.getfield 35, 3) := by decide +kernel
theorem s74_196 {ls : LV} {st : List AV} {m : MM} {n : Nat} : go 74 196 ls (.inr (.inr (7, some n)) :: st) m = go 74 199 ls (.inr (.inr (2, mR m 7 n 7)) :: st) m := e_1 d74_196 (Or.inl rfl) (by rw [xi, pA, show lk fdL (mt 74).2.2.1 35 = some (7, 7) by decide +kernel]; rfl)
theorem d74_199 : decode (mt 74).2.1 199 = .ok (.getfield 126, 3) := by decide +kernel
theorem s74_199 {ls : LV} {st : List AV} {m : MM} {n : Nat} : go 74 199 ls (.inr (.inr (2, some n)) :: st) m = go 74 202 ls (.inr (.inr (5, mR m 2 n 4)) :: st) m := e_1 d74_199 (Or.inl rfl) (by rw [xi, pA, show lk fdL (mt 74).2.2.1 126 = some (2, 4) by decide +kernel]; rfl)
theorem d74_202 : decode (mt 74).2.1 202 = .ok (.aload_n 1, 1) := by decide +kernel
theorem s74_202 {a0 a2 : Option AV} {st : List AV} {m : MM} {x : Nat × Option Nat} : go 74 202 [a0, some (.inr (.inr x)), a2] st m = go 74 203 [a0, some (.inr (.inr x)), a2] (.inr (.inr x) :: st) m := e_1 d74_202 (Or.inl rfl) rfl
theorem d74_203 : decode (mt 74).2.1 203 = .ok (.getfield 232, 3) := by decide +kernel
theorem s74_203 {ls : LV} {st : List AV} {m : MM} {n : Nat} : go 74 203 ls (.inr (.inr (4, some n)) :: st) m = go 74 206 ls (.inr (.inr (6, mR m 4 n 1)) :: st) m := e_1 d74_203 (Or.inl rfl) (by rw [xi, pA, show lk fdL (mt 74).2.2.1 232 = some (4, 1) by decide +kernel]; rfl)
theorem d74_206 : decode (mt 74).2.1 206 = .ok (.getfield 117, 3) := by decide +kernel
theorem s74_206 {ls : LV} {st : List AV} {m : MM} {n : Nat} : go 74 206 ls (.inr (.inr (6, some n)) :: st) m = go 74 209 ls (.inr (.inr (5, mR m 6 n 9)) :: st) m := e_1 d74_206 (Or.inl rfl) (by rw [xi, pA, show lk fdL (mt 74).2.2.1 117 = some (6, 9) by decide +kernel]; rfl)
theorem d74_209 : decode (mt 74).2.1 209 = .ok (.iconst 0, 1) := by decide +kernel
theorem s74_209 {ls : LV} {st : List AV} {m : MM} : go 74 209 ls st m = go 74 210 ls (.inl 0 :: st) m := e_1 d74_209 (Or.inl rfl) rfl
theorem d74_210 : decode (mt 74).2.1 210 = .ok (.aload_n 0, 1) := by decide +kernel
theorem s74_210 {a1 a2 : Option AV} {st : List AV} {m : MM} {x : Nat × Option Nat} : go 74 210 [some (.inr (.inr x)), a1, a2] st m = go 74 211 [some (.inr (.inr x)), a1, a2] (.inr (.inr x) :: st) m := e_1 d74_210 (Or.inl rfl) rfl
theorem d74_211 : decode (mt 74).2.1 211 = .ok (.getfield 35, 3) := by decide +kernel
theorem s74_211 {ls : LV} {st : List AV} {m : MM} {n : Nat} : go 74 211 ls (.inr (.inr (7, some n)) :: st) m = go 74 214 ls (.inr (.inr (2, mR m 7 n 7)) :: st) m := e_1 d74_211 (Or.inl rfl) (by rw [xi, pA, show lk fdL (mt 74).2.2.1 35 = some (7, 7) by decide +kernel]; rfl)
theorem d74_214 : decode (mt 74).2.1 214 = .ok (.getfield 126, 3) := by decide +kernel
theorem s74_214 {ls : LV} {st : List AV} {m : MM} {n : Nat} : go 74 214 ls (.inr (.inr (2, some n)) :: st) m = go 74 217 ls (.inr (.inr (5, mR m 2 n 4)) :: st) m := e_1 d74_214 (Or.inl rfl) (by rw [xi, pA, show lk fdL (mt 74).2.2.1 126 = some (2, 4) by decide +kernel]; rfl)
theorem d74_217 : decode (mt 74).2.1 217 = .ok (.getfield 121, 3) := by decide +kernel
theorem s74_217 {ls : LV} {st : List AV} {m : MM} {n : Nat} : go 74 217 ls (.inr (.inr (5, some n)) :: st) m = go 74 220 ls (.inl (mI m 5 n 2) :: st) m := e_1 d74_217 (Or.inl rfl) (by rw [xi, pA, show lk fdL (mt 74).2.2.1 121 = some (5, 2) by decide +kernel]; rfl)
theorem d74_220 : decode (mt 74).2.1 220 = .ok (.invokevirtual 129, 3) := by decide +kernel
theorem s74_220 {ls : LV} {m : MM} {x0 : Nat × Option Nat} {x1 : Int32} {x2 : Int32} {n : Nat} : go 74 220 ls [.inl x2, .inl x1, .inr (.inr x0), .inr (.inr (5, some n))] m = bd (go 21 0 [some (.inr (.inr (5, some n))), some (.inr (.inr x0)), some (.inl x1), some (.inl x2), none] [] m) (fun v m2 => go 74 223 ls (v.toList ++ []) m2) := e_virt (y1 := 21) (na := 3) (as := [.inr (.inr x0), .inl x1, .inl x2]) (rest := []) d74_220 (by decide +kernel) rfl (by decide +kernel) (show (ent [.inr (.inr (5, some n)), .inr (.inr x0), .inl x1, .inl x2]).length ≤ (mt 21).2.2.2.1 from Nat.le_of_ble_eq_true rfl) (cats_le (Nat.le_of_ble_eq_true rfl)) (by decide +kernel)
theorem d74_223 : decode (mt 74).2.1 223 = .ok (.return_, 1) := by decide +kernel
theorem s74_223 {ls : LV} {m : MM} : go 74 223 ls [] m = some (none, m) := e_void d74_223 (by decide +kernel)
/-! X6_joinComes: 75 -/
theorem d75_0 : decode (mt 75).2.1 0 = .ok (.aload_n 2, 1) := by decide +kernel
theorem s75_0 {a0 a1 a3 : Option AV} {st : List AV} {m : MM} {x : Nat × Option Nat} : go 75 0 [a0, a1, some (.inr (.inr x)), a3] st m = go 75 1 [a0, a1, some (.inr (.inr x)), a3] (.inr (.inr x) :: st) m := e_1 d75_0 (Or.inl rfl) rfl
theorem d75_1 : decode (mt 75).2.1 1 = .ok (.aload_n 1, 1) := by decide +kernel
theorem s75_1 {a0 a2 a3 : Option AV} {st : List AV} {m : MM} {x : Nat × Option Nat} : go 75 1 [a0, some (.inr (.inr x)), a2, a3] st m = go 75 2 [a0, some (.inr (.inr x)), a2, a3] (.inr (.inr x) :: st) m := e_1 d75_1 (Or.inl rfl) rfl
theorem d75_2 : decode (mt 75).2.1 2 = .ok (.getfield 58, 3) := by decide +kernel
theorem s75_2 {ls : LV} {st : List AV} {m : MM} {n : Nat} : go 75 2 ls (.inr (.inr (6, some n)) :: st) m = go 75 5 ls (.inl (mI m 6 n 1) :: st) m := e_1 d75_2 (Or.inl rfl) (by rw [xi, pA, show lk fdL (mt 75).2.2.1 58 = some (6, 1) by decide +kernel]; rfl)
theorem d75_5 : decode (mt 75).2.1 5 = .ok (.invokevirtual 273, 3) := by decide +kernel
theorem s75_5 {ls : LV} {m : MM} {x0 : Int32} {n : Nat} : go 75 5 ls [.inl x0, .inr (.inr (6, some n))] m = bd (go 36 0 [some (.inr (.inr (6, some n))), some (.inl x0), none, none, none] [] m) (fun v m2 => go 75 8 ls (v.toList ++ []) m2) := e_virt (y1 := 36) (na := 1) (as := [.inl x0]) (rest := []) d75_5 (by decide +kernel) rfl (by decide +kernel) (show (ent [.inr (.inr (6, some n)), .inl x0]).length ≤ (mt 36).2.2.2.1 from Nat.le_of_ble_eq_true rfl) (cats_le (Nat.le_of_ble_eq_true rfl)) (by decide +kernel)
theorem d75_8 : decode (mt 75).2.1 8 = .ok (.astore_n 3, 1) := by decide +kernel
theorem s75_8i {a0 a1 a3 : Option AV} {z : Int32} {st : List AV} {m : MM} {x : Nat × Option Nat} : go 75 8 [a0, a1, some (.inl z), a3] (.inr (.inr x) :: st) m = go 75 9 [a0, a1, some (.inl z), some (.inr (.inr x))] st m := e_1 d75_8 (Or.inl rfl) rfl
theorem s75_8r {a0 a1 a3 : Option AV} {z : Nat × Option Nat} {st : List AV} {m : MM} {x : Nat × Option Nat} : go 75 8 [a0, a1, some (.inr (.inr z)), a3] (.inr (.inr x) :: st) m = go 75 9 [a0, a1, some (.inr (.inr z)), some (.inr (.inr x))] st m := e_1 d75_8 (Or.inl rfl) rfl
theorem s75_8n {a0 a1 a3 : Option AV} {st : List AV} {m : MM} {x : Nat × Option Nat} : go 75 8 [a0, a1, none, a3] (.inr (.inr x) :: st) m = go 75 9 [a0, a1, none, some (.inr (.inr x))] st m := e_1 d75_8 (Or.inl rfl) rfl
theorem d75_9 : decode (mt 75).2.1 9 = .ok (.aload_n 3, 1) := by decide +kernel
theorem s75_9 {a0 a1 a2 : Option AV} {st : List AV} {m : MM} {x : Nat × Option Nat} : go 75 9 [a0, a1, a2, some (.inr (.inr x))] st m = go 75 10 [a0, a1, a2, some (.inr (.inr x))] (.inr (.inr x) :: st) m := e_1 d75_9 (Or.inl rfl) rfl
theorem d75_10 : decode (mt 75).2.1 10 = .ok (.ifnull 15, 3) := by decide +kernel
theorem s75_10n {u : Nat} {ls : LV} {st : List AV} {m : MM} : go 75 10 ls (.inr (.inr (u, none)) :: st) m = go 75 25 ls st m := e_1 d75_10 (Or.inl rfl) (by rw [xi, jm_some (t := 25) (by decide)]; rfl)
theorem s75_10s {u n : Nat} {ls : LV} {st : List AV} {m : MM} : go 75 10 ls (.inr (.inr (u, some n)) :: st) m = go 75 13 ls st m := e_1 d75_10 (Or.inl rfl) (by rw [xi, jm_some (t := 25) (by decide)]; rfl)
theorem d75_13 : decode (mt 75).2.1 13 = .ok (.aload_n 0, 1) := by decide +kernel
theorem s75_13 {a1 a2 a3 : Option AV} {st : List AV} {m : MM} {x : Nat × Option Nat} : go 75 13 [some (.inr (.inr x)), a1, a2, a3] st m = go 75 14 [some (.inr (.inr x)), a1, a2, a3] (.inr (.inr x) :: st) m := e_1 d75_13 (Or.inl rfl) rfl
theorem d75_14 : decode (mt 75).2.1 14 = .ok (.getfield 28, 3) := by decide +kernel
theorem s75_14 {ls : LV} {st : List AV} {m : MM} {n : Nat} : go 75 14 ls (.inr (.inr (7, some n)) :: st) m = go 75 17 ls (.inr (.inr (3, mR m 7 n 6)) :: st) m := e_1 d75_14 (Or.inl rfl) (by rw [xi, pA, show lk fdL (mt 75).2.2.1 28 = some (7, 6) by decide +kernel]; rfl)
theorem d75_17 : decode (mt 75).2.1 17 = .ok (.iconst 5, 1) := by decide +kernel
theorem s75_17 {ls : LV} {st : List AV} {m : MM} : go 75 17 ls st m = go 75 18 ls (.inl 5 :: st) m := e_1 d75_17 (Or.inl rfl) rfl
theorem d75_18 : decode (mt 75).2.1 18 = .ok (.aload_n 3, 1) := by decide +kernel
theorem s75_18 {a0 a1 a2 : Option AV} {st : List AV} {m : MM} {x : Nat × Option Nat} : go 75 18 [a0, a1, a2, some (.inr (.inr x))] st m = go 75 19 [a0, a1, a2, some (.inr (.inr x))] (.inr (.inr x) :: st) m := e_1 d75_18 (Or.inl rfl) rfl
theorem d75_19 : decode (mt 75).2.1 19 = .ok (.invokevirtual 84, 3) := by decide +kernel
theorem s75_19 {ls : LV} {m : MM} {x0 : Int32} {x1 : Nat × Option Nat} {n : Nat} : go 75 19 ls [.inr (.inr x1), .inl x0, .inr (.inr (3, some n))] m = bd (go 11 0 [some (.inr (.inr (3, some n))), some (.inl x0), some (.inr (.inr x1))] [] m) (fun v m2 => go 75 22 ls (v.toList ++ []) m2) := e_virt (y1 := 11) (na := 2) (as := [.inl x0, .inr (.inr x1)]) (rest := []) d75_19 (by decide +kernel) rfl (by decide +kernel) (show (ent [.inr (.inr (3, some n)), .inl x0, .inr (.inr x1)]).length ≤ (mt 11).2.2.2.1 from Nat.le_of_ble_eq_true rfl) (cats_le (Nat.le_of_ble_eq_true rfl)) (by decide +kernel)
theorem d75_22 : decode (mt 75).2.1 22 = .ok (.goto 16, 3) := by decide +kernel
theorem s75_22 {ls : LV} {st : List AV} {m : MM} : go 75 22 ls st m = go 75 38 ls st m := e_1 d75_22 (Or.inl rfl) (by rw [xi, jm_some (t := 38) (by decide)]; rfl)
theorem d75_25 : decode (mt 75).2.1 25 = .ok (.aload_n 2, 1) := by decide +kernel
theorem s75_25 {a0 a1 a3 : Option AV} {st : List AV} {m : MM} {x : Nat × Option Nat} : go 75 25 [a0, a1, some (.inr (.inr x)), a3] st m = go 75 26 [a0, a1, some (.inr (.inr x)), a3] (.inr (.inr x) :: st) m := e_1 d75_25 (Or.inl rfl) rfl
theorem d75_26 : decode (mt 75).2.1 26 = .ok (.invokevirtual 264, 3) := by decide +kernel
theorem s75_26 {ls : LV} {m : MM} {n : Nat} : go 75 26 ls [.inr (.inr (6, some n))] m = bd (go 23 0 [some (.inr (.inr (6, some n)))] [] m) (fun v m2 => go 75 29 ls (v.toList ++ []) m2) := e_virt (y1 := 23) (na := 0) (as := []) (rest := []) d75_26 (by decide +kernel) rfl (by decide +kernel) (show (ent [.inr (.inr (6, some n))]).length ≤ (mt 23).2.2.2.1 from Nat.le_of_ble_eq_true rfl) (cats_le (Nat.le_of_ble_eq_true rfl)) (by decide +kernel)
theorem d75_29 : decode (mt 75).2.1 29 = .ok (.ifCond .ne 9, 3) := by decide +kernel
theorem s75_29 {ls : LV} {st : List AV} {m : MM} {a : Int32} : go 75 29 ls (.inl a :: st) m = if ¬ a = 0 then go 75 38 ls st m else go 75 32 ls st m := e_if (t := 38) (b := hc .ne a 0) d75_29 (Or.inl rfl) (by simp only [xi, pI, jm_some (t := 38) (show ((29 : Nat) : Int) + 9 = ((38 : Nat) : Int) by decide), Option.bind_some]) (by simp [hc])
theorem d75_32 : decode (mt 75).2.1 32 = .ok (.aload_n 0, 1) := by decide +kernel
theorem s75_32 {a1 a2 a3 : Option AV} {st : List AV} {m : MM} {x : Nat × Option Nat} : go 75 32 [some (.inr (.inr x)), a1, a2, a3] st m = go 75 33 [some (.inr (.inr x)), a1, a2, a3] (.inr (.inr x) :: st) m := e_1 d75_32 (Or.inl rfl) rfl
theorem d75_33 : decode (mt 75).2.1 33 = .ok (.aload_n 1, 1) := by decide +kernel
theorem s75_33 {a0 a2 a3 : Option AV} {st : List AV} {m : MM} {x : Nat × Option Nat} : go 75 33 [a0, some (.inr (.inr x)), a2, a3] st m = go 75 34 [a0, some (.inr (.inr x)), a2, a3] (.inr (.inr x) :: st) m := e_1 d75_33 (Or.inl rfl) rfl
theorem d75_34 : decode (mt 75).2.1 34 = .ok (.aload_n 2, 1) := by decide +kernel
theorem s75_34 {a0 a1 a3 : Option AV} {st : List AV} {m : MM} {x : Nat × Option Nat} : go 75 34 [a0, a1, some (.inr (.inr x)), a3] st m = go 75 35 [a0, a1, some (.inr (.inr x)), a3] (.inr (.inr x) :: st) m := e_1 d75_34 (Or.inl rfl) rfl
theorem d75_35 : decode (mt 75).2.1 35 = .ok (.invokevirtual 339, 3) := by decide +kernel
theorem s75_35 {ls : LV} {m : MM} {x0 : Nat × Option Nat} {x1 : Nat × Option Nat} {n : Nat} : go 75 35 ls [.inr (.inr x1), .inr (.inr x0), .inr (.inr (7, some n))] m = bd (go 76 0 [some (.inr (.inr (7, some n))), some (.inr (.inr x0)), some (.inr (.inr x1))] [] m) (fun v m2 => go 75 38 ls (v.toList ++ []) m2) := e_virt (y1 := 76) (na := 2) (as := [.inr (.inr x0), .inr (.inr x1)]) (rest := []) d75_35 (by decide +kernel) rfl (by decide +kernel) (show (ent [.inr (.inr (7, some n)), .inr (.inr x0), .inr (.inr x1)]).length ≤ (mt 76).2.2.2.1 from Nat.le_of_ble_eq_true rfl) (cats_le (Nat.le_of_ble_eq_true rfl)) (by decide +kernel)
theorem d75_38 : decode (mt 75).2.1 38 = .ok (.return_, 1) := by decide +kernel
theorem s75_38 {ls : LV} {m : MM} : go 75 38 ls [] m = some (none, m) := e_void d75_38 (by decide +kernel)
/-! X6_sendGive: 76 -/
theorem d76_0 : decode (mt 76).2.1 0 = .ok (.aload_n 2, 1) := by decide +kernel
theorem s76_0 {a0 a1 : Option AV} {st : List AV} {m : MM} {x : Nat × Option Nat} : go 76 0 [a0, a1, some (.inr (.inr x))] st m = go 76 1 [a0, a1, some (.inr (.inr x))] (.inr (.inr x) :: st) m := e_1 d76_0 (Or.inl rfl) rfl
theorem d76_1 : decode (mt 76).2.1 1 = .ok (.getfield 58, 3) := by decide +kernel
theorem s76_1 {ls : LV} {st : List AV} {m : MM} {n : Nat} : go 76 1 ls (.inr (.inr (6, some n)) :: st) m = go 76 4 ls (.inl (mI m 6 n 1) :: st) m := e_1 d76_1 (Or.inl rfl) (by rw [xi, pA, show lk fdL (mt 76).2.2.1 58 = some (6, 1) by decide +kernel]; rfl)
theorem d76_4 : decode (mt 76).2.1 4 = .ok (.aload_n 1, 1) := by decide +kernel
theorem s76_4 {a0 a2 : Option AV} {st : List AV} {m : MM} {x : Nat × Option Nat} : go 76 4 [a0, some (.inr (.inr x)), a2] st m = go 76 5 [a0, some (.inr (.inr x)), a2] (.inr (.inr x) :: st) m := e_1 d76_4 (Or.inl rfl) rfl
theorem d76_5 : decode (mt 76).2.1 5 = .ok (.getfield 58, 3) := by decide +kernel
theorem s76_5 {ls : LV} {st : List AV} {m : MM} {n : Nat} : go 76 5 ls (.inr (.inr (6, some n)) :: st) m = go 76 8 ls (.inl (mI m 6 n 1) :: st) m := e_1 d76_5 (Or.inl rfl) (by rw [xi, pA, show lk fdL (mt 76).2.2.1 58 = some (6, 1) by decide +kernel]; rfl)
theorem d76_8 : decode (mt 76).2.1 8 = .ok (.if_icmp .ge 59, 3) := by decide +kernel
theorem s76_8 {ls : LV} {st : List AV} {m : MM} {a b : Int32} : go 76 8 ls (.inl b :: .inl a :: st) m = if b ≤ a then go 76 67 ls st m else go 76 11 ls st m := e_if (t := 67) (b := hc .ge a b) d76_8 (Or.inl rfl) (by simp only [xi, pI, jm_some (t := 67) (show ((8 : Nat) : Int) + 59 = ((67 : Nat) : Int) by decide), Option.bind_some]) (by simp [hc])
theorem d76_11 : decode (mt 76).2.1 11 = .ok (.aload_n 2, 1) := by decide +kernel
theorem s76_11 {a0 a1 : Option AV} {st : List AV} {m : MM} {x : Nat × Option Nat} : go 76 11 [a0, a1, some (.inr (.inr x))] st m = go 76 12 [a0, a1, some (.inr (.inr x))] (.inr (.inr x) :: st) m := e_1 d76_11 (Or.inl rfl) rfl
theorem d76_12 : decode (mt 76).2.1 12 = .ok (.getfield 117, 3) := by decide +kernel
theorem s76_12 {ls : LV} {st : List AV} {m : MM} {n : Nat} : go 76 12 ls (.inr (.inr (6, some n)) :: st) m = go 76 15 ls (.inr (.inr (5, mR m 6 n 9)) :: st) m := e_1 d76_12 (Or.inl rfl) (by rw [xi, pA, show lk fdL (mt 76).2.2.1 117 = some (6, 9) by decide +kernel]; rfl)
theorem d76_15 : decode (mt 76).2.1 15 = .ok (.aload_n 0, 1) := by decide +kernel
theorem s76_15 {a1 a2 : Option AV} {st : List AV} {m : MM} {x : Nat × Option Nat} : go 76 15 [some (.inr (.inr x)), a1, a2] st m = go 76 16 [some (.inr (.inr x)), a1, a2] (.inr (.inr x) :: st) m := e_1 d76_15 (Or.inl rfl) rfl
theorem d76_16 : decode (mt 76).2.1 16 = .ok (.getfield 35, 3) := by decide +kernel
theorem s76_16 {ls : LV} {st : List AV} {m : MM} {n : Nat} : go 76 16 ls (.inr (.inr (7, some n)) :: st) m = go 76 19 ls (.inr (.inr (2, mR m 7 n 7)) :: st) m := e_1 d76_16 (Or.inl rfl) (by rw [xi, pA, show lk fdL (mt 76).2.2.1 35 = some (7, 7) by decide +kernel]; rfl)
theorem d76_19 : decode (mt 76).2.1 19 = .ok (.getfield 126, 3) := by decide +kernel
theorem s76_19 {ls : LV} {st : List AV} {m : MM} {n : Nat} : go 76 19 ls (.inr (.inr (2, some n)) :: st) m = go 76 22 ls (.inr (.inr (5, mR m 2 n 4)) :: st) m := e_1 d76_19 (Or.inl rfl) (by rw [xi, pA, show lk fdL (mt 76).2.2.1 126 = some (2, 4) by decide +kernel]; rfl)
theorem d76_22 : decode (mt 76).2.1 22 = .ok (.aload_n 2, 1) := by decide +kernel
theorem s76_22 {a0 a1 : Option AV} {st : List AV} {m : MM} {x : Nat × Option Nat} : go 76 22 [a0, a1, some (.inr (.inr x))] st m = go 76 23 [a0, a1, some (.inr (.inr x))] (.inr (.inr x) :: st) m := e_1 d76_22 (Or.inl rfl) rfl
theorem d76_23 : decode (mt 76).2.1 23 = .ok (.getfield 117, 3) := by decide +kernel
theorem s76_23 {ls : LV} {st : List AV} {m : MM} {n : Nat} : go 76 23 ls (.inr (.inr (6, some n)) :: st) m = go 76 26 ls (.inr (.inr (5, mR m 6 n 9)) :: st) m := e_1 d76_23 (Or.inl rfl) (by rw [xi, pA, show lk fdL (mt 76).2.2.1 117 = some (6, 9) by decide +kernel]; rfl)
theorem d76_26 : decode (mt 76).2.1 26 = .ok (.aload_n 1, 1) := by decide +kernel
theorem s76_26 {a0 a2 : Option AV} {st : List AV} {m : MM} {x : Nat × Option Nat} : go 76 26 [a0, some (.inr (.inr x)), a2] st m = go 76 27 [a0, some (.inr (.inr x)), a2] (.inr (.inr x) :: st) m := e_1 d76_26 (Or.inl rfl) rfl
theorem d76_27 : decode (mt 76).2.1 27 = .ok (.getfield 58, 3) := by decide +kernel
theorem s76_27 {ls : LV} {st : List AV} {m : MM} {n : Nat} : go 76 27 ls (.inr (.inr (6, some n)) :: st) m = go 76 30 ls (.inl (mI m 6 n 1) :: st) m := e_1 d76_27 (Or.inl rfl) (by rw [xi, pA, show lk fdL (mt 76).2.2.1 58 = some (6, 1) by decide +kernel]; rfl)
theorem d76_30 : decode (mt 76).2.1 30 = .ok (.invokevirtual 300, 3) := by decide +kernel
theorem s76_30 {ls : LV} {m : MM} {x0 : Int32} {w0 w1 : AV} {n : Nat} : go 76 30 ls [.inl x0, .inr (.inr (5, some n)), w0, w1] m = bd (go 16 0 [some (.inr (.inr (5, some n))), some (.inl x0), none] [] m) (fun v m2 => go 76 33 ls (v.toList ++ [w0, w1]) m2) := e_virt (y1 := 16) (na := 1) (as := [.inl x0]) (rest := [w0, w1]) d76_30 (by decide +kernel) rfl (by decide +kernel) (show (ent [.inr (.inr (5, some n)), .inl x0]).length ≤ (mt 16).2.2.2.1 from Nat.le_of_ble_eq_true rfl) (cats_le (Nat.le_of_ble_eq_true rfl)) (by decide +kernel)
theorem d76_33 : decode (mt 76).2.1 33 = .ok (.aload_n 2, 1) := by decide +kernel
theorem s76_33 {a0 a1 : Option AV} {st : List AV} {m : MM} {x : Nat × Option Nat} : go 76 33 [a0, a1, some (.inr (.inr x))] st m = go 76 34 [a0, a1, some (.inr (.inr x))] (.inr (.inr x) :: st) m := e_1 d76_33 (Or.inl rfl) rfl
theorem d76_34 : decode (mt 76).2.1 34 = .ok (.getfield 117, 3) := by decide +kernel
theorem s76_34 {ls : LV} {st : List AV} {m : MM} {n : Nat} : go 76 34 ls (.inr (.inr (6, some n)) :: st) m = go 76 37 ls (.inr (.inr (5, mR m 6 n 9)) :: st) m := e_1 d76_34 (Or.inl rfl) (by rw [xi, pA, show lk fdL (mt 76).2.2.1 117 = some (6, 9) by decide +kernel]; rfl)
theorem d76_37 : decode (mt 76).2.1 37 = .ok (.getfield 121, 3) := by decide +kernel
theorem s76_37 {ls : LV} {st : List AV} {m : MM} {n : Nat} : go 76 37 ls (.inr (.inr (5, some n)) :: st) m = go 76 40 ls (.inl (mI m 5 n 2) :: st) m := e_1 d76_37 (Or.inl rfl) (by rw [xi, pA, show lk fdL (mt 76).2.2.1 121 = some (5, 2) by decide +kernel]; rfl)
theorem d76_40 : decode (mt 76).2.1 40 = .ok (.invokevirtual 129, 3) := by decide +kernel
theorem s76_40 {ls : LV} {m : MM} {x0 : Nat × Option Nat} {x1 : Int32} {x2 : Int32} {n : Nat} : go 76 40 ls [.inl x2, .inl x1, .inr (.inr x0), .inr (.inr (5, some n))] m = bd (go 21 0 [some (.inr (.inr (5, some n))), some (.inr (.inr x0)), some (.inl x1), some (.inl x2), none] [] m) (fun v m2 => go 76 43 ls (v.toList ++ []) m2) := e_virt (y1 := 21) (na := 3) (as := [.inr (.inr x0), .inl x1, .inl x2]) (rest := []) d76_40 (by decide +kernel) rfl (by decide +kernel) (show (ent [.inr (.inr (5, some n)), .inr (.inr x0), .inl x1, .inl x2]).length ≤ (mt 21).2.2.2.1 from Nat.le_of_ble_eq_true rfl) (cats_le (Nat.le_of_ble_eq_true rfl)) (by decide +kernel)
theorem d76_43 : decode (mt 76).2.1 43 = .ok (.aload_n 0, 1) := by decide +kernel
theorem s76_43 {a1 a2 : Option AV} {st : List AV} {m : MM} {x : Nat × Option Nat} : go 76 43 [some (.inr (.inr x)), a1, a2] st m = go 76 44 [some (.inr (.inr x)), a1, a2] (.inr (.inr x) :: st) m := e_1 d76_43 (Or.inl rfl) rfl
theorem d76_44 : decode (mt 76).2.1 44 = .ok (.getfield 28, 3) := by decide +kernel
theorem s76_44 {ls : LV} {st : List AV} {m : MM} {n : Nat} : go 76 44 ls (.inr (.inr (7, some n)) :: st) m = go 76 47 ls (.inr (.inr (3, mR m 7 n 6)) :: st) m := e_1 d76_44 (Or.inl rfl) (by rw [xi, pA, show lk fdL (mt 76).2.2.1 28 = some (7, 6) by decide +kernel]; rfl)
theorem d76_47 : decode (mt 76).2.1 47 = .ok (.aconst_null, 1) := by decide +kernel
theorem s76_47 {ls : LV} {st : List AV} {m : MM} : go 76 47 ls st m = go 76 48 ls (.inr (.inr (0, none)) :: st) m := e_1 d76_47 (Or.inl rfl) rfl
theorem d76_48 : decode (mt 76).2.1 48 = .ok (.bipush 6, 2) := by decide +kernel
theorem s76_48 {ls : LV} {st : List AV} {m : MM} : go 76 48 ls st m = go 76 50 ls (.inl 6 :: st) m := e_1 d76_48 (Or.inl rfl) rfl
theorem d76_50 : decode (mt 76).2.1 50 = .ok (.aload_n 1, 1) := by decide +kernel
theorem s76_50 {a0 a2 : Option AV} {st : List AV} {m : MM} {x : Nat × Option Nat} : go 76 50 [a0, some (.inr (.inr x)), a2] st m = go 76 51 [a0, some (.inr (.inr x)), a2] (.inr (.inr x) :: st) m := e_1 d76_50 (Or.inl rfl) rfl
theorem d76_51 : decode (mt 76).2.1 51 = .ok (.bipush (-4), 2) := by decide +kernel
theorem s76_51 {ls : LV} {st : List AV} {m : MM} : go 76 51 ls st m = go 76 53 ls (.inl (-4) :: st) m := e_1 d76_51 (Or.inl rfl) rfl
theorem d76_53 : decode (mt 76).2.1 53 = .ok (.iconst 0, 1) := by decide +kernel
theorem s76_53 {ls : LV} {st : List AV} {m : MM} : go 76 53 ls st m = go 76 54 ls (.inl 0 :: st) m := e_1 d76_53 (Or.inl rfl) rfl
theorem d76_54 : decode (mt 76).2.1 54 = .ok (.aload_n 2, 1) := by decide +kernel
theorem s76_54 {a0 a1 : Option AV} {st : List AV} {m : MM} {x : Nat × Option Nat} : go 76 54 [a0, a1, some (.inr (.inr x))] st m = go 76 55 [a0, a1, some (.inr (.inr x))] (.inr (.inr x) :: st) m := e_1 d76_54 (Or.inl rfl) rfl
theorem d76_55 : decode (mt 76).2.1 55 = .ok (.aload_n 2, 1) := by decide +kernel
theorem s76_55 {a0 a1 : Option AV} {st : List AV} {m : MM} {x : Nat × Option Nat} : go 76 55 [a0, a1, some (.inr (.inr x))] st m = go 76 56 [a0, a1, some (.inr (.inr x))] (.inr (.inr x) :: st) m := e_1 d76_55 (Or.inl rfl) rfl
theorem d76_56 : decode (mt 76).2.1 56 = .ok (.iconst 0, 1) := by decide +kernel
theorem s76_56 {ls : LV} {st : List AV} {m : MM} : go 76 56 ls st m = go 76 57 ls (.inl 0 :: st) m := e_1 d76_56 (Or.inl rfl) rfl
theorem d76_57 : decode (mt 76).2.1 57 = .ok (.iconst 1, 1) := by decide +kernel
theorem s76_57 {ls : LV} {st : List AV} {m : MM} : go 76 57 ls st m = go 76 58 ls (.inl 1 :: st) m := e_1 d76_57 (Or.inl rfl) rfl
theorem d76_58 : decode (mt 76).2.1 58 = .ok (.invokevirtual 109, 3) := by decide +kernel
theorem s76_58 {ls : LV} {m : MM} {x0 : Int32} {x1 : Int32} {w0 w1 w2 w3 w4 w5 w6 : AV} {n : Nat} (hc : cats [w0, w1, w2, w3, w4, w5, w6] ≤ 8) : go 76 58 ls [.inl x1, .inl x0, .inr (.inr (6, some n)), w0, w1, w2, w3, w4, w5, w6] m = bd (go 27 0 [some (.inr (.inr (6, some n))), some (.inl x0), some (.inl x1)] [] m) (fun v m2 => go 76 61 ls (v.toList ++ [w0, w1, w2, w3, w4, w5, w6]) m2) := e_virt (y1 := 27) (na := 2) (as := [.inl x0, .inl x1]) (rest := [w0, w1, w2, w3, w4, w5, w6]) d76_58 (by decide +kernel) rfl (by decide +kernel) (show (ent [.inr (.inr (6, some n)), .inl x0, .inl x1]).length ≤ (mt 27).2.2.2.1 from Nat.le_of_ble_eq_true rfl) hc (by decide +kernel)
theorem d76_61 : decode (mt 76).2.1 61 = .ok (.invokevirtual 133, 3) := by decide +kernel
theorem s76_61 {ls : LV} {m : MM} {x0 : Nat × Option Nat} {x1 : Int32} {x2 : Nat × Option Nat} {x3 : Int32} {x4 : Int32} {x5 : Nat × Option Nat} {x6 : Nat × Option Nat} {n : Nat} : go 76 61 ls [.inr (.inr x6), .inr (.inr x5), .inl x4, .inl x3, .inr (.inr x2), .inl x1, .inr (.inr x0), .inr (.inr (3, some n))] m = bd (go 12 0 [some (.inr (.inr (3, some n))), some (.inr (.inr x0)), some (.inl x1), some (.inr (.inr x2)), some (.inl x3), some (.inl x4), some (.inr (.inr x5)), some (.inr (.inr x6)), none] [] m) (fun v m2 => go 76 64 ls (v.toList ++ []) m2) := e_virt (y1 := 12) (na := 7) (as := [.inr (.inr x0), .inl x1, .inr (.inr x2), .inl x3, .inl x4, .inr (.inr x5), .inr (.inr x6)]) (rest := []) d76_61 (by decide +kernel) rfl (by decide +kernel) (show (ent [.inr (.inr (3, some n)), .inr (.inr x0), .inl x1, .inr (.inr x2), .inl x3, .inl x4, .inr (.inr x5), .inr (.inr x6)]).length ≤ (mt 12).2.2.2.1 from Nat.le_of_ble_eq_true rfl) (cats_le (Nat.le_of_ble_eq_true rfl)) (by decide +kernel)
theorem d76_64 : decode (mt 76).2.1 64 = .ok (.goto 45, 3) := by decide +kernel
theorem s76_64 {ls : LV} {st : List AV} {m : MM} : go 76 64 ls st m = go 76 109 ls st m := e_1 d76_64 (Or.inl rfl) (by rw [xi, jm_some (t := 109) (by decide)]; rfl)
theorem d76_67 : decode (mt 76).2.1 67 = .ok (.aload_n 2, 1) := by decide +kernel
theorem s76_67 {a0 a1 : Option AV} {st : List AV} {m : MM} {x : Nat × Option Nat} : go 76 67 [a0, a1, some (.inr (.inr x))] st m = go 76 68 [a0, a1, some (.inr (.inr x))] (.inr (.inr x) :: st) m := e_1 d76_67 (Or.inl rfl) rfl
theorem d76_68 : decode (mt 76).2.1 68 = .ok (.getfield 117, 3) := by decide +kernel
theorem s76_68 {ls : LV} {st : List AV} {m : MM} {n : Nat} : go 76 68 ls (.inr (.inr (6, some n)) :: st) m = go 76 71 ls (.inr (.inr (5, mR m 6 n 9)) :: st) m := e_1 d76_68 (Or.inl rfl) (by rw [xi, pA, show lk fdL (mt 76).2.2.1 117 = some (6, 9) by decide +kernel]; rfl)
theorem d76_71 : decode (mt 76).2.1 71 = .ok (.aload_n 0, 1) := by decide +kernel
theorem s76_71 {a1 a2 : Option AV} {st : List AV} {m : MM} {x : Nat × Option Nat} : go 76 71 [some (.inr (.inr x)), a1, a2] st m = go 76 72 [some (.inr (.inr x)), a1, a2] (.inr (.inr x) :: st) m := e_1 d76_71 (Or.inl rfl) rfl
theorem d76_72 : decode (mt 76).2.1 72 = .ok (.getfield 35, 3) := by decide +kernel
theorem s76_72 {ls : LV} {st : List AV} {m : MM} {n : Nat} : go 76 72 ls (.inr (.inr (7, some n)) :: st) m = go 76 75 ls (.inr (.inr (2, mR m 7 n 7)) :: st) m := e_1 d76_72 (Or.inl rfl) (by rw [xi, pA, show lk fdL (mt 76).2.2.1 35 = some (7, 7) by decide +kernel]; rfl)
theorem d76_75 : decode (mt 76).2.1 75 = .ok (.getfield 126, 3) := by decide +kernel
theorem s76_75 {ls : LV} {st : List AV} {m : MM} {n : Nat} : go 76 75 ls (.inr (.inr (2, some n)) :: st) m = go 76 78 ls (.inr (.inr (5, mR m 2 n 4)) :: st) m := e_1 d76_75 (Or.inl rfl) (by rw [xi, pA, show lk fdL (mt 76).2.2.1 126 = some (2, 4) by decide +kernel]; rfl)
theorem d76_78 : decode (mt 76).2.1 78 = .ok (.iconst 0, 1) := by decide +kernel
theorem s76_78 {ls : LV} {st : List AV} {m : MM} : go 76 78 ls st m = go 76 79 ls (.inl 0 :: st) m := e_1 d76_78 (Or.inl rfl) rfl
theorem d76_79 : decode (mt 76).2.1 79 = .ok (.aload_n 2, 1) := by decide +kernel
theorem s76_79 {a0 a1 : Option AV} {st : List AV} {m : MM} {x : Nat × Option Nat} : go 76 79 [a0, a1, some (.inr (.inr x))] st m = go 76 80 [a0, a1, some (.inr (.inr x))] (.inr (.inr x) :: st) m := e_1 d76_79 (Or.inl rfl) rfl
theorem d76_80 : decode (mt 76).2.1 80 = .ok (.getfield 117, 3) := by decide +kernel
theorem s76_80 {ls : LV} {st : List AV} {m : MM} {n : Nat} : go 76 80 ls (.inr (.inr (6, some n)) :: st) m = go 76 83 ls (.inr (.inr (5, mR m 6 n 9)) :: st) m := e_1 d76_80 (Or.inl rfl) (by rw [xi, pA, show lk fdL (mt 76).2.2.1 117 = some (6, 9) by decide +kernel]; rfl)
theorem d76_83 : decode (mt 76).2.1 83 = .ok (.aload_n 2, 1) := by decide +kernel
theorem s76_83 {a0 a1 : Option AV} {st : List AV} {m : MM} {x : Nat × Option Nat} : go 76 83 [a0, a1, some (.inr (.inr x))] st m = go 76 84 [a0, a1, some (.inr (.inr x))] (.inr (.inr x) :: st) m := e_1 d76_83 (Or.inl rfl) rfl
theorem d76_84 : decode (mt 76).2.1 84 = .ok (.getfield 58, 3) := by decide +kernel
theorem s76_84 {ls : LV} {st : List AV} {m : MM} {n : Nat} : go 76 84 ls (.inr (.inr (6, some n)) :: st) m = go 76 87 ls (.inl (mI m 6 n 1) :: st) m := e_1 d76_84 (Or.inl rfl) (by rw [xi, pA, show lk fdL (mt 76).2.2.1 58 = some (6, 1) by decide +kernel]; rfl)
theorem d76_87 : decode (mt 76).2.1 87 = .ok (.invokevirtual 300, 3) := by decide +kernel
theorem s76_87 {ls : LV} {m : MM} {x0 : Int32} {w0 w1 w2 : AV} {n : Nat} : go 76 87 ls [.inl x0, .inr (.inr (5, some n)), w0, w1, w2] m = bd (go 16 0 [some (.inr (.inr (5, some n))), some (.inl x0), none] [] m) (fun v m2 => go 76 90 ls (v.toList ++ [w0, w1, w2]) m2) := e_virt (y1 := 16) (na := 1) (as := [.inl x0]) (rest := [w0, w1, w2]) d76_87 (by decide +kernel) rfl (by decide +kernel) (show (ent [.inr (.inr (5, some n)), .inl x0]).length ≤ (mt 16).2.2.2.1 from Nat.le_of_ble_eq_true rfl) (cats_le (Nat.le_of_ble_eq_true rfl)) (by decide +kernel)
theorem d76_90 : decode (mt 76).2.1 90 = .ok (.invokevirtual 129, 3) := by decide +kernel
theorem s76_90 {ls : LV} {m : MM} {x0 : Nat × Option Nat} {x1 : Int32} {x2 : Int32} {n : Nat} : go 76 90 ls [.inl x2, .inl x1, .inr (.inr x0), .inr (.inr (5, some n))] m = bd (go 21 0 [some (.inr (.inr (5, some n))), some (.inr (.inr x0)), some (.inl x1), some (.inl x2), none] [] m) (fun v m2 => go 76 93 ls (v.toList ++ []) m2) := e_virt (y1 := 21) (na := 3) (as := [.inr (.inr x0), .inl x1, .inl x2]) (rest := []) d76_90 (by decide +kernel) rfl (by decide +kernel) (show (ent [.inr (.inr (5, some n)), .inr (.inr x0), .inl x1, .inl x2]).length ≤ (mt 21).2.2.2.1 from Nat.le_of_ble_eq_true rfl) (cats_le (Nat.le_of_ble_eq_true rfl)) (by decide +kernel)
theorem d76_93 : decode (mt 76).2.1 93 = .ok (.aload_n 0, 1) := by decide +kernel
theorem s76_93 {a1 a2 : Option AV} {st : List AV} {m : MM} {x : Nat × Option Nat} : go 76 93 [some (.inr (.inr x)), a1, a2] st m = go 76 94 [some (.inr (.inr x)), a1, a2] (.inr (.inr x) :: st) m := e_1 d76_93 (Or.inl rfl) rfl
theorem d76_94 : decode (mt 76).2.1 94 = .ok (.getfield 28, 3) := by decide +kernel
theorem s76_94 {ls : LV} {st : List AV} {m : MM} {n : Nat} : go 76 94 ls (.inr (.inr (7, some n)) :: st) m = go 76 97 ls (.inr (.inr (3, mR m 7 n 6)) :: st) m := e_1 d76_94 (Or.inl rfl) (by rw [xi, pA, show lk fdL (mt 76).2.2.1 28 = some (7, 6) by decide +kernel]; rfl)
theorem d76_97 : decode (mt 76).2.1 97 = .ok (.aconst_null, 1) := by decide +kernel
theorem s76_97 {ls : LV} {st : List AV} {m : MM} : go 76 97 ls st m = go 76 98 ls (.inr (.inr (0, none)) :: st) m := e_1 d76_97 (Or.inl rfl) rfl
theorem d76_98 : decode (mt 76).2.1 98 = .ok (.bipush 6, 2) := by decide +kernel
theorem s76_98 {ls : LV} {st : List AV} {m : MM} : go 76 98 ls st m = go 76 100 ls (.inl 6 :: st) m := e_1 d76_98 (Or.inl rfl) rfl
theorem d76_100 : decode (mt 76).2.1 100 = .ok (.aload_n 1, 1) := by decide +kernel
theorem s76_100 {a0 a2 : Option AV} {st : List AV} {m : MM} {x : Nat × Option Nat} : go 76 100 [a0, some (.inr (.inr x)), a2] st m = go 76 101 [a0, some (.inr (.inr x)), a2] (.inr (.inr x) :: st) m := e_1 d76_100 (Or.inl rfl) rfl
theorem d76_101 : decode (mt 76).2.1 101 = .ok (.bipush (-4), 2) := by decide +kernel
theorem s76_101 {ls : LV} {st : List AV} {m : MM} : go 76 101 ls st m = go 76 103 ls (.inl (-4) :: st) m := e_1 d76_101 (Or.inl rfl) rfl
theorem d76_103 : decode (mt 76).2.1 103 = .ok (.iconst 0, 1) := by decide +kernel
theorem s76_103 {ls : LV} {st : List AV} {m : MM} : go 76 103 ls st m = go 76 104 ls (.inl 0 :: st) m := e_1 d76_103 (Or.inl rfl) rfl
theorem d76_104 : decode (mt 76).2.1 104 = .ok (.aconst_null, 1) := by decide +kernel
theorem s76_104 {ls : LV} {st : List AV} {m : MM} : go 76 104 ls st m = go 76 105 ls (.inr (.inr (0, none)) :: st) m := e_1 d76_104 (Or.inl rfl) rfl
theorem d76_105 : decode (mt 76).2.1 105 = .ok (.aload_n 2, 1) := by decide +kernel
theorem s76_105 {a0 a1 : Option AV} {st : List AV} {m : MM} {x : Nat × Option Nat} : go 76 105 [a0, a1, some (.inr (.inr x))] st m = go 76 106 [a0, a1, some (.inr (.inr x))] (.inr (.inr x) :: st) m := e_1 d76_105 (Or.inl rfl) rfl
theorem d76_106 : decode (mt 76).2.1 106 = .ok (.invokevirtual 133, 3) := by decide +kernel
theorem s76_106 {ls : LV} {m : MM} {x0 : Nat × Option Nat} {x1 : Int32} {x2 : Nat × Option Nat} {x3 : Int32} {x4 : Int32} {x5 : Nat × Option Nat} {x6 : Nat × Option Nat} {n : Nat} : go 76 106 ls [.inr (.inr x6), .inr (.inr x5), .inl x4, .inl x3, .inr (.inr x2), .inl x1, .inr (.inr x0), .inr (.inr (3, some n))] m = bd (go 12 0 [some (.inr (.inr (3, some n))), some (.inr (.inr x0)), some (.inl x1), some (.inr (.inr x2)), some (.inl x3), some (.inl x4), some (.inr (.inr x5)), some (.inr (.inr x6)), none] [] m) (fun v m2 => go 76 109 ls (v.toList ++ []) m2) := e_virt (y1 := 12) (na := 7) (as := [.inr (.inr x0), .inl x1, .inr (.inr x2), .inl x3, .inl x4, .inr (.inr x5), .inr (.inr x6)]) (rest := []) d76_106 (by decide +kernel) rfl (by decide +kernel) (show (ent [.inr (.inr (3, some n)), .inr (.inr x0), .inl x1, .inr (.inr x2), .inl x3, .inl x4, .inr (.inr x5), .inr (.inr x6)]).length ≤ (mt 12).2.2.2.1 from Nat.le_of_ble_eq_true rfl) (cats_le (Nat.le_of_ble_eq_true rfl)) (by decide +kernel)
theorem d76_109 : decode (mt 76).2.1 109 = .ok (.return_, 1) := by decide +kernel
theorem s76_109 {ls : LV} {m : MM} : go 76 109 ls [] m = some (none, m) := e_void d76_109 (by decide +kernel)
/-! X6_becomeLinked: 77 -/
theorem d77_0 : decode (mt 77).2.1 0 = .ok (.aload_n 0, 1) := by decide +kernel
theorem s77_0 {a1 a2 : Option AV} {st : List AV} {m : MM} {x : Nat × Option Nat} : go 77 0 [some (.inr (.inr x)), a1, a2] st m = go 77 1 [some (.inr (.inr x)), a1, a2] (.inr (.inr x) :: st) m := e_1 d77_0 (Or.inl rfl) rfl
theorem d77_1 : decode (mt 77).2.1 1 = .ok (.aload_n 1, 1) := by decide +kernel
theorem s77_1 {a0 a2 : Option AV} {st : List AV} {m : MM} {x : Nat × Option Nat} : go 77 1 [a0, some (.inr (.inr x)), a2] st m = go 77 2 [a0, some (.inr (.inr x)), a2] (.inr (.inr x) :: st) m := e_1 d77_1 (Or.inl rfl) rfl
theorem d77_2 : decode (mt 77).2.1 2 = .ok (.iload_n 2, 1) := by decide +kernel
theorem s77_2 {a0 a1 : Option AV} {st : List AV} {m : MM} {x : Int32} : go 77 2 [a0, a1, some (.inl x)] st m = go 77 3 [a0, a1, some (.inl x)] (.inl x :: st) m := e_1 d77_2 (Or.inl rfl) rfl
theorem d77_3 : decode (mt 77).2.1 3 = .ok (.iconst 0, 1) := by decide +kernel
theorem s77_3 {ls : LV} {st : List AV} {m : MM} : go 77 3 ls st m = go 77 4 ls (.inl 0 :: st) m := e_1 d77_3 (Or.inl rfl) rfl
theorem d77_4 : decode (mt 77).2.1 4 = .ok (.invokevirtual 109, 3) := by decide +kernel
theorem s77_4 {ls : LV} {m : MM} {x0 : Int32} {x1 : Int32} {w0 : AV} {n : Nat} : go 77 4 ls [.inl x1, .inl x0, .inr (.inr (6, some n)), w0] m = bd (go 27 0 [some (.inr (.inr (6, some n))), some (.inl x0), some (.inl x1)] [] m) (fun v m2 => go 77 7 ls (v.toList ++ [w0]) m2) := e_virt (y1 := 27) (na := 2) (as := [.inl x0, .inl x1]) (rest := [w0]) d77_4 (by decide +kernel) rfl (by decide +kernel) (show (ent [.inr (.inr (6, some n)), .inl x0, .inl x1]).length ≤ (mt 27).2.2.2.1 from Nat.le_of_ble_eq_true rfl) (cats_le (Nat.le_of_ble_eq_true rfl)) (by decide +kernel)
theorem d77_7 : decode (mt 77).2.1 7 = .ok (.iload_n 2, 1) := by decide +kernel
theorem s77_7 {a0 a1 : Option AV} {st : List AV} {m : MM} {x : Int32} : go 77 7 [a0, a1, some (.inl x)] st m = go 77 8 [a0, a1, some (.inl x)] (.inl x :: st) m := e_1 d77_7 (Or.inl rfl) rfl
theorem d77_8 : decode (mt 77).2.1 8 = .ok (.iconst 1, 1) := by decide +kernel
theorem s77_8 {ls : LV} {st : List AV} {m : MM} : go 77 8 ls st m = go 77 9 ls (.inl 1 :: st) m := e_1 d77_8 (Or.inl rfl) rfl
theorem d77_9 : decode (mt 77).2.1 9 = .ok (.aload_n 1, 1) := by decide +kernel
theorem s77_9 {a0 a2 : Option AV} {st : List AV} {m : MM} {x : Nat × Option Nat} : go 77 9 [a0, some (.inr (.inr x)), a2] st m = go 77 10 [a0, some (.inr (.inr x)), a2] (.inr (.inr x) :: st) m := e_1 d77_9 (Or.inl rfl) rfl
theorem d77_10 : decode (mt 77).2.1 10 = .ok (.invokevirtual 113, 3) := by decide +kernel
theorem s77_10 {ls : LV} {m : MM} {x0 : Nat × Option Nat} {x1 : Int32} {x2 : Int32} {x3 : Nat × Option Nat} {n : Nat} : go 77 10 ls [.inr (.inr x3), .inl x2, .inl x1, .inr (.inr x0), .inr (.inr (7, some n))] m = bd (go 50 0 [some (.inr (.inr (7, some n))), some (.inr (.inr x0)), some (.inl x1), some (.inl x2), some (.inr (.inr x3))] [] m) (fun v m2 => go 77 13 ls (v.toList ++ []) m2) := e_virt (y1 := 50) (na := 4) (as := [.inr (.inr x0), .inl x1, .inl x2, .inr (.inr x3)]) (rest := []) d77_10 (by decide +kernel) rfl (by decide +kernel) (show (ent [.inr (.inr (7, some n)), .inr (.inr x0), .inl x1, .inl x2, .inr (.inr x3)]).length ≤ (mt 50).2.2.2.1 from Nat.le_of_ble_eq_true rfl) (cats_le (Nat.le_of_ble_eq_true rfl)) (by decide +kernel)
theorem d77_13 : decode (mt 77).2.1 13 = .ok (.aload_n 0, 1) := by decide +kernel
theorem s77_13 {a1 a2 : Option AV} {st : List AV} {m : MM} {x : Nat × Option Nat} : go 77 13 [some (.inr (.inr x)), a1, a2] st m = go 77 14 [some (.inr (.inr x)), a1, a2] (.inr (.inr x) :: st) m := e_1 d77_13 (Or.inl rfl) rfl
theorem d77_14 : decode (mt 77).2.1 14 = .ok (.aload_n 1, 1) := by decide +kernel
theorem s77_14 {a0 a2 : Option AV} {st : List AV} {m : MM} {x : Nat × Option Nat} : go 77 14 [a0, some (.inr (.inr x)), a2] st m = go 77 15 [a0, some (.inr (.inr x)), a2] (.inr (.inr x) :: st) m := e_1 d77_14 (Or.inl rfl) rfl
theorem d77_15 : decode (mt 77).2.1 15 = .ok (.iload_n 2, 1) := by decide +kernel
theorem s77_15 {a0 a1 : Option AV} {st : List AV} {m : MM} {x : Int32} : go 77 15 [a0, a1, some (.inl x)] st m = go 77 16 [a0, a1, some (.inl x)] (.inl x :: st) m := e_1 d77_15 (Or.inl rfl) rfl
theorem d77_16 : decode (mt 77).2.1 16 = .ok (.iconst 1, 1) := by decide +kernel
theorem s77_16 {ls : LV} {st : List AV} {m : MM} : go 77 16 ls st m = go 77 17 ls (.inl 1 :: st) m := e_1 d77_16 (Or.inl rfl) rfl
theorem d77_17 : decode (mt 77).2.1 17 = .ok (.invokevirtual 109, 3) := by decide +kernel
theorem s77_17 {ls : LV} {m : MM} {x0 : Int32} {x1 : Int32} {w0 : AV} {n : Nat} : go 77 17 ls [.inl x1, .inl x0, .inr (.inr (6, some n)), w0] m = bd (go 27 0 [some (.inr (.inr (6, some n))), some (.inl x0), some (.inl x1)] [] m) (fun v m2 => go 77 20 ls (v.toList ++ [w0]) m2) := e_virt (y1 := 27) (na := 2) (as := [.inl x0, .inl x1]) (rest := [w0]) d77_17 (by decide +kernel) rfl (by decide +kernel) (show (ent [.inr (.inr (6, some n)), .inl x0, .inl x1]).length ≤ (mt 27).2.2.2.1 from Nat.le_of_ble_eq_true rfl) (cats_le (Nat.le_of_ble_eq_true rfl)) (by decide +kernel)
theorem d77_20 : decode (mt 77).2.1 20 = .ok (.iload_n 2, 1) := by decide +kernel
theorem s77_20 {a0 a1 : Option AV} {st : List AV} {m : MM} {x : Int32} : go 77 20 [a0, a1, some (.inl x)] st m = go 77 21 [a0, a1, some (.inl x)] (.inl x :: st) m := e_1 d77_20 (Or.inl rfl) rfl
theorem d77_21 : decode (mt 77).2.1 21 = .ok (.iconst 0, 1) := by decide +kernel
theorem s77_21 {ls : LV} {st : List AV} {m : MM} : go 77 21 ls st m = go 77 22 ls (.inl 0 :: st) m := e_1 d77_21 (Or.inl rfl) rfl
theorem d77_22 : decode (mt 77).2.1 22 = .ok (.aload_n 1, 1) := by decide +kernel
theorem s77_22 {a0 a2 : Option AV} {st : List AV} {m : MM} {x : Nat × Option Nat} : go 77 22 [a0, some (.inr (.inr x)), a2] st m = go 77 23 [a0, some (.inr (.inr x)), a2] (.inr (.inr x) :: st) m := e_1 d77_22 (Or.inl rfl) rfl
theorem d77_23 : decode (mt 77).2.1 23 = .ok (.invokevirtual 113, 3) := by decide +kernel
theorem s77_23 {ls : LV} {m : MM} {x0 : Nat × Option Nat} {x1 : Int32} {x2 : Int32} {x3 : Nat × Option Nat} {n : Nat} : go 77 23 ls [.inr (.inr x3), .inl x2, .inl x1, .inr (.inr x0), .inr (.inr (7, some n))] m = bd (go 50 0 [some (.inr (.inr (7, some n))), some (.inr (.inr x0)), some (.inl x1), some (.inl x2), some (.inr (.inr x3))] [] m) (fun v m2 => go 77 26 ls (v.toList ++ []) m2) := e_virt (y1 := 50) (na := 4) (as := [.inr (.inr x0), .inl x1, .inl x2, .inr (.inr x3)]) (rest := []) d77_23 (by decide +kernel) rfl (by decide +kernel) (show (ent [.inr (.inr (7, some n)), .inr (.inr x0), .inl x1, .inl x2, .inr (.inr x3)]).length ≤ (mt 50).2.2.2.1 from Nat.le_of_ble_eq_true rfl) (cats_le (Nat.le_of_ble_eq_true rfl)) (by decide +kernel)
theorem d77_26 : decode (mt 77).2.1 26 = .ok (.aload_n 0, 1) := by decide +kernel
theorem s77_26 {a1 a2 : Option AV} {st : List AV} {m : MM} {x : Nat × Option Nat} : go 77 26 [some (.inr (.inr x)), a1, a2] st m = go 77 27 [some (.inr (.inr x)), a1, a2] (.inr (.inr x) :: st) m := e_1 d77_26 (Or.inl rfl) rfl
theorem d77_27 : decode (mt 77).2.1 27 = .ok (.aload_n 1, 1) := by decide +kernel
theorem s77_27 {a0 a2 : Option AV} {st : List AV} {m : MM} {x : Nat × Option Nat} : go 77 27 [a0, some (.inr (.inr x)), a2] st m = go 77 28 [a0, some (.inr (.inr x)), a2] (.inr (.inr x) :: st) m := e_1 d77_27 (Or.inl rfl) rfl
theorem d77_28 : decode (mt 77).2.1 28 = .ok (.iload_n 2, 1) := by decide +kernel
theorem s77_28 {a0 a1 : Option AV} {st : List AV} {m : MM} {x : Int32} : go 77 28 [a0, a1, some (.inl x)] st m = go 77 29 [a0, a1, some (.inl x)] (.inl x :: st) m := e_1 d77_28 (Or.inl rfl) rfl
theorem d77_29 : decode (mt 77).2.1 29 = .ok (.invokevirtual 147, 3) := by decide +kernel
theorem s77_29 {ls : LV} {m : MM} {x0 : Nat × Option Nat} {x1 : Int32} {n : Nat} : go 77 29 ls [.inl x1, .inr (.inr x0), .inr (.inr (7, some n))] m = bd (go 78 0 [some (.inr (.inr (7, some n))), some (.inr (.inr x0)), some (.inl x1), none] [] m) (fun v m2 => go 77 32 ls (v.toList ++ []) m2) := e_virt (y1 := 78) (na := 2) (as := [.inr (.inr x0), .inl x1]) (rest := []) d77_29 (by decide +kernel) rfl (by decide +kernel) (show (ent [.inr (.inr (7, some n)), .inr (.inr x0), .inl x1]).length ≤ (mt 78).2.2.2.1 from Nat.le_of_ble_eq_true rfl) (cats_le (Nat.le_of_ble_eq_true rfl)) (by decide +kernel)
theorem d77_32 : decode (mt 77).2.1 32 = .ok (.return_, 1) := by decide +kernel
theorem s77_32 {ls : LV} {m : MM} : go 77 32 ls [] m = some (none, m) := e_void d77_32 (by decide +kernel)
/-! X6_sendFirstSeek: 78 -/
theorem d78_0 : decode (mt 78).2.1 0 = .ok (.iload_n 2, 1) := by decide +kernel
theorem s78_0 {a0 a1 a3 : Option AV} {st : List AV} {m : MM} {x : Int32} : go 78 0 [a0, a1, some (.inl x), a3] st m = go 78 1 [a0, a1, some (.inl x), a3] (.inl x :: st) m := e_1 d78_0 (Or.inl rfl) rfl
theorem d78_1 : decode (mt 78).2.1 1 = .ok (.bipush 8, 2) := by decide +kernel
theorem s78_1 {ls : LV} {st : List AV} {m : MM} : go 78 1 ls st m = go 78 3 ls (.inl 8 :: st) m := e_1 d78_1 (Or.inl rfl) rfl
theorem d78_3 : decode (mt 78).2.1 3 = .ok (.if_icmp .lt 4, 3) := by decide +kernel
theorem s78_3 {ls : LV} {st : List AV} {m : MM} {a b : Int32} : go 78 3 ls (.inl b :: .inl a :: st) m = if a < b then go 78 7 ls st m else go 78 6 ls st m := e_if (t := 7) (b := hc .lt a b) d78_3 (Or.inl rfl) (by simp only [xi, pI, jm_some (t := 7) (show ((3 : Nat) : Int) + 4 = ((7 : Nat) : Int) by decide), Option.bind_some]) (by simp [hc])
theorem d78_6 : decode (mt 78).2.1 6 = .ok (.return_, 1) := by decide +kernel
theorem s78_6 {ls : LV} {m : MM} : go 78 6 ls [] m = some (none, m) := e_void d78_6 (by decide +kernel)
theorem d78_7 : decode (mt 78).2.1 7 = .ok (.aload_n 1, 1) := by decide +kernel
theorem s78_7 {a0 a2 a3 : Option AV} {st : List AV} {m : MM} {x : Nat × Option Nat} : go 78 7 [a0, some (.inr (.inr x)), a2, a3] st m = go 78 8 [a0, some (.inr (.inr x)), a2, a3] (.inr (.inr x) :: st) m := e_1 d78_7 (Or.inl rfl) rfl
theorem d78_8 : decode (mt 78).2.1 8 = .ok (.iload_n 2, 1) := by decide +kernel
theorem s78_8 {a0 a1 a3 : Option AV} {st : List AV} {m : MM} {x : Int32} : go 78 8 [a0, a1, some (.inl x), a3] st m = go 78 9 [a0, a1, some (.inl x), a3] (.inl x :: st) m := e_1 d78_8 (Or.inl rfl) rfl
theorem d78_9 : decode (mt 78).2.1 9 = .ok (.iconst 1, 1) := by decide +kernel
theorem s78_9 {ls : LV} {st : List AV} {m : MM} : go 78 9 ls st m = go 78 10 ls (.inl 1 :: st) m := e_1 d78_9 (Or.inl rfl) rfl
theorem d78_10 : decode (mt 78).2.1 10 = .ok (.invokevirtual 109, 3) := by decide +kernel
theorem s78_10 {ls : LV} {m : MM} {x0 : Int32} {x1 : Int32} {n : Nat} : go 78 10 ls [.inl x1, .inl x0, .inr (.inr (6, some n))] m = bd (go 27 0 [some (.inr (.inr (6, some n))), some (.inl x0), some (.inl x1)] [] m) (fun v m2 => go 78 13 ls (v.toList ++ []) m2) := e_virt (y1 := 27) (na := 2) (as := [.inl x0, .inl x1]) (rest := []) d78_10 (by decide +kernel) rfl (by decide +kernel) (show (ent [.inr (.inr (6, some n)), .inl x0, .inl x1]).length ≤ (mt 27).2.2.2.1 from Nat.le_of_ble_eq_true rfl) (cats_le (Nat.le_of_ble_eq_true rfl)) (by decide +kernel)
theorem d78_13 : decode (mt 78).2.1 13 = .ok (.astore_n 3, 1) := by decide +kernel
theorem s78_13i {a0 a1 a3 : Option AV} {z : Int32} {st : List AV} {m : MM} {x : Nat × Option Nat} : go 78 13 [a0, a1, some (.inl z), a3] (.inr (.inr x) :: st) m = go 78 14 [a0, a1, some (.inl z), some (.inr (.inr x))] st m := e_1 d78_13 (Or.inl rfl) rfl
theorem s78_13r {a0 a1 a3 : Option AV} {z : Nat × Option Nat} {st : List AV} {m : MM} {x : Nat × Option Nat} : go 78 13 [a0, a1, some (.inr (.inr z)), a3] (.inr (.inr x) :: st) m = go 78 14 [a0, a1, some (.inr (.inr z)), some (.inr (.inr x))] st m := e_1 d78_13 (Or.inl rfl) rfl
theorem s78_13n {a0 a1 a3 : Option AV} {st : List AV} {m : MM} {x : Nat × Option Nat} : go 78 13 [a0, a1, none, a3] (.inr (.inr x) :: st) m = go 78 14 [a0, a1, none, some (.inr (.inr x))] st m := e_1 d78_13 (Or.inl rfl) rfl
theorem d78_14 : decode (mt 78).2.1 14 = .ok (.aload_n 3, 1) := by decide +kernel
theorem s78_14 {a0 a1 a2 : Option AV} {st : List AV} {m : MM} {x : Nat × Option Nat} : go 78 14 [a0, a1, a2, some (.inr (.inr x))] st m = go 78 15 [a0, a1, a2, some (.inr (.inr x))] (.inr (.inr x) :: st) m := e_1 d78_14 (Or.inl rfl) rfl
theorem d78_15 : decode (mt 78).2.1 15 = .ok (.ifnull 21, 3) := by decide +kernel
theorem s78_15n {u : Nat} {ls : LV} {st : List AV} {m : MM} : go 78 15 ls (.inr (.inr (u, none)) :: st) m = go 78 36 ls st m := e_1 d78_15 (Or.inl rfl) (by rw [xi, jm_some (t := 36) (by decide)]; rfl)
theorem s78_15s {u n : Nat} {ls : LV} {st : List AV} {m : MM} : go 78 15 ls (.inr (.inr (u, some n)) :: st) m = go 78 18 ls st m := e_1 d78_15 (Or.inl rfl) (by rw [xi, jm_some (t := 36) (by decide)]; rfl)
theorem d78_18 : decode (mt 78).2.1 18 = .ok (.aload_n 0, 1) := by decide +kernel
theorem s78_18 {a1 a2 a3 : Option AV} {st : List AV} {m : MM} {x : Nat × Option Nat} : go 78 18 [some (.inr (.inr x)), a1, a2, a3] st m = go 78 19 [some (.inr (.inr x)), a1, a2, a3] (.inr (.inr x) :: st) m := e_1 d78_18 (Or.inl rfl) rfl
theorem d78_19 : decode (mt 78).2.1 19 = .ok (.getfield 28, 3) := by decide +kernel
theorem s78_19 {ls : LV} {st : List AV} {m : MM} {n : Nat} : go 78 19 ls (.inr (.inr (7, some n)) :: st) m = go 78 22 ls (.inr (.inr (3, mR m 7 n 6)) :: st) m := e_1 d78_19 (Or.inl rfl) (by rw [xi, pA, show lk fdL (mt 78).2.2.1 28 = some (7, 6) by decide +kernel]; rfl)
theorem d78_22 : decode (mt 78).2.1 22 = .ok (.aconst_null, 1) := by decide +kernel
theorem s78_22 {ls : LV} {st : List AV} {m : MM} : go 78 22 ls st m = go 78 23 ls (.inr (.inr (0, none)) :: st) m := e_1 d78_22 (Or.inl rfl) rfl
theorem d78_23 : decode (mt 78).2.1 23 = .ok (.bipush 8, 2) := by decide +kernel
theorem s78_23 {ls : LV} {st : List AV} {m : MM} : go 78 23 ls st m = go 78 25 ls (.inl 8 :: st) m := e_1 d78_23 (Or.inl rfl) rfl
theorem d78_25 : decode (mt 78).2.1 25 = .ok (.aload_n 3, 1) := by decide +kernel
theorem s78_25 {a0 a1 a2 : Option AV} {st : List AV} {m : MM} {x : Nat × Option Nat} : go 78 25 [a0, a1, a2, some (.inr (.inr x))] st m = go 78 26 [a0, a1, a2, some (.inr (.inr x))] (.inr (.inr x) :: st) m := e_1 d78_25 (Or.inl rfl) rfl
theorem d78_26 : decode (mt 78).2.1 26 = .ok (.iload_n 2, 1) := by decide +kernel
theorem s78_26 {a0 a1 a3 : Option AV} {st : List AV} {m : MM} {x : Int32} : go 78 26 [a0, a1, some (.inl x), a3] st m = go 78 27 [a0, a1, some (.inl x), a3] (.inl x :: st) m := e_1 d78_26 (Or.inl rfl) rfl
theorem d78_27 : decode (mt 78).2.1 27 = .ok (.iconst 1, 1) := by decide +kernel
theorem s78_27 {ls : LV} {st : List AV} {m : MM} : go 78 27 ls st m = go 78 28 ls (.inl 1 :: st) m := e_1 d78_27 (Or.inl rfl) rfl
theorem d78_28 : decode (mt 78).2.1 28 = .ok (.aconst_null, 1) := by decide +kernel
theorem s78_28 {ls : LV} {st : List AV} {m : MM} : go 78 28 ls st m = go 78 29 ls (.inr (.inr (0, none)) :: st) m := e_1 d78_28 (Or.inl rfl) rfl
theorem d78_29 : decode (mt 78).2.1 29 = .ok (.aconst_null, 1) := by decide +kernel
theorem s78_29 {ls : LV} {st : List AV} {m : MM} : go 78 29 ls st m = go 78 30 ls (.inr (.inr (0, none)) :: st) m := e_1 d78_29 (Or.inl rfl) rfl
theorem d78_30 : decode (mt 78).2.1 30 = .ok (.invokevirtual 133, 3) := by decide +kernel
theorem s78_30 {ls : LV} {m : MM} {x0 : Nat × Option Nat} {x1 : Int32} {x2 : Nat × Option Nat} {x3 : Int32} {x4 : Int32} {x5 : Nat × Option Nat} {x6 : Nat × Option Nat} {n : Nat} : go 78 30 ls [.inr (.inr x6), .inr (.inr x5), .inl x4, .inl x3, .inr (.inr x2), .inl x1, .inr (.inr x0), .inr (.inr (3, some n))] m = bd (go 12 0 [some (.inr (.inr (3, some n))), some (.inr (.inr x0)), some (.inl x1), some (.inr (.inr x2)), some (.inl x3), some (.inl x4), some (.inr (.inr x5)), some (.inr (.inr x6)), none] [] m) (fun v m2 => go 78 33 ls (v.toList ++ []) m2) := e_virt (y1 := 12) (na := 7) (as := [.inr (.inr x0), .inl x1, .inr (.inr x2), .inl x3, .inl x4, .inr (.inr x5), .inr (.inr x6)]) (rest := []) d78_30 (by decide +kernel) rfl (by decide +kernel) (show (ent [.inr (.inr (3, some n)), .inr (.inr x0), .inl x1, .inr (.inr x2), .inl x3, .inl x4, .inr (.inr x5), .inr (.inr x6)]).length ≤ (mt 12).2.2.2.1 from Nat.le_of_ble_eq_true rfl) (cats_le (Nat.le_of_ble_eq_true rfl)) (by decide +kernel)
theorem d78_33 : decode (mt 78).2.1 33 = .ok (.goto 23, 3) := by decide +kernel
theorem s78_33 {ls : LV} {st : List AV} {m : MM} : go 78 33 ls st m = go 78 56 ls st m := e_1 d78_33 (Or.inl rfl) (by rw [xi, jm_some (t := 56) (by decide)]; rfl)
theorem d78_36 : decode (mt 78).2.1 36 = .ok (.aload_n 0, 1) := by decide +kernel
theorem s78_36 {a1 a2 a3 : Option AV} {st : List AV} {m : MM} {x : Nat × Option Nat} : go 78 36 [some (.inr (.inr x)), a1, a2, a3] st m = go 78 37 [some (.inr (.inr x)), a1, a2, a3] (.inr (.inr x) :: st) m := e_1 d78_36 (Or.inl rfl) rfl
theorem d78_37 : decode (mt 78).2.1 37 = .ok (.getfield 28, 3) := by decide +kernel
theorem s78_37 {ls : LV} {st : List AV} {m : MM} {n : Nat} : go 78 37 ls (.inr (.inr (7, some n)) :: st) m = go 78 40 ls (.inr (.inr (3, mR m 7 n 6)) :: st) m := e_1 d78_37 (Or.inl rfl) (by rw [xi, pA, show lk fdL (mt 78).2.2.1 28 = some (7, 6) by decide +kernel]; rfl)
theorem d78_40 : decode (mt 78).2.1 40 = .ok (.aconst_null, 1) := by decide +kernel
theorem s78_40 {ls : LV} {st : List AV} {m : MM} : go 78 40 ls st m = go 78 41 ls (.inr (.inr (0, none)) :: st) m := e_1 d78_40 (Or.inl rfl) rfl
theorem d78_41 : decode (mt 78).2.1 41 = .ok (.bipush 8, 2) := by decide +kernel
theorem s78_41 {ls : LV} {st : List AV} {m : MM} : go 78 41 ls st m = go 78 43 ls (.inl 8 :: st) m := e_1 d78_41 (Or.inl rfl) rfl
theorem d78_43 : decode (mt 78).2.1 43 = .ok (.aload_n 1, 1) := by decide +kernel
theorem s78_43 {a0 a2 a3 : Option AV} {st : List AV} {m : MM} {x : Nat × Option Nat} : go 78 43 [a0, some (.inr (.inr x)), a2, a3] st m = go 78 44 [a0, some (.inr (.inr x)), a2, a3] (.inr (.inr x) :: st) m := e_1 d78_43 (Or.inl rfl) rfl
theorem d78_44 : decode (mt 78).2.1 44 = .ok (.iload_n 2, 1) := by decide +kernel
theorem s78_44 {a0 a1 a3 : Option AV} {st : List AV} {m : MM} {x : Int32} : go 78 44 [a0, a1, some (.inl x), a3] st m = go 78 45 [a0, a1, some (.inl x), a3] (.inl x :: st) m := e_1 d78_44 (Or.inl rfl) rfl
theorem d78_45 : decode (mt 78).2.1 45 = .ok (.iconst 0, 1) := by decide +kernel
theorem s78_45 {ls : LV} {st : List AV} {m : MM} : go 78 45 ls st m = go 78 46 ls (.inl 0 :: st) m := e_1 d78_45 (Or.inl rfl) rfl
theorem d78_46 : decode (mt 78).2.1 46 = .ok (.invokevirtual 109, 3) := by decide +kernel
theorem s78_46 {ls : LV} {m : MM} {x0 : Int32} {x1 : Int32} {w0 w1 w2 : AV} {n : Nat} : go 78 46 ls [.inl x1, .inl x0, .inr (.inr (6, some n)), w0, w1, w2] m = bd (go 27 0 [some (.inr (.inr (6, some n))), some (.inl x0), some (.inl x1)] [] m) (fun v m2 => go 78 49 ls (v.toList ++ [w0, w1, w2]) m2) := e_virt (y1 := 27) (na := 2) (as := [.inl x0, .inl x1]) (rest := [w0, w1, w2]) d78_46 (by decide +kernel) rfl (by decide +kernel) (show (ent [.inr (.inr (6, some n)), .inl x0, .inl x1]).length ≤ (mt 27).2.2.2.1 from Nat.le_of_ble_eq_true rfl) (cats_le (Nat.le_of_ble_eq_true rfl)) (by decide +kernel)
theorem d78_49 : decode (mt 78).2.1 49 = .ok (.iload_n 2, 1) := by decide +kernel
theorem s78_49 {a0 a1 a3 : Option AV} {st : List AV} {m : MM} {x : Int32} : go 78 49 [a0, a1, some (.inl x), a3] st m = go 78 50 [a0, a1, some (.inl x), a3] (.inl x :: st) m := e_1 d78_49 (Or.inl rfl) rfl
theorem d78_50 : decode (mt 78).2.1 50 = .ok (.iconst 0, 1) := by decide +kernel
theorem s78_50 {ls : LV} {st : List AV} {m : MM} : go 78 50 ls st m = go 78 51 ls (.inl 0 :: st) m := e_1 d78_50 (Or.inl rfl) rfl
theorem d78_51 : decode (mt 78).2.1 51 = .ok (.aconst_null, 1) := by decide +kernel
theorem s78_51 {ls : LV} {st : List AV} {m : MM} : go 78 51 ls st m = go 78 52 ls (.inr (.inr (0, none)) :: st) m := e_1 d78_51 (Or.inl rfl) rfl
theorem d78_52 : decode (mt 78).2.1 52 = .ok (.aconst_null, 1) := by decide +kernel
theorem s78_52 {ls : LV} {st : List AV} {m : MM} : go 78 52 ls st m = go 78 53 ls (.inr (.inr (0, none)) :: st) m := e_1 d78_52 (Or.inl rfl) rfl
theorem d78_53 : decode (mt 78).2.1 53 = .ok (.invokevirtual 133, 3) := by decide +kernel
theorem s78_53 {ls : LV} {m : MM} {x0 : Nat × Option Nat} {x1 : Int32} {x2 : Nat × Option Nat} {x3 : Int32} {x4 : Int32} {x5 : Nat × Option Nat} {x6 : Nat × Option Nat} {n : Nat} : go 78 53 ls [.inr (.inr x6), .inr (.inr x5), .inl x4, .inl x3, .inr (.inr x2), .inl x1, .inr (.inr x0), .inr (.inr (3, some n))] m = bd (go 12 0 [some (.inr (.inr (3, some n))), some (.inr (.inr x0)), some (.inl x1), some (.inr (.inr x2)), some (.inl x3), some (.inl x4), some (.inr (.inr x5)), some (.inr (.inr x6)), none] [] m) (fun v m2 => go 78 56 ls (v.toList ++ []) m2) := e_virt (y1 := 12) (na := 7) (as := [.inr (.inr x0), .inl x1, .inr (.inr x2), .inl x3, .inl x4, .inr (.inr x5), .inr (.inr x6)]) (rest := []) d78_53 (by decide +kernel) rfl (by decide +kernel) (show (ent [.inr (.inr (3, some n)), .inr (.inr x0), .inl x1, .inr (.inr x2), .inl x3, .inl x4, .inr (.inr x5), .inr (.inr x6)]).length ≤ (mt 12).2.2.2.1 from Nat.le_of_ble_eq_true rfl) (cats_le (Nat.le_of_ble_eq_true rfl)) (by decide +kernel)
theorem d78_56 : decode (mt 78).2.1 56 = .ok (.return_, 1) := by decide +kernel
theorem s78_56 {ls : LV} {m : MM} : go 78 56 ls [] m = some (none, m) := e_void d78_56 (by decide +kernel)
/-! X6_seekComes: 79 -/
theorem d79_0 : decode (mt 79).2.1 0 = .ok (.aload_n 2, 1) := by decide +kernel
theorem s79_0 {a0 a1 a3 a4 a5 a6 : Option AV} {st : List AV} {m : MM} {x : Nat × Option Nat} : go 79 0 [a0, a1, some (.inr (.inr x)), a3, a4, a5, a6] st m = go 79 1 [a0, a1, some (.inr (.inr x)), a3, a4, a5, a6] (.inr (.inr x) :: st) m := e_1 d79_0 (Or.inl rfl) rfl
theorem d79_1 : decode (mt 79).2.1 1 = .ok (.aload_n 1, 1) := by decide +kernel
theorem s79_1 {a0 a2 a3 a4 a5 a6 : Option AV} {st : List AV} {m : MM} {x : Nat × Option Nat} : go 79 1 [a0, some (.inr (.inr x)), a2, a3, a4, a5, a6] st m = go 79 2 [a0, some (.inr (.inr x)), a2, a3, a4, a5, a6] (.inr (.inr x) :: st) m := e_1 d79_1 (Or.inl rfl) rfl
theorem d79_2 : decode (mt 79).2.1 2 = .ok (.iload_n 3, 1) := by decide +kernel
theorem s79_2 {a0 a1 a2 a4 a5 a6 : Option AV} {st : List AV} {m : MM} {x : Int32} : go 79 2 [a0, a1, a2, some (.inl x), a4, a5, a6] st m = go 79 3 [a0, a1, a2, some (.inl x), a4, a5, a6] (.inl x :: st) m := e_1 d79_2 (Or.inl rfl) rfl
theorem d79_3 : decode (mt 79).2.1 3 = .ok (.iconst 1, 1) := by decide +kernel
theorem s79_3 {ls : LV} {st : List AV} {m : MM} : go 79 3 ls st m = go 79 4 ls (.inl 1 :: st) m := e_1 d79_3 (Or.inl rfl) rfl
theorem d79_4 : decode (mt 79).2.1 4 = .ok (.iadd, 1) := by decide +kernel
theorem s79_4 {ls : LV} {st : List AV} {m : MM} {a b : Int32} : go 79 4 ls (.inl b :: .inl a :: st) m = go 79 5 ls (.inl (a + b) :: st) m := e_1 d79_4 (Or.inl rfl) rfl
theorem d79_5 : decode (mt 79).2.1 5 = .ok (.invokevirtual 342, 3) := by decide +kernel
theorem s79_5 {ls : LV} {m : MM} {x0 : Nat × Option Nat} {x1 : Int32} {n : Nat} : go 79 5 ls [.inl x1, .inr (.inr x0), .inr (.inr (6, some n))] m = bd (go 24 0 [some (.inr (.inr (6, some n))), some (.inr (.inr x0)), some (.inl x1)] [] m) (fun v m2 => go 79 8 ls (v.toList ++ []) m2) := e_virt (y1 := 24) (na := 2) (as := [.inr (.inr x0), .inl x1]) (rest := []) d79_5 (by decide +kernel) rfl (by decide +kernel) (show (ent [.inr (.inr (6, some n)), .inr (.inr x0), .inl x1]).length ≤ (mt 24).2.2.2.1 from Nat.le_of_ble_eq_true rfl) (cats_le (Nat.le_of_ble_eq_true rfl)) (by decide +kernel)
theorem d79_8 : decode (mt 79).2.1 8 = .ok (.ifCond .eq 47, 3) := by decide +kernel
theorem s79_8 {ls : LV} {st : List AV} {m : MM} {a : Int32} : go 79 8 ls (.inl a :: st) m = if a = 0 then go 79 55 ls st m else go 79 11 ls st m := e_if (t := 55) (b := hc .eq a 0) d79_8 (Or.inl rfl) (by simp only [xi, pI, jm_some (t := 55) (show ((8 : Nat) : Int) + 47 = ((55 : Nat) : Int) by decide), Option.bind_some]) (by simp [hc])
theorem d79_11 : decode (mt 79).2.1 11 = .ok (.aload_n 0, 1) := by decide +kernel
theorem s79_11 {a1 a2 a3 a4 a5 a6 : Option AV} {st : List AV} {m : MM} {x : Nat × Option Nat} : go 79 11 [some (.inr (.inr x)), a1, a2, a3, a4, a5, a6] st m = go 79 12 [some (.inr (.inr x)), a1, a2, a3, a4, a5, a6] (.inr (.inr x) :: st) m := e_1 d79_11 (Or.inl rfl) rfl
theorem d79_12 : decode (mt 79).2.1 12 = .ok (.aload_n 1, 1) := by decide +kernel
theorem s79_12 {a0 a2 a3 a4 a5 a6 : Option AV} {st : List AV} {m : MM} {x : Nat × Option Nat} : go 79 12 [a0, some (.inr (.inr x)), a2, a3, a4, a5, a6] st m = go 79 13 [a0, some (.inr (.inr x)), a2, a3, a4, a5, a6] (.inr (.inr x) :: st) m := e_1 d79_12 (Or.inl rfl) rfl
theorem d79_13 : decode (mt 79).2.1 13 = .ok (.iload_n 3, 1) := by decide +kernel
theorem s79_13 {a0 a1 a2 a4 a5 a6 : Option AV} {st : List AV} {m : MM} {x : Int32} : go 79 13 [a0, a1, a2, some (.inl x), a4, a5, a6] st m = go 79 14 [a0, a1, a2, some (.inl x), a4, a5, a6] (.inl x :: st) m := e_1 d79_13 (Or.inl rfl) rfl
theorem d79_14 : decode (mt 79).2.1 14 = .ok (.iconst 1, 1) := by decide +kernel
theorem s79_14 {ls : LV} {st : List AV} {m : MM} : go 79 14 ls st m = go 79 15 ls (.inl 1 :: st) m := e_1 d79_14 (Or.inl rfl) rfl
theorem d79_15 : decode (mt 79).2.1 15 = .ok (.iadd, 1) := by decide +kernel
theorem s79_15 {ls : LV} {st : List AV} {m : MM} {a b : Int32} : go 79 15 ls (.inl b :: .inl a :: st) m = go 79 16 ls (.inl (a + b) :: st) m := e_1 d79_15 (Or.inl rfl) rfl
theorem d79_16 : decode (mt 79).2.1 16 = .ok (.iload 4, 2) := by decide +kernel
theorem s79_16 {a0 a1 a2 a3 a5 a6 : Option AV} {st : List AV} {m : MM} {x : Int32} : go 79 16 [a0, a1, a2, a3, some (.inl x), a5, a6] st m = go 79 18 [a0, a1, a2, a3, some (.inl x), a5, a6] (.inl x :: st) m := e_1 d79_16 (Or.inl rfl) rfl
theorem d79_18 : decode (mt 79).2.1 18 = .ok (.ifCond .ne 7, 3) := by decide +kernel
theorem s79_18 {ls : LV} {st : List AV} {m : MM} {a : Int32} : go 79 18 ls (.inl a :: st) m = if ¬ a = 0 then go 79 25 ls st m else go 79 21 ls st m := e_if (t := 25) (b := hc .ne a 0) d79_18 (Or.inl rfl) (by simp only [xi, pI, jm_some (t := 25) (show ((18 : Nat) : Int) + 7 = ((25 : Nat) : Int) by decide), Option.bind_some]) (by simp [hc])
theorem d79_21 : decode (mt 79).2.1 21 = .ok (.aload_n 2, 1) := by decide +kernel
theorem s79_21 {a0 a1 a3 a4 a5 a6 : Option AV} {st : List AV} {m : MM} {x : Nat × Option Nat} : go 79 21 [a0, a1, some (.inr (.inr x)), a3, a4, a5, a6] st m = go 79 22 [a0, a1, some (.inr (.inr x)), a3, a4, a5, a6] (.inr (.inr x) :: st) m := e_1 d79_21 (Or.inl rfl) rfl
theorem d79_22 : decode (mt 79).2.1 22 = .ok (.goto 11, 3) := by decide +kernel
theorem s79_22 {ls : LV} {st : List AV} {m : MM} : go 79 22 ls st m = go 79 33 ls st m := e_1 d79_22 (Or.inl rfl) (by rw [xi, jm_some (t := 33) (by decide)]; rfl)
theorem d79_25 : decode (mt 79).2.1 25 = .ok (.aload_n 2, 1) := by decide +kernel
theorem s79_25 {a0 a1 a3 a4 a5 a6 : Option AV} {st : List AV} {m : MM} {x : Nat × Option Nat} : go 79 25 [a0, a1, some (.inr (.inr x)), a3, a4, a5, a6] st m = go 79 26 [a0, a1, some (.inr (.inr x)), a3, a4, a5, a6] (.inr (.inr x) :: st) m := e_1 d79_25 (Or.inl rfl) rfl
theorem d79_26 : decode (mt 79).2.1 26 = .ok (.iload_n 3, 1) := by decide +kernel
theorem s79_26 {a0 a1 a2 a4 a5 a6 : Option AV} {st : List AV} {m : MM} {x : Int32} : go 79 26 [a0, a1, a2, some (.inl x), a4, a5, a6] st m = go 79 27 [a0, a1, a2, some (.inl x), a4, a5, a6] (.inl x :: st) m := e_1 d79_26 (Or.inl rfl) rfl
theorem d79_27 : decode (mt 79).2.1 27 = .ok (.iconst 1, 1) := by decide +kernel
theorem s79_27 {ls : LV} {st : List AV} {m : MM} : go 79 27 ls st m = go 79 28 ls (.inl 1 :: st) m := e_1 d79_27 (Or.inl rfl) rfl
theorem d79_28 : decode (mt 79).2.1 28 = .ok (.iadd, 1) := by decide +kernel
theorem s79_28 {ls : LV} {st : List AV} {m : MM} {a b : Int32} : go 79 28 ls (.inl b :: .inl a :: st) m = go 79 29 ls (.inl (a + b) :: st) m := e_1 d79_28 (Or.inl rfl) rfl
theorem d79_29 : decode (mt 79).2.1 29 = .ok (.iconst 0, 1) := by decide +kernel
theorem s79_29 {ls : LV} {st : List AV} {m : MM} : go 79 29 ls st m = go 79 30 ls (.inl 0 :: st) m := e_1 d79_29 (Or.inl rfl) rfl
theorem d79_30 : decode (mt 79).2.1 30 = .ok (.invokevirtual 109, 3) := by decide +kernel
theorem s79_30 {ls : LV} {m : MM} {x0 : Int32} {x1 : Int32} {w0 w1 w2 : AV} {n : Nat} : go 79 30 ls [.inl x1, .inl x0, .inr (.inr (6, some n)), w0, w1, w2] m = bd (go 27 0 [some (.inr (.inr (6, some n))), some (.inl x0), some (.inl x1)] [] m) (fun v m2 => go 79 33 ls (v.toList ++ [w0, w1, w2]) m2) := e_virt (y1 := 27) (na := 2) (as := [.inl x0, .inl x1]) (rest := [w0, w1, w2]) d79_30 (by decide +kernel) rfl (by decide +kernel) (show (ent [.inr (.inr (6, some n)), .inl x0, .inl x1]).length ≤ (mt 27).2.2.2.1 from Nat.le_of_ble_eq_true rfl) (cats_le (Nat.le_of_ble_eq_true rfl)) (by decide +kernel)
theorem d79_33 : decode (mt 79).2.1 33 = .ok (.iload 4, 2) := by decide +kernel
theorem s79_33 {a0 a1 a2 a3 a5 a6 : Option AV} {st : List AV} {m : MM} {x : Int32} : go 79 33 [a0, a1, a2, a3, some (.inl x), a5, a6] st m = go 79 35 [a0, a1, a2, a3, some (.inl x), a5, a6] (.inl x :: st) m := e_1 d79_33 (Or.inl rfl) rfl
theorem d79_35 : decode (mt 79).2.1 35 = .ok (.iconst 1, 1) := by decide +kernel
theorem s79_35 {ls : LV} {st : List AV} {m : MM} : go 79 35 ls st m = go 79 36 ls (.inl 1 :: st) m := e_1 d79_35 (Or.inl rfl) rfl
theorem d79_36 : decode (mt 79).2.1 36 = .ok (.if_icmp .ne 7, 3) := by decide +kernel
theorem s79_36 {ls : LV} {st : List AV} {m : MM} {a b : Int32} : go 79 36 ls (.inl b :: .inl a :: st) m = if ¬ a = b then go 79 43 ls st m else go 79 39 ls st m := e_if (t := 43) (b := hc .ne a b) d79_36 (Or.inl rfl) (by simp only [xi, pI, jm_some (t := 43) (show ((36 : Nat) : Int) + 7 = ((43 : Nat) : Int) by decide), Option.bind_some]) (by simp [hc])
theorem d79_39 : decode (mt 79).2.1 39 = .ok (.aload_n 2, 1) := by decide +kernel
theorem s79_39 {a0 a1 a3 a4 a5 a6 : Option AV} {st : List AV} {m : MM} {x : Nat × Option Nat} : go 79 39 [a0, a1, some (.inr (.inr x)), a3, a4, a5, a6] st m = go 79 40 [a0, a1, some (.inr (.inr x)), a3, a4, a5, a6] (.inr (.inr x) :: st) m := e_1 d79_39 (Or.inl rfl) rfl
theorem d79_40 : decode (mt 79).2.1 40 = .ok (.goto 11, 3) := by decide +kernel
theorem s79_40 {ls : LV} {st : List AV} {m : MM} : go 79 40 ls st m = go 79 51 ls st m := e_1 d79_40 (Or.inl rfl) (by rw [xi, jm_some (t := 51) (by decide)]; rfl)
theorem d79_43 : decode (mt 79).2.1 43 = .ok (.aload_n 2, 1) := by decide +kernel
theorem s79_43 {a0 a1 a3 a4 a5 a6 : Option AV} {st : List AV} {m : MM} {x : Nat × Option Nat} : go 79 43 [a0, a1, some (.inr (.inr x)), a3, a4, a5, a6] st m = go 79 44 [a0, a1, some (.inr (.inr x)), a3, a4, a5, a6] (.inr (.inr x) :: st) m := e_1 d79_43 (Or.inl rfl) rfl
theorem d79_44 : decode (mt 79).2.1 44 = .ok (.iload_n 3, 1) := by decide +kernel
theorem s79_44 {a0 a1 a2 a4 a5 a6 : Option AV} {st : List AV} {m : MM} {x : Int32} : go 79 44 [a0, a1, a2, some (.inl x), a4, a5, a6] st m = go 79 45 [a0, a1, a2, some (.inl x), a4, a5, a6] (.inl x :: st) m := e_1 d79_44 (Or.inl rfl) rfl
theorem d79_45 : decode (mt 79).2.1 45 = .ok (.iconst 1, 1) := by decide +kernel
theorem s79_45 {ls : LV} {st : List AV} {m : MM} : go 79 45 ls st m = go 79 46 ls (.inl 1 :: st) m := e_1 d79_45 (Or.inl rfl) rfl
theorem d79_46 : decode (mt 79).2.1 46 = .ok (.iadd, 1) := by decide +kernel
theorem s79_46 {ls : LV} {st : List AV} {m : MM} {a b : Int32} : go 79 46 ls (.inl b :: .inl a :: st) m = go 79 47 ls (.inl (a + b) :: st) m := e_1 d79_46 (Or.inl rfl) rfl
theorem d79_47 : decode (mt 79).2.1 47 = .ok (.iconst 1, 1) := by decide +kernel
theorem s79_47 {ls : LV} {st : List AV} {m : MM} : go 79 47 ls st m = go 79 48 ls (.inl 1 :: st) m := e_1 d79_47 (Or.inl rfl) rfl
theorem d79_48 : decode (mt 79).2.1 48 = .ok (.invokevirtual 109, 3) := by decide +kernel
theorem s79_48 {ls : LV} {m : MM} {x0 : Int32} {x1 : Int32} {w0 w1 w2 w3 : AV} {n : Nat} : go 79 48 ls [.inl x1, .inl x0, .inr (.inr (6, some n)), w0, w1, w2, w3] m = bd (go 27 0 [some (.inr (.inr (6, some n))), some (.inl x0), some (.inl x1)] [] m) (fun v m2 => go 79 51 ls (v.toList ++ [w0, w1, w2, w3]) m2) := e_virt (y1 := 27) (na := 2) (as := [.inl x0, .inl x1]) (rest := [w0, w1, w2, w3]) d79_48 (by decide +kernel) rfl (by decide +kernel) (show (ent [.inr (.inr (6, some n)), .inl x0, .inl x1]).length ≤ (mt 27).2.2.2.1 from Nat.le_of_ble_eq_true rfl) (cats_le (Nat.le_of_ble_eq_true rfl)) (by decide +kernel)
theorem d79_51 : decode (mt 79).2.1 51 = .ok (.invokevirtual 346, 3) := by decide +kernel
theorem s79_51 {ls : LV} {m : MM} {x0 : Nat × Option Nat} {x1 : Int32} {x2 : Nat × Option Nat} {x3 : Nat × Option Nat} {n : Nat} : go 79 51 ls [.inr (.inr x3), .inr (.inr x2), .inl x1, .inr (.inr x0), .inr (.inr (7, some n))] m = bd (go 80 0 [some (.inr (.inr (7, some n))), some (.inr (.inr x0)), some (.inl x1), some (.inr (.inr x2)), some (.inr (.inr x3))] [] m) (fun v m2 => go 79 54 ls (v.toList ++ []) m2) := e_virt (y1 := 80) (na := 4) (as := [.inr (.inr x0), .inl x1, .inr (.inr x2), .inr (.inr x3)]) (rest := []) d79_51 (by decide +kernel) rfl (by decide +kernel) (show (ent [.inr (.inr (7, some n)), .inr (.inr x0), .inl x1, .inr (.inr x2), .inr (.inr x3)]).length ≤ (mt 80).2.2.2.1 from Nat.le_of_ble_eq_true rfl) (cats_le (Nat.le_of_ble_eq_true rfl)) (by decide +kernel)
theorem d79_54 : decode (mt 79).2.1 54 = .ok (.return_, 1) := by decide +kernel
theorem s79_54 {ls : LV} {m : MM} : go 79 54 ls [] m = some (none, m) := e_void d79_54 (by decide +kernel)
theorem d79_55 : decode (mt 79).2.1 55 = .ok (.aload_n 2, 1) := by decide +kernel
theorem s79_55 {a0 a1 a3 a4 a5 a6 : Option AV} {st : List AV} {m : MM} {x : Nat × Option Nat} : go 79 55 [a0, a1, some (.inr (.inr x)), a3, a4, a5, a6] st m = go 79 56 [a0, a1, some (.inr (.inr x)), a3, a4, a5, a6] (.inr (.inr x) :: st) m := e_1 d79_55 (Or.inl rfl) rfl
theorem d79_56 : decode (mt 79).2.1 56 = .ok (.iload_n 3, 1) := by decide +kernel
theorem s79_56 {a0 a1 a2 a4 a5 a6 : Option AV} {st : List AV} {m : MM} {x : Int32} : go 79 56 [a0, a1, a2, some (.inl x), a4, a5, a6] st m = go 79 57 [a0, a1, a2, some (.inl x), a4, a5, a6] (.inl x :: st) m := e_1 d79_56 (Or.inl rfl) rfl
theorem d79_57 : decode (mt 79).2.1 57 = .ok (.iload 4, 2) := by decide +kernel
theorem s79_57 {a0 a1 a2 a3 a5 a6 : Option AV} {st : List AV} {m : MM} {x : Int32} : go 79 57 [a0, a1, a2, a3, some (.inl x), a5, a6] st m = go 79 59 [a0, a1, a2, a3, some (.inl x), a5, a6] (.inl x :: st) m := e_1 d79_57 (Or.inl rfl) rfl
theorem d79_59 : decode (mt 79).2.1 59 = .ok (.invokevirtual 109, 3) := by decide +kernel
theorem s79_59 {ls : LV} {m : MM} {x0 : Int32} {x1 : Int32} {n : Nat} : go 79 59 ls [.inl x1, .inl x0, .inr (.inr (6, some n))] m = bd (go 27 0 [some (.inr (.inr (6, some n))), some (.inl x0), some (.inl x1)] [] m) (fun v m2 => go 79 62 ls (v.toList ++ []) m2) := e_virt (y1 := 27) (na := 2) (as := [.inl x0, .inl x1]) (rest := []) d79_59 (by decide +kernel) rfl (by decide +kernel) (show (ent [.inr (.inr (6, some n)), .inl x0, .inl x1]).length ≤ (mt 27).2.2.2.1 from Nat.le_of_ble_eq_true rfl) (cats_le (Nat.le_of_ble_eq_true rfl)) (by decide +kernel)
theorem d79_62 : decode (mt 79).2.1 62 = .ok (.astore 5, 2) := by decide +kernel
theorem s79_62i {a0 a1 a2 a3 a5 a6 : Option AV} {z : Int32} {st : List AV} {m : MM} {x : Nat × Option Nat} : go 79 62 [a0, a1, a2, a3, some (.inl z), a5, a6] (.inr (.inr x) :: st) m = go 79 64 [a0, a1, a2, a3, some (.inl z), some (.inr (.inr x)), a6] st m := e_1 d79_62 (Or.inl rfl) rfl
theorem s79_62r {a0 a1 a2 a3 a5 a6 : Option AV} {z : Nat × Option Nat} {st : List AV} {m : MM} {x : Nat × Option Nat} : go 79 62 [a0, a1, a2, a3, some (.inr (.inr z)), a5, a6] (.inr (.inr x) :: st) m = go 79 64 [a0, a1, a2, a3, some (.inr (.inr z)), some (.inr (.inr x)), a6] st m := e_1 d79_62 (Or.inl rfl) rfl
theorem s79_62n {a0 a1 a2 a3 a5 a6 : Option AV} {st : List AV} {m : MM} {x : Nat × Option Nat} : go 79 62 [a0, a1, a2, a3, none, a5, a6] (.inr (.inr x) :: st) m = go 79 64 [a0, a1, a2, a3, none, some (.inr (.inr x)), a6] st m := e_1 d79_62 (Or.inl rfl) rfl
theorem d79_64 : decode (mt 79).2.1 64 = .ok (.iload 4, 2) := by decide +kernel
theorem s79_64 {a0 a1 a2 a3 a5 a6 : Option AV} {st : List AV} {m : MM} {x : Int32} : go 79 64 [a0, a1, a2, a3, some (.inl x), a5, a6] st m = go 79 66 [a0, a1, a2, a3, some (.inl x), a5, a6] (.inl x :: st) m := e_1 d79_64 (Or.inl rfl) rfl
theorem d79_66 : decode (mt 79).2.1 66 = .ok (.iconst 1, 1) := by decide +kernel
theorem s79_66 {ls : LV} {st : List AV} {m : MM} : go 79 66 ls st m = go 79 67 ls (.inl 1 :: st) m := e_1 d79_66 (Or.inl rfl) rfl
theorem d79_67 : decode (mt 79).2.1 67 = .ok (.if_icmp .ne 12, 3) := by decide +kernel
theorem s79_67 {ls : LV} {st : List AV} {m : MM} {a b : Int32} : go 79 67 ls (.inl b :: .inl a :: st) m = if ¬ a = b then go 79 79 ls st m else go 79 70 ls st m := e_if (t := 79) (b := hc .ne a b) d79_67 (Or.inl rfl) (by simp only [xi, pI, jm_some (t := 79) (show ((67 : Nat) : Int) + 12 = ((79 : Nat) : Int) by decide), Option.bind_some]) (by simp [hc])
theorem d79_70 : decode (mt 79).2.1 70 = .ok (.aload_n 1, 1) := by decide +kernel
theorem s79_70 {a0 a2 a3 a4 a5 a6 : Option AV} {st : List AV} {m : MM} {x : Nat × Option Nat} : go 79 70 [a0, some (.inr (.inr x)), a2, a3, a4, a5, a6] st m = go 79 71 [a0, some (.inr (.inr x)), a2, a3, a4, a5, a6] (.inr (.inr x) :: st) m := e_1 d79_70 (Or.inl rfl) rfl
theorem d79_71 : decode (mt 79).2.1 71 = .ok (.iload_n 3, 1) := by decide +kernel
theorem s79_71 {a0 a1 a2 a4 a5 a6 : Option AV} {st : List AV} {m : MM} {x : Int32} : go 79 71 [a0, a1, a2, some (.inl x), a4, a5, a6] st m = go 79 72 [a0, a1, a2, some (.inl x), a4, a5, a6] (.inl x :: st) m := e_1 d79_71 (Or.inl rfl) rfl
theorem d79_72 : decode (mt 79).2.1 72 = .ok (.iconst 0, 1) := by decide +kernel
theorem s79_72 {ls : LV} {st : List AV} {m : MM} : go 79 72 ls st m = go 79 73 ls (.inl 0 :: st) m := e_1 d79_72 (Or.inl rfl) rfl
theorem d79_73 : decode (mt 79).2.1 73 = .ok (.invokevirtual 109, 3) := by decide +kernel
theorem s79_73 {ls : LV} {m : MM} {x0 : Int32} {x1 : Int32} {n : Nat} : go 79 73 ls [.inl x1, .inl x0, .inr (.inr (6, some n))] m = bd (go 27 0 [some (.inr (.inr (6, some n))), some (.inl x0), some (.inl x1)] [] m) (fun v m2 => go 79 76 ls (v.toList ++ []) m2) := e_virt (y1 := 27) (na := 2) (as := [.inl x0, .inl x1]) (rest := []) d79_73 (by decide +kernel) rfl (by decide +kernel) (show (ent [.inr (.inr (6, some n)), .inl x0, .inl x1]).length ≤ (mt 27).2.2.2.1 from Nat.le_of_ble_eq_true rfl) (cats_le (Nat.le_of_ble_eq_true rfl)) (by decide +kernel)
theorem d79_76 : decode (mt 79).2.1 76 = .ok (.goto 4, 3) := by decide +kernel
theorem s79_76 {ls : LV} {st : List AV} {m : MM} : go 79 76 ls st m = go 79 80 ls st m := e_1 d79_76 (Or.inl rfl) (by rw [xi, jm_some (t := 80) (by decide)]; rfl)
theorem d79_79 : decode (mt 79).2.1 79 = .ok (.aconst_null, 1) := by decide +kernel
theorem s79_79 {ls : LV} {st : List AV} {m : MM} : go 79 79 ls st m = go 79 80 ls (.inr (.inr (0, none)) :: st) m := e_1 d79_79 (Or.inl rfl) rfl
theorem d79_80 : decode (mt 79).2.1 80 = .ok (.astore 6, 2) := by decide +kernel
theorem s79_80i {a0 a1 a2 a3 a4 a6 : Option AV} {z : Int32} {st : List AV} {m : MM} {x : Nat × Option Nat} : go 79 80 [a0, a1, a2, a3, a4, some (.inl z), a6] (.inr (.inr x) :: st) m = go 79 82 [a0, a1, a2, a3, a4, some (.inl z), some (.inr (.inr x))] st m := e_1 d79_80 (Or.inl rfl) rfl
theorem s79_80r {a0 a1 a2 a3 a4 a6 : Option AV} {z : Nat × Option Nat} {st : List AV} {m : MM} {x : Nat × Option Nat} : go 79 80 [a0, a1, a2, a3, a4, some (.inr (.inr z)), a6] (.inr (.inr x) :: st) m = go 79 82 [a0, a1, a2, a3, a4, some (.inr (.inr z)), some (.inr (.inr x))] st m := e_1 d79_80 (Or.inl rfl) rfl
theorem s79_80n {a0 a1 a2 a3 a4 a6 : Option AV} {st : List AV} {m : MM} {x : Nat × Option Nat} : go 79 80 [a0, a1, a2, a3, a4, none, a6] (.inr (.inr x) :: st) m = go 79 82 [a0, a1, a2, a3, a4, none, some (.inr (.inr x))] st m := e_1 d79_80 (Or.inl rfl) rfl
theorem d79_82 : decode (mt 79).2.1 82 = .ok (.aload 5, 2) := by decide +kernel
theorem s79_82 {a0 a1 a2 a3 a4 a6 : Option AV} {st : List AV} {m : MM} {x : Nat × Option Nat} : go 79 82 [a0, a1, a2, a3, a4, some (.inr (.inr x)), a6] st m = go 79 84 [a0, a1, a2, a3, a4, some (.inr (.inr x)), a6] (.inr (.inr x) :: st) m := e_1 d79_82 (Or.inl rfl) rfl
theorem d79_84 : decode (mt 79).2.1 84 = .ok (.ifnull 23, 3) := by decide +kernel
theorem s79_84n {u : Nat} {ls : LV} {st : List AV} {m : MM} : go 79 84 ls (.inr (.inr (u, none)) :: st) m = go 79 107 ls st m := e_1 d79_84 (Or.inl rfl) (by rw [xi, jm_some (t := 107) (by decide)]; rfl)
theorem s79_84s {u n : Nat} {ls : LV} {st : List AV} {m : MM} : go 79 84 ls (.inr (.inr (u, some n)) :: st) m = go 79 87 ls st m := e_1 d79_84 (Or.inl rfl) (by rw [xi, jm_some (t := 107) (by decide)]; rfl)
theorem d79_87 : decode (mt 79).2.1 87 = .ok (.aload_n 0, 1) := by decide +kernel
theorem s79_87 {a1 a2 a3 a4 a5 a6 : Option AV} {st : List AV} {m : MM} {x : Nat × Option Nat} : go 79 87 [some (.inr (.inr x)), a1, a2, a3, a4, a5, a6] st m = go 79 88 [some (.inr (.inr x)), a1, a2, a3, a4, a5, a6] (.inr (.inr x) :: st) m := e_1 d79_87 (Or.inl rfl) rfl
theorem d79_88 : decode (mt 79).2.1 88 = .ok (.getfield 28, 3) := by decide +kernel
theorem s79_88 {ls : LV} {st : List AV} {m : MM} {n : Nat} : go 79 88 ls (.inr (.inr (7, some n)) :: st) m = go 79 91 ls (.inr (.inr (3, mR m 7 n 6)) :: st) m := e_1 d79_88 (Or.inl rfl) (by rw [xi, pA, show lk fdL (mt 79).2.2.1 28 = some (7, 6) by decide +kernel]; rfl)
theorem d79_91 : decode (mt 79).2.1 91 = .ok (.aconst_null, 1) := by decide +kernel
theorem s79_91 {ls : LV} {st : List AV} {m : MM} : go 79 91 ls st m = go 79 92 ls (.inr (.inr (0, none)) :: st) m := e_1 d79_91 (Or.inl rfl) rfl
theorem d79_92 : decode (mt 79).2.1 92 = .ok (.bipush 8, 2) := by decide +kernel
theorem s79_92 {ls : LV} {st : List AV} {m : MM} : go 79 92 ls st m = go 79 94 ls (.inl 8 :: st) m := e_1 d79_92 (Or.inl rfl) rfl
theorem d79_94 : decode (mt 79).2.1 94 = .ok (.aload 5, 2) := by decide +kernel
theorem s79_94 {a0 a1 a2 a3 a4 a6 : Option AV} {st : List AV} {m : MM} {x : Nat × Option Nat} : go 79 94 [a0, a1, a2, a3, a4, some (.inr (.inr x)), a6] st m = go 79 96 [a0, a1, a2, a3, a4, some (.inr (.inr x)), a6] (.inr (.inr x) :: st) m := e_1 d79_94 (Or.inl rfl) rfl
theorem d79_96 : decode (mt 79).2.1 96 = .ok (.iload_n 3, 1) := by decide +kernel
theorem s79_96 {a0 a1 a2 a4 a5 a6 : Option AV} {st : List AV} {m : MM} {x : Int32} : go 79 96 [a0, a1, a2, some (.inl x), a4, a5, a6] st m = go 79 97 [a0, a1, a2, some (.inl x), a4, a5, a6] (.inl x :: st) m := e_1 d79_96 (Or.inl rfl) rfl
theorem d79_97 : decode (mt 79).2.1 97 = .ok (.iload 4, 2) := by decide +kernel
theorem s79_97 {a0 a1 a2 a3 a5 a6 : Option AV} {st : List AV} {m : MM} {x : Int32} : go 79 97 [a0, a1, a2, a3, some (.inl x), a5, a6] st m = go 79 99 [a0, a1, a2, a3, some (.inl x), a5, a6] (.inl x :: st) m := e_1 d79_97 (Or.inl rfl) rfl
theorem d79_99 : decode (mt 79).2.1 99 = .ok (.aconst_null, 1) := by decide +kernel
theorem s79_99 {ls : LV} {st : List AV} {m : MM} : go 79 99 ls st m = go 79 100 ls (.inr (.inr (0, none)) :: st) m := e_1 d79_99 (Or.inl rfl) rfl
theorem d79_100 : decode (mt 79).2.1 100 = .ok (.aconst_null, 1) := by decide +kernel
theorem s79_100 {ls : LV} {st : List AV} {m : MM} : go 79 100 ls st m = go 79 101 ls (.inr (.inr (0, none)) :: st) m := e_1 d79_100 (Or.inl rfl) rfl
theorem d79_101 : decode (mt 79).2.1 101 = .ok (.invokevirtual 133, 3) := by decide +kernel
theorem s79_101 {ls : LV} {m : MM} {x0 : Nat × Option Nat} {x1 : Int32} {x2 : Nat × Option Nat} {x3 : Int32} {x4 : Int32} {x5 : Nat × Option Nat} {x6 : Nat × Option Nat} {n : Nat} : go 79 101 ls [.inr (.inr x6), .inr (.inr x5), .inl x4, .inl x3, .inr (.inr x2), .inl x1, .inr (.inr x0), .inr (.inr (3, some n))] m = bd (go 12 0 [some (.inr (.inr (3, some n))), some (.inr (.inr x0)), some (.inl x1), some (.inr (.inr x2)), some (.inl x3), some (.inl x4), some (.inr (.inr x5)), some (.inr (.inr x6)), none] [] m) (fun v m2 => go 79 104 ls (v.toList ++ []) m2) := e_virt (y1 := 12) (na := 7) (as := [.inr (.inr x0), .inl x1, .inr (.inr x2), .inl x3, .inl x4, .inr (.inr x5), .inr (.inr x6)]) (rest := []) d79_101 (by decide +kernel) rfl (by decide +kernel) (show (ent [.inr (.inr (3, some n)), .inr (.inr x0), .inl x1, .inr (.inr x2), .inl x3, .inl x4, .inr (.inr x5), .inr (.inr x6)]).length ≤ (mt 12).2.2.2.1 from Nat.le_of_ble_eq_true rfl) (cats_le (Nat.le_of_ble_eq_true rfl)) (by decide +kernel)
theorem d79_104 : decode (mt 79).2.1 104 = .ok (.goto 37, 3) := by decide +kernel
theorem s79_104 {ls : LV} {st : List AV} {m : MM} : go 79 104 ls st m = go 79 141 ls st m := e_1 d79_104 (Or.inl rfl) (by rw [xi, jm_some (t := 141) (by decide)]; rfl)
theorem d79_107 : decode (mt 79).2.1 107 = .ok (.aload 6, 2) := by decide +kernel
theorem s79_107 {a0 a1 a2 a3 a4 a5 : Option AV} {st : List AV} {m : MM} {x : Nat × Option Nat} : go 79 107 [a0, a1, a2, a3, a4, a5, some (.inr (.inr x))] st m = go 79 109 [a0, a1, a2, a3, a4, a5, some (.inr (.inr x))] (.inr (.inr x) :: st) m := e_1 d79_107 (Or.inl rfl) rfl
theorem d79_109 : decode (mt 79).2.1 109 = .ok (.ifnull 22, 3) := by decide +kernel
theorem s79_109n {u : Nat} {ls : LV} {st : List AV} {m : MM} : go 79 109 ls (.inr (.inr (u, none)) :: st) m = go 79 131 ls st m := e_1 d79_109 (Or.inl rfl) (by rw [xi, jm_some (t := 131) (by decide)]; rfl)
theorem s79_109s {u n : Nat} {ls : LV} {st : List AV} {m : MM} : go 79 109 ls (.inr (.inr (u, some n)) :: st) m = go 79 112 ls st m := e_1 d79_109 (Or.inl rfl) (by rw [xi, jm_some (t := 131) (by decide)]; rfl)
theorem d79_112 : decode (mt 79).2.1 112 = .ok (.aload_n 0, 1) := by decide +kernel
theorem s79_112 {a1 a2 a3 a4 a5 a6 : Option AV} {st : List AV} {m : MM} {x : Nat × Option Nat} : go 79 112 [some (.inr (.inr x)), a1, a2, a3, a4, a5, a6] st m = go 79 113 [some (.inr (.inr x)), a1, a2, a3, a4, a5, a6] (.inr (.inr x) :: st) m := e_1 d79_112 (Or.inl rfl) rfl
theorem d79_113 : decode (mt 79).2.1 113 = .ok (.getfield 28, 3) := by decide +kernel
theorem s79_113 {ls : LV} {st : List AV} {m : MM} {n : Nat} : go 79 113 ls (.inr (.inr (7, some n)) :: st) m = go 79 116 ls (.inr (.inr (3, mR m 7 n 6)) :: st) m := e_1 d79_113 (Or.inl rfl) (by rw [xi, pA, show lk fdL (mt 79).2.2.1 28 = some (7, 6) by decide +kernel]; rfl)
theorem d79_116 : decode (mt 79).2.1 116 = .ok (.aconst_null, 1) := by decide +kernel
theorem s79_116 {ls : LV} {st : List AV} {m : MM} : go 79 116 ls st m = go 79 117 ls (.inr (.inr (0, none)) :: st) m := e_1 d79_116 (Or.inl rfl) rfl
theorem d79_117 : decode (mt 79).2.1 117 = .ok (.bipush 8, 2) := by decide +kernel
theorem s79_117 {ls : LV} {st : List AV} {m : MM} : go 79 117 ls st m = go 79 119 ls (.inl 8 :: st) m := e_1 d79_117 (Or.inl rfl) rfl
theorem d79_119 : decode (mt 79).2.1 119 = .ok (.aload 6, 2) := by decide +kernel
theorem s79_119 {a0 a1 a2 a3 a4 a5 : Option AV} {st : List AV} {m : MM} {x : Nat × Option Nat} : go 79 119 [a0, a1, a2, a3, a4, a5, some (.inr (.inr x))] st m = go 79 121 [a0, a1, a2, a3, a4, a5, some (.inr (.inr x))] (.inr (.inr x) :: st) m := e_1 d79_119 (Or.inl rfl) rfl
theorem d79_121 : decode (mt 79).2.1 121 = .ok (.iload_n 3, 1) := by decide +kernel
theorem s79_121 {a0 a1 a2 a4 a5 a6 : Option AV} {st : List AV} {m : MM} {x : Int32} : go 79 121 [a0, a1, a2, some (.inl x), a4, a5, a6] st m = go 79 122 [a0, a1, a2, some (.inl x), a4, a5, a6] (.inl x :: st) m := e_1 d79_121 (Or.inl rfl) rfl
theorem d79_122 : decode (mt 79).2.1 122 = .ok (.iconst 0, 1) := by decide +kernel
theorem s79_122 {ls : LV} {st : List AV} {m : MM} : go 79 122 ls st m = go 79 123 ls (.inl 0 :: st) m := e_1 d79_122 (Or.inl rfl) rfl
theorem d79_123 : decode (mt 79).2.1 123 = .ok (.aconst_null, 1) := by decide +kernel
theorem s79_123 {ls : LV} {st : List AV} {m : MM} : go 79 123 ls st m = go 79 124 ls (.inr (.inr (0, none)) :: st) m := e_1 d79_123 (Or.inl rfl) rfl
theorem d79_124 : decode (mt 79).2.1 124 = .ok (.aconst_null, 1) := by decide +kernel
theorem s79_124 {ls : LV} {st : List AV} {m : MM} : go 79 124 ls st m = go 79 125 ls (.inr (.inr (0, none)) :: st) m := e_1 d79_124 (Or.inl rfl) rfl
theorem d79_125 : decode (mt 79).2.1 125 = .ok (.invokevirtual 133, 3) := by decide +kernel
theorem s79_125 {ls : LV} {m : MM} {x0 : Nat × Option Nat} {x1 : Int32} {x2 : Nat × Option Nat} {x3 : Int32} {x4 : Int32} {x5 : Nat × Option Nat} {x6 : Nat × Option Nat} {n : Nat} : go 79 125 ls [.inr (.inr x6), .inr (.inr x5), .inl x4, .inl x3, .inr (.inr x2), .inl x1, .inr (.inr x0), .inr (.inr (3, some n))] m = bd (go 12 0 [some (.inr (.inr (3, some n))), some (.inr (.inr x0)), some (.inl x1), some (.inr (.inr x2)), some (.inl x3), some (.inl x4), some (.inr (.inr x5)), some (.inr (.inr x6)), none] [] m) (fun v m2 => go 79 128 ls (v.toList ++ []) m2) := e_virt (y1 := 12) (na := 7) (as := [.inr (.inr x0), .inl x1, .inr (.inr x2), .inl x3, .inl x4, .inr (.inr x5), .inr (.inr x6)]) (rest := []) d79_125 (by decide +kernel) rfl (by decide +kernel) (show (ent [.inr (.inr (3, some n)), .inr (.inr x0), .inl x1, .inr (.inr x2), .inl x3, .inl x4, .inr (.inr x5), .inr (.inr x6)]).length ≤ (mt 12).2.2.2.1 from Nat.le_of_ble_eq_true rfl) (cats_le (Nat.le_of_ble_eq_true rfl)) (by decide +kernel)
theorem d79_128 : decode (mt 79).2.1 128 = .ok (.goto 13, 3) := by decide +kernel
theorem s79_128 {ls : LV} {st : List AV} {m : MM} : go 79 128 ls st m = go 79 141 ls st m := e_1 d79_128 (Or.inl rfl) (by rw [xi, jm_some (t := 141) (by decide)]; rfl)
theorem d79_131 : decode (mt 79).2.1 131 = .ok (.aload_n 0, 1) := by decide +kernel
theorem s79_131 {a1 a2 a3 a4 a5 a6 : Option AV} {st : List AV} {m : MM} {x : Nat × Option Nat} : go 79 131 [some (.inr (.inr x)), a1, a2, a3, a4, a5, a6] st m = go 79 132 [some (.inr (.inr x)), a1, a2, a3, a4, a5, a6] (.inr (.inr x) :: st) m := e_1 d79_131 (Or.inl rfl) rfl
theorem d79_132 : decode (mt 79).2.1 132 = .ok (.aload_n 1, 1) := by decide +kernel
theorem s79_132 {a0 a2 a3 a4 a5 a6 : Option AV} {st : List AV} {m : MM} {x : Nat × Option Nat} : go 79 132 [a0, some (.inr (.inr x)), a2, a3, a4, a5, a6] st m = go 79 133 [a0, some (.inr (.inr x)), a2, a3, a4, a5, a6] (.inr (.inr x) :: st) m := e_1 d79_132 (Or.inl rfl) rfl
theorem d79_133 : decode (mt 79).2.1 133 = .ok (.iload_n 3, 1) := by decide +kernel
theorem s79_133 {a0 a1 a2 a4 a5 a6 : Option AV} {st : List AV} {m : MM} {x : Int32} : go 79 133 [a0, a1, a2, some (.inl x), a4, a5, a6] st m = go 79 134 [a0, a1, a2, some (.inl x), a4, a5, a6] (.inl x :: st) m := e_1 d79_133 (Or.inl rfl) rfl
theorem d79_134 : decode (mt 79).2.1 134 = .ok (.iconst 1, 1) := by decide +kernel
theorem s79_134 {ls : LV} {st : List AV} {m : MM} : go 79 134 ls st m = go 79 135 ls (.inl 1 :: st) m := e_1 d79_134 (Or.inl rfl) rfl
theorem d79_135 : decode (mt 79).2.1 135 = .ok (.iadd, 1) := by decide +kernel
theorem s79_135 {ls : LV} {st : List AV} {m : MM} {a b : Int32} : go 79 135 ls (.inl b :: .inl a :: st) m = go 79 136 ls (.inl (a + b) :: st) m := e_1 d79_135 (Or.inl rfl) rfl
theorem d79_136 : decode (mt 79).2.1 136 = .ok (.aconst_null, 1) := by decide +kernel
theorem s79_136 {ls : LV} {st : List AV} {m : MM} : go 79 136 ls st m = go 79 137 ls (.inr (.inr (0, none)) :: st) m := e_1 d79_136 (Or.inl rfl) rfl
theorem d79_137 : decode (mt 79).2.1 137 = .ok (.aconst_null, 1) := by decide +kernel
theorem s79_137 {ls : LV} {st : List AV} {m : MM} : go 79 137 ls st m = go 79 138 ls (.inr (.inr (0, none)) :: st) m := e_1 d79_137 (Or.inl rfl) rfl
theorem d79_138 : decode (mt 79).2.1 138 = .ok (.invokevirtual 346, 3) := by decide +kernel
theorem s79_138 {ls : LV} {m : MM} {x0 : Nat × Option Nat} {x1 : Int32} {x2 : Nat × Option Nat} {x3 : Nat × Option Nat} {n : Nat} : go 79 138 ls [.inr (.inr x3), .inr (.inr x2), .inl x1, .inr (.inr x0), .inr (.inr (7, some n))] m = bd (go 80 0 [some (.inr (.inr (7, some n))), some (.inr (.inr x0)), some (.inl x1), some (.inr (.inr x2)), some (.inr (.inr x3))] [] m) (fun v m2 => go 79 141 ls (v.toList ++ []) m2) := e_virt (y1 := 80) (na := 4) (as := [.inr (.inr x0), .inl x1, .inr (.inr x2), .inr (.inr x3)]) (rest := []) d79_138 (by decide +kernel) rfl (by decide +kernel) (show (ent [.inr (.inr (7, some n)), .inr (.inr x0), .inl x1, .inr (.inr x2), .inr (.inr x3)]).length ≤ (mt 80).2.2.2.1 from Nat.le_of_ble_eq_true rfl) (cats_le (Nat.le_of_ble_eq_true rfl)) (by decide +kernel)
theorem d79_141 : decode (mt 79).2.1 141 = .ok (.return_, 1) := by decide +kernel
theorem s79_141 {ls : LV} {m : MM} : go 79 141 ls [] m = some (none, m) := e_void d79_141 (by decide +kernel)
/-! X6_sendTell: 80 -/
theorem d80_0 : decode (mt 80).2.1 0 = .ok (.aload_n 0, 1) := by decide +kernel
theorem s80_0 {a1 a2 a3 a4 : Option AV} {st : List AV} {m : MM} {x : Nat × Option Nat} : go 80 0 [some (.inr (.inr x)), a1, a2, a3, a4] st m = go 80 1 [some (.inr (.inr x)), a1, a2, a3, a4] (.inr (.inr x) :: st) m := e_1 d80_0 (Or.inl rfl) rfl
theorem d80_1 : decode (mt 80).2.1 1 = .ok (.getfield 28, 3) := by decide +kernel
theorem s80_1 {ls : LV} {st : List AV} {m : MM} {n : Nat} : go 80 1 ls (.inr (.inr (7, some n)) :: st) m = go 80 4 ls (.inr (.inr (3, mR m 7 n 6)) :: st) m := e_1 d80_1 (Or.inl rfl) (by rw [xi, pA, show lk fdL (mt 80).2.2.1 28 = some (7, 6) by decide +kernel]; rfl)
theorem d80_4 : decode (mt 80).2.1 4 = .ok (.aconst_null, 1) := by decide +kernel
theorem s80_4 {ls : LV} {st : List AV} {m : MM} : go 80 4 ls st m = go 80 5 ls (.inr (.inr (0, none)) :: st) m := e_1 d80_4 (Or.inl rfl) rfl
theorem d80_5 : decode (mt 80).2.1 5 = .ok (.bipush 9, 2) := by decide +kernel
theorem s80_5 {ls : LV} {st : List AV} {m : MM} : go 80 5 ls st m = go 80 7 ls (.inl 9 :: st) m := e_1 d80_5 (Or.inl rfl) rfl
theorem d80_7 : decode (mt 80).2.1 7 = .ok (.aload_n 1, 1) := by decide +kernel
theorem s80_7 {a0 a2 a3 a4 : Option AV} {st : List AV} {m : MM} {x : Nat × Option Nat} : go 80 7 [a0, some (.inr (.inr x)), a2, a3, a4] st m = go 80 8 [a0, some (.inr (.inr x)), a2, a3, a4] (.inr (.inr x) :: st) m := e_1 d80_7 (Or.inl rfl) rfl
theorem d80_8 : decode (mt 80).2.1 8 = .ok (.iload_n 2, 1) := by decide +kernel
theorem s80_8 {a0 a1 a3 a4 : Option AV} {st : List AV} {m : MM} {x : Int32} : go 80 8 [a0, a1, some (.inl x), a3, a4] st m = go 80 9 [a0, a1, some (.inl x), a3, a4] (.inl x :: st) m := e_1 d80_8 (Or.inl rfl) rfl
theorem d80_9 : decode (mt 80).2.1 9 = .ok (.iconst 0, 1) := by decide +kernel
theorem s80_9 {ls : LV} {st : List AV} {m : MM} : go 80 9 ls st m = go 80 10 ls (.inl 0 :: st) m := e_1 d80_9 (Or.inl rfl) rfl
theorem d80_10 : decode (mt 80).2.1 10 = .ok (.aload_n 3, 1) := by decide +kernel
theorem s80_10 {a0 a1 a2 a4 : Option AV} {st : List AV} {m : MM} {x : Nat × Option Nat} : go 80 10 [a0, a1, a2, some (.inr (.inr x)), a4] st m = go 80 11 [a0, a1, a2, some (.inr (.inr x)), a4] (.inr (.inr x) :: st) m := e_1 d80_10 (Or.inl rfl) rfl
theorem d80_11 : decode (mt 80).2.1 11 = .ok (.aload 4, 2) := by decide +kernel
theorem s80_11 {a0 a1 a2 a3 : Option AV} {st : List AV} {m : MM} {x : Nat × Option Nat} : go 80 11 [a0, a1, a2, a3, some (.inr (.inr x))] st m = go 80 13 [a0, a1, a2, a3, some (.inr (.inr x))] (.inr (.inr x) :: st) m := e_1 d80_11 (Or.inl rfl) rfl
theorem d80_13 : decode (mt 80).2.1 13 = .ok (.invokevirtual 133, 3) := by decide +kernel
theorem s80_13 {ls : LV} {m : MM} {x0 : Nat × Option Nat} {x1 : Int32} {x2 : Nat × Option Nat} {x3 : Int32} {x4 : Int32} {x5 : Nat × Option Nat} {x6 : Nat × Option Nat} {n : Nat} : go 80 13 ls [.inr (.inr x6), .inr (.inr x5), .inl x4, .inl x3, .inr (.inr x2), .inl x1, .inr (.inr x0), .inr (.inr (3, some n))] m = bd (go 12 0 [some (.inr (.inr (3, some n))), some (.inr (.inr x0)), some (.inl x1), some (.inr (.inr x2)), some (.inl x3), some (.inl x4), some (.inr (.inr x5)), some (.inr (.inr x6)), none] [] m) (fun v m2 => go 80 16 ls (v.toList ++ []) m2) := e_virt (y1 := 12) (na := 7) (as := [.inr (.inr x0), .inl x1, .inr (.inr x2), .inl x3, .inl x4, .inr (.inr x5), .inr (.inr x6)]) (rest := []) d80_13 (by decide +kernel) rfl (by decide +kernel) (show (ent [.inr (.inr (3, some n)), .inr (.inr x0), .inl x1, .inr (.inr x2), .inl x3, .inl x4, .inr (.inr x5), .inr (.inr x6)]).length ≤ (mt 12).2.2.2.1 from Nat.le_of_ble_eq_true rfl) (cats_le (Nat.le_of_ble_eq_true rfl)) (by decide +kernel)
theorem d80_16 : decode (mt 80).2.1 16 = .ok (.return_, 1) := by decide +kernel
theorem s80_16 {ls : LV} {m : MM} : go 80 16 ls [] m = some (none, m) := e_void d80_16 (by decide +kernel)
/-! X6_linkComes: 81 -/
theorem d81_0 : decode (mt 81).2.1 0 = .ok (.aload 4, 2) := by decide +kernel
theorem s81_0 {a0 a1 a2 a3 a5 a6 : Option AV} {st : List AV} {m : MM} {x : Nat × Option Nat} : go 81 0 [a0, a1, a2, a3, some (.inr (.inr x)), a5, a6] st m = go 81 2 [a0, a1, a2, a3, some (.inr (.inr x)), a5, a6] (.inr (.inr x) :: st) m := e_1 d81_0 (Or.inl rfl) rfl
theorem d81_2 : decode (mt 81).2.1 2 = .ok (.ifnonnull 12, 3) := by decide +kernel
theorem s81_2n {u : Nat} {ls : LV} {st : List AV} {m : MM} : go 81 2 ls (.inr (.inr (u, none)) :: st) m = go 81 5 ls st m := e_1 d81_2 (Or.inl rfl) (by rw [xi, jm_some (t := 14) (by decide)]; rfl)
theorem s81_2s {u n : Nat} {ls : LV} {st : List AV} {m : MM} : go 81 2 ls (.inr (.inr (u, some n)) :: st) m = go 81 14 ls st m := e_1 d81_2 (Or.inl rfl) (by rw [xi, jm_some (t := 14) (by decide)]; rfl)
theorem d81_5 : decode (mt 81).2.1 5 = .ok (.aload_n 1, 1) := by decide +kernel
theorem s81_5 {a0 a2 a3 a4 a5 a6 : Option AV} {st : List AV} {m : MM} {x : Nat × Option Nat} : go 81 5 [a0, some (.inr (.inr x)), a2, a3, a4, a5, a6] st m = go 81 6 [a0, some (.inr (.inr x)), a2, a3, a4, a5, a6] (.inr (.inr x) :: st) m := e_1 d81_5 (Or.inl rfl) rfl
theorem d81_6 : decode (mt 81).2.1 6 = .ok (.iload_n 2, 1) := by decide +kernel
theorem s81_6 {a0 a1 a3 a4 a5 a6 : Option AV} {st : List AV} {m : MM} {x : Int32} : go 81 6 [a0, a1, some (.inl x), a3, a4, a5, a6] st m = go 81 7 [a0, a1, some (.inl x), a3, a4, a5, a6] (.inl x :: st) m := e_1 d81_6 (Or.inl rfl) rfl
theorem d81_7 : decode (mt 81).2.1 7 = .ok (.invokevirtual 350, 3) := by decide +kernel
theorem s81_7 {ls : LV} {m : MM} {x0 : Int32} {n : Nat} : go 81 7 ls [.inl x0, .inr (.inr (6, some n))] m = bd (go 26 0 [some (.inr (.inr (6, some n))), some (.inl x0)] [] m) (fun v m2 => go 81 10 ls (v.toList ++ []) m2) := e_virt (y1 := 26) (na := 1) (as := [.inl x0]) (rest := []) d81_7 (by decide +kernel) rfl (by decide +kernel) (show (ent [.inr (.inr (6, some n)), .inl x0]).length ≤ (mt 26).2.2.2.1 from Nat.le_of_ble_eq_true rfl) (cats_le (Nat.le_of_ble_eq_true rfl)) (by decide +kernel)
theorem d81_10 : decode (mt 81).2.1 10 = .ok (.ifCond .ne 4, 3) := by decide +kernel
theorem s81_10 {ls : LV} {st : List AV} {m : MM} {a : Int32} : go 81 10 ls (.inl a :: st) m = if ¬ a = 0 then go 81 14 ls st m else go 81 13 ls st m := e_if (t := 14) (b := hc .ne a 0) d81_10 (Or.inl rfl) (by simp only [xi, pI, jm_some (t := 14) (show ((10 : Nat) : Int) + 4 = ((14 : Nat) : Int) by decide), Option.bind_some]) (by simp [hc])
theorem d81_13 : decode (mt 81).2.1 13 = .ok (.return_, 1) := by decide +kernel
theorem s81_13 {ls : LV} {m : MM} : go 81 13 ls [] m = some (none, m) := e_void d81_13 (by decide +kernel)
theorem d81_14 : decode (mt 81).2.1 14 = .ok (.aload_n 1, 1) := by decide +kernel
theorem s81_14 {a0 a2 a3 a4 a5 a6 : Option AV} {st : List AV} {m : MM} {x : Nat × Option Nat} : go 81 14 [a0, some (.inr (.inr x)), a2, a3, a4, a5, a6] st m = go 81 15 [a0, some (.inr (.inr x)), a2, a3, a4, a5, a6] (.inr (.inr x) :: st) m := e_1 d81_14 (Or.inl rfl) rfl
theorem d81_15 : decode (mt 81).2.1 15 = .ok (.iload_n 2, 1) := by decide +kernel
theorem s81_15 {a0 a1 a3 a4 a5 a6 : Option AV} {st : List AV} {m : MM} {x : Int32} : go 81 15 [a0, a1, some (.inl x), a3, a4, a5, a6] st m = go 81 16 [a0, a1, some (.inl x), a3, a4, a5, a6] (.inl x :: st) m := e_1 d81_15 (Or.inl rfl) rfl
theorem d81_16 : decode (mt 81).2.1 16 = .ok (.invokevirtual 353, 3) := by decide +kernel
theorem s81_16 {ls : LV} {m : MM} {x0 : Int32} {n : Nat} : go 81 16 ls [.inl x0, .inr (.inr (6, some n))] m = bd (go 28 0 [some (.inr (.inr (6, some n))), some (.inl x0)] [] m) (fun v m2 => go 81 19 ls (v.toList ++ []) m2) := e_virt (y1 := 28) (na := 1) (as := [.inl x0]) (rest := []) d81_16 (by decide +kernel) rfl (by decide +kernel) (show (ent [.inr (.inr (6, some n)), .inl x0]).length ≤ (mt 28).2.2.2.1 from Nat.le_of_ble_eq_true rfl) (cats_le (Nat.le_of_ble_eq_true rfl)) (by decide +kernel)
theorem d81_19 : decode (mt 81).2.1 19 = .ok (.istore 5, 2) := by decide +kernel
theorem s81_19i {a0 a1 a2 a3 a5 a6 : Option AV} {z : Int32} {st : List AV} {m : MM} {x : Int32} : go 81 19 [a0, a1, a2, a3, some (.inl z), a5, a6] (.inl x :: st) m = go 81 21 [a0, a1, a2, a3, some (.inl z), some (.inl x), a6] st m := e_1 d81_19 (Or.inl rfl) rfl
theorem s81_19r {a0 a1 a2 a3 a5 a6 : Option AV} {z : Nat × Option Nat} {st : List AV} {m : MM} {x : Int32} : go 81 19 [a0, a1, a2, a3, some (.inr (.inr z)), a5, a6] (.inl x :: st) m = go 81 21 [a0, a1, a2, a3, some (.inr (.inr z)), some (.inl x), a6] st m := e_1 d81_19 (Or.inl rfl) rfl
theorem s81_19n {a0 a1 a2 a3 a5 a6 : Option AV} {st : List AV} {m : MM} {x : Int32} : go 81 19 [a0, a1, a2, a3, none, a5, a6] (.inl x :: st) m = go 81 21 [a0, a1, a2, a3, none, some (.inl x), a6] st m := e_1 d81_19 (Or.inl rfl) rfl
theorem d81_21 : decode (mt 81).2.1 21 = .ok (.aload_n 1, 1) := by decide +kernel
theorem s81_21 {a0 a2 a3 a4 a5 a6 : Option AV} {st : List AV} {m : MM} {x : Nat × Option Nat} : go 81 21 [a0, some (.inr (.inr x)), a2, a3, a4, a5, a6] st m = go 81 22 [a0, some (.inr (.inr x)), a2, a3, a4, a5, a6] (.inr (.inr x) :: st) m := e_1 d81_21 (Or.inl rfl) rfl
theorem d81_22 : decode (mt 81).2.1 22 = .ok (.iload_n 2, 1) := by decide +kernel
theorem s81_22 {a0 a1 a3 a4 a5 a6 : Option AV} {st : List AV} {m : MM} {x : Int32} : go 81 22 [a0, a1, some (.inl x), a3, a4, a5, a6] st m = go 81 23 [a0, a1, some (.inl x), a3, a4, a5, a6] (.inl x :: st) m := e_1 d81_22 (Or.inl rfl) rfl
theorem d81_23 : decode (mt 81).2.1 23 = .ok (.invokevirtual 356, 3) := by decide +kernel
theorem s81_23 {ls : LV} {m : MM} {x0 : Int32} {n : Nat} : go 81 23 ls [.inl x0, .inr (.inr (6, some n))] m = bd (go 29 0 [some (.inr (.inr (6, some n))), some (.inl x0)] [] m) (fun v m2 => go 81 26 ls (v.toList ++ []) m2) := e_virt (y1 := 29) (na := 1) (as := [.inl x0]) (rest := []) d81_23 (by decide +kernel) rfl (by decide +kernel) (show (ent [.inr (.inr (6, some n)), .inl x0]).length ≤ (mt 29).2.2.2.1 from Nat.le_of_ble_eq_true rfl) (cats_le (Nat.le_of_ble_eq_true rfl)) (by decide +kernel)
theorem d81_26 : decode (mt 81).2.1 26 = .ok (.aload_n 1, 1) := by decide +kernel
theorem s81_26 {a0 a2 a3 a4 a5 a6 : Option AV} {st : List AV} {m : MM} {x : Nat × Option Nat} : go 81 26 [a0, some (.inr (.inr x)), a2, a3, a4, a5, a6] st m = go 81 27 [a0, some (.inr (.inr x)), a2, a3, a4, a5, a6] (.inr (.inr x) :: st) m := e_1 d81_26 (Or.inl rfl) rfl
theorem d81_27 : decode (mt 81).2.1 27 = .ok (.iload_n 2, 1) := by decide +kernel
theorem s81_27 {a0 a1 a3 a4 a5 a6 : Option AV} {st : List AV} {m : MM} {x : Int32} : go 81 27 [a0, a1, some (.inl x), a3, a4, a5, a6] st m = go 81 28 [a0, a1, some (.inl x), a3, a4, a5, a6] (.inl x :: st) m := e_1 d81_27 (Or.inl rfl) rfl
theorem d81_28 : decode (mt 81).2.1 28 = .ok (.iload_n 3, 1) := by decide +kernel
theorem s81_28 {a0 a1 a2 a4 a5 a6 : Option AV} {st : List AV} {m : MM} {x : Int32} : go 81 28 [a0, a1, a2, some (.inl x), a4, a5, a6] st m = go 81 29 [a0, a1, a2, some (.inl x), a4, a5, a6] (.inl x :: st) m := e_1 d81_28 (Or.inl rfl) rfl
theorem d81_29 : decode (mt 81).2.1 29 = .ok (.aload 4, 2) := by decide +kernel
theorem s81_29 {a0 a1 a2 a3 a5 a6 : Option AV} {st : List AV} {m : MM} {x : Nat × Option Nat} : go 81 29 [a0, a1, a2, a3, some (.inr (.inr x)), a5, a6] st m = go 81 31 [a0, a1, a2, a3, some (.inr (.inr x)), a5, a6] (.inr (.inr x) :: st) m := e_1 d81_29 (Or.inl rfl) rfl
theorem d81_31 : decode (mt 81).2.1 31 = .ok (.invokevirtual 359, 3) := by decide +kernel
theorem s81_31 {ls : LV} {m : MM} {x0 : Int32} {x1 : Int32} {x2 : Nat × Option Nat} {n : Nat} : go 81 31 ls [.inr (.inr x2), .inl x1, .inl x0, .inr (.inr (6, some n))] m = bd (go 30 0 [some (.inr (.inr (6, some n))), some (.inl x0), some (.inl x1), some (.inr (.inr x2))] [] m) (fun v m2 => go 81 34 ls (v.toList ++ []) m2) := e_virt (y1 := 30) (na := 3) (as := [.inl x0, .inl x1, .inr (.inr x2)]) (rest := []) d81_31 (by decide +kernel) rfl (by decide +kernel) (show (ent [.inr (.inr (6, some n)), .inl x0, .inl x1, .inr (.inr x2)]).length ≤ (mt 30).2.2.2.1 from Nat.le_of_ble_eq_true rfl) (cats_le (Nat.le_of_ble_eq_true rfl)) (by decide +kernel)
theorem d81_34 : decode (mt 81).2.1 34 = .ok (.aload_n 1, 1) := by decide +kernel
theorem s81_34 {a0 a2 a3 a4 a5 a6 : Option AV} {st : List AV} {m : MM} {x : Nat × Option Nat} : go 81 34 [a0, some (.inr (.inr x)), a2, a3, a4, a5, a6] st m = go 81 35 [a0, some (.inr (.inr x)), a2, a3, a4, a5, a6] (.inr (.inr x) :: st) m := e_1 d81_34 (Or.inl rfl) rfl
theorem d81_35 : decode (mt 81).2.1 35 = .ok (.iload_n 2, 1) := by decide +kernel
theorem s81_35 {a0 a1 a3 a4 a5 a6 : Option AV} {st : List AV} {m : MM} {x : Int32} : go 81 35 [a0, a1, some (.inl x), a3, a4, a5, a6] st m = go 81 36 [a0, a1, some (.inl x), a3, a4, a5, a6] (.inl x :: st) m := e_1 d81_35 (Or.inl rfl) rfl
theorem d81_36 : decode (mt 81).2.1 36 = .ok (.invokevirtual 353, 3) := by decide +kernel
theorem s81_36 {ls : LV} {m : MM} {x0 : Int32} {n : Nat} : go 81 36 ls [.inl x0, .inr (.inr (6, some n))] m = bd (go 28 0 [some (.inr (.inr (6, some n))), some (.inl x0)] [] m) (fun v m2 => go 81 39 ls (v.toList ++ []) m2) := e_virt (y1 := 28) (na := 1) (as := [.inl x0]) (rest := []) d81_36 (by decide +kernel) rfl (by decide +kernel) (show (ent [.inr (.inr (6, some n)), .inl x0]).length ≤ (mt 28).2.2.2.1 from Nat.le_of_ble_eq_true rfl) (cats_le (Nat.le_of_ble_eq_true rfl)) (by decide +kernel)
theorem d81_39 : decode (mt 81).2.1 39 = .ok (.istore 6, 2) := by decide +kernel
theorem s81_39i {a0 a1 a2 a3 a4 a6 : Option AV} {z : Int32} {st : List AV} {m : MM} {x : Int32} : go 81 39 [a0, a1, a2, a3, a4, some (.inl z), a6] (.inl x :: st) m = go 81 41 [a0, a1, a2, a3, a4, some (.inl z), some (.inl x)] st m := e_1 d81_39 (Or.inl rfl) rfl
theorem s81_39r {a0 a1 a2 a3 a4 a6 : Option AV} {z : Nat × Option Nat} {st : List AV} {m : MM} {x : Int32} : go 81 39 [a0, a1, a2, a3, a4, some (.inr (.inr z)), a6] (.inl x :: st) m = go 81 41 [a0, a1, a2, a3, a4, some (.inr (.inr z)), some (.inl x)] st m := e_1 d81_39 (Or.inl rfl) rfl
theorem s81_39n {a0 a1 a2 a3 a4 a6 : Option AV} {st : List AV} {m : MM} {x : Int32} : go 81 39 [a0, a1, a2, a3, a4, none, a6] (.inl x :: st) m = go 81 41 [a0, a1, a2, a3, a4, none, some (.inl x)] st m := e_1 d81_39 (Or.inl rfl) rfl
theorem d81_41 : decode (mt 81).2.1 41 = .ok (.iload 6, 2) := by decide +kernel
theorem s81_41 {a0 a1 a2 a3 a4 a5 : Option AV} {st : List AV} {m : MM} {x : Int32} : go 81 41 [a0, a1, a2, a3, a4, a5, some (.inl x)] st m = go 81 43 [a0, a1, a2, a3, a4, a5, some (.inl x)] (.inl x :: st) m := e_1 d81_41 (Or.inl rfl) rfl
theorem d81_43 : decode (mt 81).2.1 43 = .ok (.ifCond .ne 13, 3) := by decide +kernel
theorem s81_43 {ls : LV} {st : List AV} {m : MM} {a : Int32} : go 81 43 ls (.inl a :: st) m = if ¬ a = 0 then go 81 56 ls st m else go 81 46 ls st m := e_if (t := 56) (b := hc .ne a 0) d81_43 (Or.inl rfl) (by simp only [xi, pI, jm_some (t := 56) (show ((43 : Nat) : Int) + 13 = ((56 : Nat) : Int) by decide), Option.bind_some]) (by simp [hc])
theorem d81_46 : decode (mt 81).2.1 46 = .ok (.aload_n 1, 1) := by decide +kernel
theorem s81_46 {a0 a2 a3 a4 a5 a6 : Option AV} {st : List AV} {m : MM} {x : Nat × Option Nat} : go 81 46 [a0, some (.inr (.inr x)), a2, a3, a4, a5, a6] st m = go 81 47 [a0, some (.inr (.inr x)), a2, a3, a4, a5, a6] (.inr (.inr x) :: st) m := e_1 d81_46 (Or.inl rfl) rfl
theorem d81_47 : decode (mt 81).2.1 47 = .ok (.iload_n 2, 1) := by decide +kernel
theorem s81_47 {a0 a1 a3 a4 a5 a6 : Option AV} {st : List AV} {m : MM} {x : Int32} : go 81 47 [a0, a1, some (.inl x), a3, a4, a5, a6] st m = go 81 48 [a0, a1, some (.inl x), a3, a4, a5, a6] (.inl x :: st) m := e_1 d81_47 (Or.inl rfl) rfl
theorem d81_48 : decode (mt 81).2.1 48 = .ok (.iconst 1, 1) := by decide +kernel
theorem s81_48 {ls : LV} {st : List AV} {m : MM} : go 81 48 ls st m = go 81 49 ls (.inl 1 :: st) m := e_1 d81_48 (Or.inl rfl) rfl
theorem d81_49 : decode (mt 81).2.1 49 = .ok (.iadd, 1) := by decide +kernel
theorem s81_49 {ls : LV} {st : List AV} {m : MM} {a b : Int32} : go 81 49 ls (.inl b :: .inl a :: st) m = go 81 50 ls (.inl (a + b) :: st) m := e_1 d81_49 (Or.inl rfl) rfl
theorem d81_50 : decode (mt 81).2.1 50 = .ok (.invokevirtual 105, 3) := by decide +kernel
theorem s81_50 {ls : LV} {m : MM} {x0 : Int32} {n : Nat} : go 81 50 ls [.inl x0, .inr (.inr (6, some n))] m = bd (go 32 0 [some (.inr (.inr (6, some n))), some (.inl x0), none] [] m) (fun v m2 => go 81 53 ls (v.toList ++ []) m2) := e_virt (y1 := 32) (na := 1) (as := [.inl x0]) (rest := []) d81_50 (by decide +kernel) rfl (by decide +kernel) (show (ent [.inr (.inr (6, some n)), .inl x0]).length ≤ (mt 32).2.2.2.1 from Nat.le_of_ble_eq_true rfl) (cats_le (Nat.le_of_ble_eq_true rfl)) (by decide +kernel)
theorem d81_53 : decode (mt 81).2.1 53 = .ok (.goto 15, 3) := by decide +kernel
theorem s81_53 {ls : LV} {st : List AV} {m : MM} : go 81 53 ls st m = go 81 68 ls st m := e_1 d81_53 (Or.inl rfl) (by rw [xi, jm_some (t := 68) (by decide)]; rfl)
theorem d81_56 : decode (mt 81).2.1 56 = .ok (.iload 5, 2) := by decide +kernel
theorem s81_56 {a0 a1 a2 a3 a4 a6 : Option AV} {st : List AV} {m : MM} {x : Int32} : go 81 56 [a0, a1, a2, a3, a4, some (.inl x), a6] st m = go 81 58 [a0, a1, a2, a3, a4, some (.inl x), a6] (.inl x :: st) m := e_1 d81_56 (Or.inl rfl) rfl
theorem d81_58 : decode (mt 81).2.1 58 = .ok (.ifCond .ne 10, 3) := by decide +kernel
theorem s81_58 {ls : LV} {st : List AV} {m : MM} {a : Int32} : go 81 58 ls (.inl a :: st) m = if ¬ a = 0 then go 81 68 ls st m else go 81 61 ls st m := e_if (t := 68) (b := hc .ne a 0) d81_58 (Or.inl rfl) (by simp only [xi, pI, jm_some (t := 68) (show ((58 : Nat) : Int) + 10 = ((68 : Nat) : Int) by decide), Option.bind_some]) (by simp [hc])
theorem d81_61 : decode (mt 81).2.1 61 = .ok (.aload_n 1, 1) := by decide +kernel
theorem s81_61 {a0 a2 a3 a4 a5 a6 : Option AV} {st : List AV} {m : MM} {x : Nat × Option Nat} : go 81 61 [a0, some (.inr (.inr x)), a2, a3, a4, a5, a6] st m = go 81 62 [a0, some (.inr (.inr x)), a2, a3, a4, a5, a6] (.inr (.inr x) :: st) m := e_1 d81_61 (Or.inl rfl) rfl
theorem d81_62 : decode (mt 81).2.1 62 = .ok (.iload_n 2, 1) := by decide +kernel
theorem s81_62 {a0 a1 a3 a4 a5 a6 : Option AV} {st : List AV} {m : MM} {x : Int32} : go 81 62 [a0, a1, some (.inl x), a3, a4, a5, a6] st m = go 81 63 [a0, a1, some (.inl x), a3, a4, a5, a6] (.inl x :: st) m := e_1 d81_62 (Or.inl rfl) rfl
theorem d81_63 : decode (mt 81).2.1 63 = .ok (.iconst 1, 1) := by decide +kernel
theorem s81_63 {ls : LV} {st : List AV} {m : MM} : go 81 63 ls st m = go 81 64 ls (.inl 1 :: st) m := e_1 d81_63 (Or.inl rfl) rfl
theorem d81_64 : decode (mt 81).2.1 64 = .ok (.iadd, 1) := by decide +kernel
theorem s81_64 {ls : LV} {st : List AV} {m : MM} {a b : Int32} : go 81 64 ls (.inl b :: .inl a :: st) m = go 81 65 ls (.inl (a + b) :: st) m := e_1 d81_64 (Or.inl rfl) rfl
theorem d81_65 : decode (mt 81).2.1 65 = .ok (.invokevirtual 356, 3) := by decide +kernel
theorem s81_65 {ls : LV} {m : MM} {x0 : Int32} {n : Nat} : go 81 65 ls [.inl x0, .inr (.inr (6, some n))] m = bd (go 29 0 [some (.inr (.inr (6, some n))), some (.inl x0)] [] m) (fun v m2 => go 81 68 ls (v.toList ++ []) m2) := e_virt (y1 := 29) (na := 1) (as := [.inl x0]) (rest := []) d81_65 (by decide +kernel) rfl (by decide +kernel) (show (ent [.inr (.inr (6, some n)), .inl x0]).length ≤ (mt 29).2.2.2.1 from Nat.le_of_ble_eq_true rfl) (cats_le (Nat.le_of_ble_eq_true rfl)) (by decide +kernel)
theorem d81_68 : decode (mt 81).2.1 68 = .ok (.return_, 1) := by decide +kernel
theorem s81_68 {ls : LV} {m : MM} : go 81 68 ls [] m = some (none, m) := e_void d81_68 (by decide +kernel)
/-! X6_told: 82 -/
theorem d82_0 : decode (mt 82).2.1 0 = .ok (.aload_n 0, 1) := by decide +kernel
theorem s82_0 {a1 a2 a3 : Option AV} {st : List AV} {m : MM} {x : Nat × Option Nat} : go 82 0 [some (.inr (.inr x)), a1, a2, a3] st m = go 82 1 [some (.inr (.inr x)), a1, a2, a3] (.inr (.inr x) :: st) m := e_1 d82_0 (Or.inl rfl) rfl
theorem d82_1 : decode (mt 82).2.1 1 = .ok (.iload_n 1, 1) := by decide +kernel
theorem s82_1 {a0 a2 a3 : Option AV} {st : List AV} {m : MM} {x : Int32} : go 82 1 [a0, some (.inl x), a2, a3] st m = go 82 2 [a0, some (.inl x), a2, a3] (.inl x :: st) m := e_1 d82_1 (Or.inl rfl) rfl
theorem d82_2 : decode (mt 82).2.1 2 = .ok (.invokevirtual 64, 3) := by decide +kernel
theorem s82_2 {ls : LV} {m : MM} {x0 : Int32} {n : Nat} : go 82 2 ls [.inl x0, .inr (.inr (7, some n))] m = bd (go 43 0 [some (.inr (.inr (7, some n))), some (.inl x0)] [] m) (fun v m2 => go 82 5 ls (v.toList ++ []) m2) := e_virt (y1 := 43) (na := 1) (as := [.inl x0]) (rest := []) d82_2 (by decide +kernel) rfl (by decide +kernel) (show (ent [.inr (.inr (7, some n)), .inl x0]).length ≤ (mt 43).2.2.2.1 from Nat.le_of_ble_eq_true rfl) (cats_le (Nat.le_of_ble_eq_true rfl)) (by decide +kernel)
theorem d82_5 : decode (mt 82).2.1 5 = .ok (.astore_n 3, 1) := by decide +kernel
theorem s82_5i {a0 a1 a3 : Option AV} {z : Int32} {st : List AV} {m : MM} {x : Nat × Option Nat} : go 82 5 [a0, a1, some (.inl z), a3] (.inr (.inr x) :: st) m = go 82 6 [a0, a1, some (.inl z), some (.inr (.inr x))] st m := e_1 d82_5 (Or.inl rfl) rfl
theorem s82_5r {a0 a1 a3 : Option AV} {z : Nat × Option Nat} {st : List AV} {m : MM} {x : Nat × Option Nat} : go 82 5 [a0, a1, some (.inr (.inr z)), a3] (.inr (.inr x) :: st) m = go 82 6 [a0, a1, some (.inr (.inr z)), some (.inr (.inr x))] st m := e_1 d82_5 (Or.inl rfl) rfl
theorem s82_5n {a0 a1 a3 : Option AV} {st : List AV} {m : MM} {x : Nat × Option Nat} : go 82 5 [a0, a1, none, a3] (.inr (.inr x) :: st) m = go 82 6 [a0, a1, none, some (.inr (.inr x))] st m := e_1 d82_5 (Or.inl rfl) rfl
theorem d82_6 : decode (mt 82).2.1 6 = .ok (.aload_n 3, 1) := by decide +kernel
theorem s82_6 {a0 a1 a2 : Option AV} {st : List AV} {m : MM} {x : Nat × Option Nat} : go 82 6 [a0, a1, a2, some (.inr (.inr x))] st m = go 82 7 [a0, a1, a2, some (.inr (.inr x))] (.inr (.inr x) :: st) m := e_1 d82_6 (Or.inl rfl) rfl
theorem d82_7 : decode (mt 82).2.1 7 = .ok (.ifnonnull 5, 3) := by decide +kernel
theorem s82_7n {u : Nat} {ls : LV} {st : List AV} {m : MM} : go 82 7 ls (.inr (.inr (u, none)) :: st) m = go 82 10 ls st m := e_1 d82_7 (Or.inl rfl) (by rw [xi, jm_some (t := 12) (by decide)]; rfl)
theorem s82_7s {u n : Nat} {ls : LV} {st : List AV} {m : MM} : go 82 7 ls (.inr (.inr (u, some n)) :: st) m = go 82 12 ls st m := e_1 d82_7 (Or.inl rfl) (by rw [xi, jm_some (t := 12) (by decide)]; rfl)
theorem d82_10 : decode (mt 82).2.1 10 = .ok (.iconst (-1), 1) := by decide +kernel
theorem s82_10 {ls : LV} {st : List AV} {m : MM} : go 82 10 ls st m = go 82 11 ls (.inl (-1) :: st) m := e_1 d82_10 (Or.inl rfl) rfl
theorem d82_11 : decode (mt 82).2.1 11 = .ok (.ireturn, 1) := by decide +kernel
theorem s82_11 {ls : LV} {m : MM} {x : Int32} : go 82 11 ls [.inl x] m = some (some (.inl x), m) := e_int d82_11 (by decide +kernel)
theorem d82_12 : decode (mt 82).2.1 12 = .ok (.iload_n 2, 1) := by decide +kernel
theorem s82_12 {a0 a1 a3 : Option AV} {st : List AV} {m : MM} {x : Int32} : go 82 12 [a0, a1, some (.inl x), a3] st m = go 82 13 [a0, a1, some (.inl x), a3] (.inl x :: st) m := e_1 d82_12 (Or.inl rfl) rfl
theorem d82_13 : decode (mt 82).2.1 13 = .ok (.tableswitch 63 0 4 #[35, 40, 45, 50, 55], 35) := by decide +kernel
theorem s82_13_0 {ls : LV} {st : List AV} {m : MM} : go 82 13 ls (.inl 0 :: st) m = go 82 48 ls st m := e_1 d82_13 (Or.inr rfl) (by rw [xi]; rfl)
theorem s82_13_1 {ls : LV} {st : List AV} {m : MM} : go 82 13 ls (.inl 1 :: st) m = go 82 53 ls st m := e_1 d82_13 (Or.inr rfl) (by rw [xi]; rfl)
theorem s82_13_2 {ls : LV} {st : List AV} {m : MM} : go 82 13 ls (.inl 2 :: st) m = go 82 58 ls st m := e_1 d82_13 (Or.inr rfl) (by rw [xi]; rfl)
theorem s82_13_3 {ls : LV} {st : List AV} {m : MM} : go 82 13 ls (.inl 3 :: st) m = go 82 63 ls st m := e_1 d82_13 (Or.inr rfl) (by rw [xi]; rfl)
theorem s82_13_4 {ls : LV} {st : List AV} {m : MM} : go 82 13 ls (.inl 4 :: st) m = go 82 68 ls st m := e_1 d82_13 (Or.inr rfl) (by rw [xi]; rfl)
theorem s82_13_d {ls : LV} {st : List AV} {m : MM} {a : Int32} (h : a.toInt < 0 ∨ 4 < a.toInt) : go 82 13 ls (.inl a :: st) m = go 82 76 ls st m := e_1 d82_13 (Or.inr rfl) (by simp only [xi, pI, if_pos h, jm_some (t := 76) (show ((13 : Nat) : Int) + 63 = ((76 : Nat) : Int) by decide), Option.bind_some]; rw [if_pos (by omega)])
theorem d82_48 : decode (mt 82).2.1 48 = .ok (.aload_n 3, 1) := by decide +kernel
theorem s82_48 {a0 a1 a2 : Option AV} {st : List AV} {m : MM} {x : Nat × Option Nat} : go 82 48 [a0, a1, a2, some (.inr (.inr x))] st m = go 82 49 [a0, a1, a2, some (.inr (.inr x))] (.inr (.inr x) :: st) m := e_1 d82_48 (Or.inl rfl) rfl
theorem d82_49 : decode (mt 82).2.1 49 = .ok (.getfield 61, 3) := by decide +kernel
theorem s82_49 {ls : LV} {st : List AV} {m : MM} {n : Nat} : go 82 49 ls (.inr (.inr (6, some n)) :: st) m = go 82 52 ls (.inl (mI m 6 n 3) :: st) m := e_1 d82_49 (Or.inl rfl) (by rw [xi, pA, show lk fdL (mt 82).2.2.1 61 = some (6, 3) by decide +kernel]; rfl)
theorem d82_52 : decode (mt 82).2.1 52 = .ok (.ireturn, 1) := by decide +kernel
theorem s82_52 {ls : LV} {m : MM} {x : Int32} : go 82 52 ls [.inl x] m = some (some (.inl x), m) := e_int d82_52 (by decide +kernel)
theorem d82_53 : decode (mt 82).2.1 53 = .ok (.aload_n 3, 1) := by decide +kernel
theorem s82_53 {a0 a1 a2 : Option AV} {st : List AV} {m : MM} {x : Nat × Option Nat} : go 82 53 [a0, a1, a2, some (.inr (.inr x))] st m = go 82 54 [a0, a1, a2, some (.inr (.inr x))] (.inr (.inr x) :: st) m := e_1 d82_53 (Or.inl rfl) rfl
theorem d82_54 : decode (mt 82).2.1 54 = .ok (.getfield 144, 3) := by decide +kernel
theorem s82_54 {ls : LV} {st : List AV} {m : MM} {n : Nat} : go 82 54 ls (.inr (.inr (6, some n)) :: st) m = go 82 57 ls (.inl (mI m 6 n 2) :: st) m := e_1 d82_54 (Or.inl rfl) (by rw [xi, pA, show lk fdL (mt 82).2.2.1 144 = some (6, 2) by decide +kernel]; rfl)
theorem d82_57 : decode (mt 82).2.1 57 = .ok (.ireturn, 1) := by decide +kernel
theorem s82_57 {ls : LV} {m : MM} {x : Int32} : go 82 57 ls [.inl x] m = some (some (.inl x), m) := e_int d82_57 (by decide +kernel)
theorem d82_58 : decode (mt 82).2.1 58 = .ok (.aload_n 3, 1) := by decide +kernel
theorem s82_58 {a0 a1 a2 : Option AV} {st : List AV} {m : MM} {x : Nat × Option Nat} : go 82 58 [a0, a1, a2, some (.inr (.inr x))] st m = go 82 59 [a0, a1, a2, some (.inr (.inr x))] (.inr (.inr x) :: st) m := e_1 d82_58 (Or.inl rfl) rfl
theorem d82_59 : decode (mt 82).2.1 59 = .ok (.invokevirtual 363, 3) := by decide +kernel
theorem s82_59 {ls : LV} {m : MM} {n : Nat} : go 82 59 ls [.inr (.inr (6, some n))] m = bd (go 33 0 [some (.inr (.inr (6, some n))), none, none] [] m) (fun v m2 => go 82 62 ls (v.toList ++ []) m2) := e_virt (y1 := 33) (na := 0) (as := []) (rest := []) d82_59 (by decide +kernel) rfl (by decide +kernel) (show (ent [.inr (.inr (6, some n))]).length ≤ (mt 33).2.2.2.1 from Nat.le_of_ble_eq_true rfl) (cats_le (Nat.le_of_ble_eq_true rfl)) (by decide +kernel)
theorem d82_62 : decode (mt 82).2.1 62 = .ok (.ireturn, 1) := by decide +kernel
theorem s82_62 {ls : LV} {m : MM} {x : Int32} : go 82 62 ls [.inl x] m = some (some (.inl x), m) := e_int d82_62 (by decide +kernel)
theorem d82_63 : decode (mt 82).2.1 63 = .ok (.aload_n 3, 1) := by decide +kernel
theorem s82_63 {a0 a1 a2 : Option AV} {st : List AV} {m : MM} {x : Nat × Option Nat} : go 82 63 [a0, a1, a2, some (.inr (.inr x))] st m = go 82 64 [a0, a1, a2, some (.inr (.inr x))] (.inr (.inr x) :: st) m := e_1 d82_63 (Or.inl rfl) rfl
theorem d82_64 : decode (mt 82).2.1 64 = .ok (.getfield 251, 3) := by decide +kernel
theorem s82_64 {ls : LV} {st : List AV} {m : MM} {n : Nat} : go 82 64 ls (.inr (.inr (6, some n)) :: st) m = go 82 67 ls (.inl (mI m 6 n 4) :: st) m := e_1 d82_64 (Or.inl rfl) (by rw [xi, pA, show lk fdL (mt 82).2.2.1 251 = some (6, 4) by decide +kernel]; rfl)
theorem d82_67 : decode (mt 82).2.1 67 = .ok (.ireturn, 1) := by decide +kernel
theorem s82_67 {ls : LV} {m : MM} {x : Int32} : go 82 67 ls [.inl x] m = some (some (.inl x), m) := e_int d82_67 (by decide +kernel)
theorem d82_68 : decode (mt 82).2.1 68 = .ok (.aload_n 3, 1) := by decide +kernel
theorem s82_68 {a0 a1 a2 : Option AV} {st : List AV} {m : MM} {x : Nat × Option Nat} : go 82 68 [a0, a1, a2, some (.inr (.inr x))] st m = go 82 69 [a0, a1, a2, some (.inr (.inr x))] (.inr (.inr x) :: st) m := e_1 d82_68 (Or.inl rfl) rfl
theorem d82_69 : decode (mt 82).2.1 69 = .ok (.getfield 117, 3) := by decide +kernel
theorem s82_69 {ls : LV} {st : List AV} {m : MM} {n : Nat} : go 82 69 ls (.inr (.inr (6, some n)) :: st) m = go 82 72 ls (.inr (.inr (5, mR m 6 n 9)) :: st) m := e_1 d82_69 (Or.inl rfl) (by rw [xi, pA, show lk fdL (mt 82).2.2.1 117 = some (6, 9) by decide +kernel]; rfl)
theorem d82_72 : decode (mt 82).2.1 72 = .ok (.getfield 121, 3) := by decide +kernel
theorem s82_72 {ls : LV} {st : List AV} {m : MM} {n : Nat} : go 82 72 ls (.inr (.inr (5, some n)) :: st) m = go 82 75 ls (.inl (mI m 5 n 2) :: st) m := e_1 d82_72 (Or.inl rfl) (by rw [xi, pA, show lk fdL (mt 82).2.2.1 121 = some (5, 2) by decide +kernel]; rfl)
theorem d82_75 : decode (mt 82).2.1 75 = .ok (.ireturn, 1) := by decide +kernel
theorem s82_75 {ls : LV} {m : MM} {x : Int32} : go 82 75 ls [.inl x] m = some (some (.inl x), m) := e_int d82_75 (by decide +kernel)
theorem d82_76 : decode (mt 82).2.1 76 = .ok (.iconst (-1), 1) := by decide +kernel
theorem s82_76 {ls : LV} {st : List AV} {m : MM} : go 82 76 ls st m = go 82 77 ls (.inl (-1) :: st) m := e_1 d82_76 (Or.inl rfl) rfl
theorem d82_77 : decode (mt 82).2.1 77 = .ok (.ireturn, 1) := by decide +kernel
theorem s82_77 {ls : LV} {m : MM} {x : Int32} : go 82 77 ls [.inl x] m = some (some (.inl x), m) := e_int d82_77 (by decide +kernel)
/-! X6_name: 83 -/
theorem d83_0 : decode (mt 83).2.1 0 = .ok (.aload_n 0, 1) := by decide +kernel
theorem s83_0 {a1 a2 : Option AV} {st : List AV} {m : MM} {x : Nat × Option Nat} : go 83 0 [some (.inr (.inr x)), a1, a2] st m = go 83 1 [some (.inr (.inr x)), a1, a2] (.inr (.inr x) :: st) m := e_1 d83_0 (Or.inl rfl) rfl
theorem d83_1 : decode (mt 83).2.1 1 = .ok (.iload_n 1, 1) := by decide +kernel
theorem s83_1 {a0 a2 : Option AV} {st : List AV} {m : MM} {x : Int32} : go 83 1 [a0, some (.inl x), a2] st m = go 83 2 [a0, some (.inl x), a2] (.inl x :: st) m := e_1 d83_1 (Or.inl rfl) rfl
theorem d83_2 : decode (mt 83).2.1 2 = .ok (.invokevirtual 64, 3) := by decide +kernel
theorem s83_2 {ls : LV} {m : MM} {x0 : Int32} {n : Nat} : go 83 2 ls [.inl x0, .inr (.inr (7, some n))] m = bd (go 43 0 [some (.inr (.inr (7, some n))), some (.inl x0)] [] m) (fun v m2 => go 83 5 ls (v.toList ++ []) m2) := e_virt (y1 := 43) (na := 1) (as := [.inl x0]) (rest := []) d83_2 (by decide +kernel) rfl (by decide +kernel) (show (ent [.inr (.inr (7, some n)), .inl x0]).length ≤ (mt 43).2.2.2.1 from Nat.le_of_ble_eq_true rfl) (cats_le (Nat.le_of_ble_eq_true rfl)) (by decide +kernel)
theorem d83_5 : decode (mt 83).2.1 5 = .ok (.astore_n 2, 1) := by decide +kernel
theorem s83_5i {a0 a2 : Option AV} {z : Int32} {st : List AV} {m : MM} {x : Nat × Option Nat} : go 83 5 [a0, some (.inl z), a2] (.inr (.inr x) :: st) m = go 83 6 [a0, some (.inl z), some (.inr (.inr x))] st m := e_1 d83_5 (Or.inl rfl) rfl
theorem s83_5r {a0 a2 : Option AV} {z : Nat × Option Nat} {st : List AV} {m : MM} {x : Nat × Option Nat} : go 83 5 [a0, some (.inr (.inr z)), a2] (.inr (.inr x) :: st) m = go 83 6 [a0, some (.inr (.inr z)), some (.inr (.inr x))] st m := e_1 d83_5 (Or.inl rfl) rfl
theorem s83_5n {a0 a2 : Option AV} {st : List AV} {m : MM} {x : Nat × Option Nat} : go 83 5 [a0, none, a2] (.inr (.inr x) :: st) m = go 83 6 [a0, none, some (.inr (.inr x))] st m := e_1 d83_5 (Or.inl rfl) rfl
theorem d83_6 : decode (mt 83).2.1 6 = .ok (.aload_n 2, 1) := by decide +kernel
theorem s83_6 {a0 a1 : Option AV} {st : List AV} {m : MM} {x : Nat × Option Nat} : go 83 6 [a0, a1, some (.inr (.inr x))] st m = go 83 7 [a0, a1, some (.inr (.inr x))] (.inr (.inr x) :: st) m := e_1 d83_6 (Or.inl rfl) rfl
theorem d83_7 : decode (mt 83).2.1 7 = .ok (.ifnull 10, 3) := by decide +kernel
theorem s83_7n {u : Nat} {ls : LV} {st : List AV} {m : MM} : go 83 7 ls (.inr (.inr (u, none)) :: st) m = go 83 17 ls st m := e_1 d83_7 (Or.inl rfl) (by rw [xi, jm_some (t := 17) (by decide)]; rfl)
theorem s83_7s {u n : Nat} {ls : LV} {st : List AV} {m : MM} : go 83 7 ls (.inr (.inr (u, some n)) :: st) m = go 83 10 ls st m := e_1 d83_7 (Or.inl rfl) (by rw [xi, jm_some (t := 17) (by decide)]; rfl)
theorem d83_10 : decode (mt 83).2.1 10 = .ok (.aload_n 2, 1) := by decide +kernel
theorem s83_10 {a0 a1 : Option AV} {st : List AV} {m : MM} {x : Nat × Option Nat} : go 83 10 [a0, a1, some (.inr (.inr x))] st m = go 83 11 [a0, a1, some (.inr (.inr x))] (.inr (.inr x) :: st) m := e_1 d83_10 (Or.inl rfl) rfl
theorem d83_11 : decode (mt 83).2.1 11 = .ok (.getfield 58, 3) := by decide +kernel
theorem s83_11 {ls : LV} {st : List AV} {m : MM} {n : Nat} : go 83 11 ls (.inr (.inr (6, some n)) :: st) m = go 83 14 ls (.inl (mI m 6 n 1) :: st) m := e_1 d83_11 (Or.inl rfl) (by rw [xi, pA, show lk fdL (mt 83).2.2.1 58 = some (6, 1) by decide +kernel]; rfl)
theorem d83_14 : decode (mt 83).2.1 14 = .ok (.goto 4, 3) := by decide +kernel
theorem s83_14 {ls : LV} {st : List AV} {m : MM} : go 83 14 ls st m = go 83 18 ls st m := e_1 d83_14 (Or.inl rfl) (by rw [xi, jm_some (t := 18) (by decide)]; rfl)
theorem d83_17 : decode (mt 83).2.1 17 = .ok (.iconst 0, 1) := by decide +kernel
theorem s83_17 {ls : LV} {st : List AV} {m : MM} : go 83 17 ls st m = go 83 18 ls (.inl 0 :: st) m := e_1 d83_17 (Or.inl rfl) rfl
theorem d83_18 : decode (mt 83).2.1 18 = .ok (.ireturn, 1) := by decide +kernel
theorem s83_18 {ls : LV} {m : MM} {x : Int32} : go 83 18 ls [.inl x] m = some (some (.inl x), m) := e_int d83_18 (by decide +kernel)
/-! X6_beside: 84 -/
theorem d84_0 : decode (mt 84).2.1 0 = .ok (.aload_n 0, 1) := by decide +kernel
theorem s84_0 {a1 a2 a3 a4 : Option AV} {st : List AV} {m : MM} {x : Nat × Option Nat} : go 84 0 [some (.inr (.inr x)), a1, a2, a3, a4] st m = go 84 1 [some (.inr (.inr x)), a1, a2, a3, a4] (.inr (.inr x) :: st) m := e_1 d84_0 (Or.inl rfl) rfl
theorem d84_1 : decode (mt 84).2.1 1 = .ok (.iload_n 1, 1) := by decide +kernel
theorem s84_1 {a0 a2 a3 a4 : Option AV} {st : List AV} {m : MM} {x : Int32} : go 84 1 [a0, some (.inl x), a2, a3, a4] st m = go 84 2 [a0, some (.inl x), a2, a3, a4] (.inl x :: st) m := e_1 d84_1 (Or.inl rfl) rfl
theorem d84_2 : decode (mt 84).2.1 2 = .ok (.invokevirtual 64, 3) := by decide +kernel
theorem s84_2 {ls : LV} {m : MM} {x0 : Int32} {n : Nat} : go 84 2 ls [.inl x0, .inr (.inr (7, some n))] m = bd (go 43 0 [some (.inr (.inr (7, some n))), some (.inl x0)] [] m) (fun v m2 => go 84 5 ls (v.toList ++ []) m2) := e_virt (y1 := 43) (na := 1) (as := [.inl x0]) (rest := []) d84_2 (by decide +kernel) rfl (by decide +kernel) (show (ent [.inr (.inr (7, some n)), .inl x0]).length ≤ (mt 43).2.2.2.1 from Nat.le_of_ble_eq_true rfl) (cats_le (Nat.le_of_ble_eq_true rfl)) (by decide +kernel)
theorem d84_5 : decode (mt 84).2.1 5 = .ok (.astore 4, 2) := by decide +kernel
theorem s84_5i {a0 a1 a2 a4 : Option AV} {z : Int32} {st : List AV} {m : MM} {x : Nat × Option Nat} : go 84 5 [a0, a1, a2, some (.inl z), a4] (.inr (.inr x) :: st) m = go 84 7 [a0, a1, a2, some (.inl z), some (.inr (.inr x))] st m := e_1 d84_5 (Or.inl rfl) rfl
theorem s84_5r {a0 a1 a2 a4 : Option AV} {z : Nat × Option Nat} {st : List AV} {m : MM} {x : Nat × Option Nat} : go 84 5 [a0, a1, a2, some (.inr (.inr z)), a4] (.inr (.inr x) :: st) m = go 84 7 [a0, a1, a2, some (.inr (.inr z)), some (.inr (.inr x))] st m := e_1 d84_5 (Or.inl rfl) rfl
theorem s84_5n {a0 a1 a2 a4 : Option AV} {st : List AV} {m : MM} {x : Nat × Option Nat} : go 84 5 [a0, a1, a2, none, a4] (.inr (.inr x) :: st) m = go 84 7 [a0, a1, a2, none, some (.inr (.inr x))] st m := e_1 d84_5 (Or.inl rfl) rfl
theorem d84_7 : decode (mt 84).2.1 7 = .ok (.aload 4, 2) := by decide +kernel
theorem s84_7 {a0 a1 a2 a3 : Option AV} {st : List AV} {m : MM} {x : Nat × Option Nat} : go 84 7 [a0, a1, a2, a3, some (.inr (.inr x))] st m = go 84 9 [a0, a1, a2, a3, some (.inr (.inr x))] (.inr (.inr x) :: st) m := e_1 d84_7 (Or.inl rfl) rfl
theorem d84_9 : decode (mt 84).2.1 9 = .ok (.ifnull 19, 3) := by decide +kernel
theorem s84_9n {u : Nat} {ls : LV} {st : List AV} {m : MM} : go 84 9 ls (.inr (.inr (u, none)) :: st) m = go 84 28 ls st m := e_1 d84_9 (Or.inl rfl) (by rw [xi, jm_some (t := 28) (by decide)]; rfl)
theorem s84_9s {u n : Nat} {ls : LV} {st : List AV} {m : MM} : go 84 9 ls (.inr (.inr (u, some n)) :: st) m = go 84 12 ls st m := e_1 d84_9 (Or.inl rfl) (by rw [xi, jm_some (t := 28) (by decide)]; rfl)
theorem d84_12 : decode (mt 84).2.1 12 = .ok (.iload_n 2, 1) := by decide +kernel
theorem s84_12 {a0 a1 a3 a4 : Option AV} {st : List AV} {m : MM} {x : Int32} : go 84 12 [a0, a1, some (.inl x), a3, a4] st m = go 84 13 [a0, a1, some (.inl x), a3, a4] (.inl x :: st) m := e_1 d84_12 (Or.inl rfl) rfl
theorem d84_13 : decode (mt 84).2.1 13 = .ok (.invokestatic 366, 3) := by decide +kernel
theorem s84_13 {ls : LV} {m : MM} {x0 : Int32} : go 84 13 ls [.inl x0] m = bd (go 95 0 [some (.inl x0)] [] m) (fun v m2 => go 84 16 ls (v.toList ++ []) m2) := e_stat (y1 := 95) (na := 1) (as := [.inl x0]) (rest := []) d84_13 (by decide +kernel) rfl (by decide +kernel) (show (ent [.inl x0]).length ≤ (mt 95).2.2.2.1 from Nat.le_of_ble_eq_true rfl) (cats_le (Nat.le_of_ble_eq_true rfl)) (by decide +kernel)
theorem d84_16 : decode (mt 84).2.1 16 = .ok (.ifCond .eq 12, 3) := by decide +kernel
theorem s84_16 {ls : LV} {st : List AV} {m : MM} {a : Int32} : go 84 16 ls (.inl a :: st) m = if a = 0 then go 84 28 ls st m else go 84 19 ls st m := e_if (t := 28) (b := hc .eq a 0) d84_16 (Or.inl rfl) (by simp only [xi, pI, jm_some (t := 28) (show ((16 : Nat) : Int) + 12 = ((28 : Nat) : Int) by decide), Option.bind_some]) (by simp [hc])
theorem d84_19 : decode (mt 84).2.1 19 = .ok (.iload_n 3, 1) := by decide +kernel
theorem s84_19 {a0 a1 a2 a4 : Option AV} {st : List AV} {m : MM} {x : Int32} : go 84 19 [a0, a1, a2, some (.inl x), a4] st m = go 84 20 [a0, a1, a2, some (.inl x), a4] (.inl x :: st) m := e_1 d84_19 (Or.inl rfl) rfl
theorem d84_20 : decode (mt 84).2.1 20 = .ok (.ifCond .lt 8, 3) := by decide +kernel
theorem s84_20 {ls : LV} {st : List AV} {m : MM} {a : Int32} : go 84 20 ls (.inl a :: st) m = if a < 0 then go 84 28 ls st m else go 84 23 ls st m := e_if (t := 28) (b := hc .lt a 0) d84_20 (Or.inl rfl) (by simp only [xi, pI, jm_some (t := 28) (show ((20 : Nat) : Int) + 8 = ((28 : Nat) : Int) by decide), Option.bind_some]) (by simp [hc])
theorem d84_23 : decode (mt 84).2.1 23 = .ok (.iload_n 3, 1) := by decide +kernel
theorem s84_23 {a0 a1 a2 a4 : Option AV} {st : List AV} {m : MM} {x : Int32} : go 84 23 [a0, a1, a2, some (.inl x), a4] st m = go 84 24 [a0, a1, a2, some (.inl x), a4] (.inl x :: st) m := e_1 d84_23 (Or.inl rfl) rfl
theorem d84_24 : decode (mt 84).2.1 24 = .ok (.iconst 1, 1) := by decide +kernel
theorem s84_24 {ls : LV} {st : List AV} {m : MM} : go 84 24 ls st m = go 84 25 ls (.inl 1 :: st) m := e_1 d84_24 (Or.inl rfl) rfl
theorem d84_25 : decode (mt 84).2.1 25 = .ok (.if_icmp .le 5, 3) := by decide +kernel
theorem s84_25 {ls : LV} {st : List AV} {m : MM} {a b : Int32} : go 84 25 ls (.inl b :: .inl a :: st) m = if a ≤ b then go 84 30 ls st m else go 84 28 ls st m := e_if (t := 30) (b := hc .le a b) d84_25 (Or.inl rfl) (by simp only [xi, pI, jm_some (t := 30) (show ((25 : Nat) : Int) + 5 = ((30 : Nat) : Int) by decide), Option.bind_some]) (by simp [hc])
theorem d84_28 : decode (mt 84).2.1 28 = .ok (.iconst (-1), 1) := by decide +kernel
theorem s84_28 {ls : LV} {st : List AV} {m : MM} : go 84 28 ls st m = go 84 29 ls (.inl (-1) :: st) m := e_1 d84_28 (Or.inl rfl) rfl
theorem d84_29 : decode (mt 84).2.1 29 = .ok (.ireturn, 1) := by decide +kernel
theorem s84_29 {ls : LV} {m : MM} {x : Int32} : go 84 29 ls [.inl x] m = some (some (.inl x), m) := e_int d84_29 (by decide +kernel)
theorem d84_30 : decode (mt 84).2.1 30 = .ok (.aload 4, 2) := by decide +kernel
theorem s84_30 {a0 a1 a2 a3 : Option AV} {st : List AV} {m : MM} {x : Nat × Option Nat} : go 84 30 [a0, a1, a2, a3, some (.inr (.inr x))] st m = go 84 32 [a0, a1, a2, a3, some (.inr (.inr x))] (.inr (.inr x) :: st) m := e_1 d84_30 (Or.inl rfl) rfl
theorem d84_32 : decode (mt 84).2.1 32 = .ok (.iload_n 2, 1) := by decide +kernel
theorem s84_32 {a0 a1 a3 a4 : Option AV} {st : List AV} {m : MM} {x : Int32} : go 84 32 [a0, a1, some (.inl x), a3, a4] st m = go 84 33 [a0, a1, some (.inl x), a3, a4] (.inl x :: st) m := e_1 d84_32 (Or.inl rfl) rfl
theorem d84_33 : decode (mt 84).2.1 33 = .ok (.invokevirtual 350, 3) := by decide +kernel
theorem s84_33 {ls : LV} {m : MM} {x0 : Int32} {n : Nat} : go 84 33 ls [.inl x0, .inr (.inr (6, some n))] m = bd (go 26 0 [some (.inr (.inr (6, some n))), some (.inl x0)] [] m) (fun v m2 => go 84 36 ls (v.toList ++ []) m2) := e_virt (y1 := 26) (na := 1) (as := [.inl x0]) (rest := []) d84_33 (by decide +kernel) rfl (by decide +kernel) (show (ent [.inr (.inr (6, some n)), .inl x0]).length ≤ (mt 26).2.2.2.1 from Nat.le_of_ble_eq_true rfl) (cats_le (Nat.le_of_ble_eq_true rfl)) (by decide +kernel)
theorem d84_36 : decode (mt 84).2.1 36 = .ok (.ifCond .ne 6, 3) := by decide +kernel
theorem s84_36 {ls : LV} {st : List AV} {m : MM} {a : Int32} : go 84 36 ls (.inl a :: st) m = if ¬ a = 0 then go 84 42 ls st m else go 84 39 ls st m := e_if (t := 42) (b := hc .ne a 0) d84_36 (Or.inl rfl) (by simp only [xi, pI, jm_some (t := 42) (show ((36 : Nat) : Int) + 6 = ((42 : Nat) : Int) by decide), Option.bind_some]) (by simp [hc])
theorem d84_39 : decode (mt 84).2.1 39 = .ok (.bipush (-2), 2) := by decide +kernel
theorem s84_39 {ls : LV} {st : List AV} {m : MM} : go 84 39 ls st m = go 84 41 ls (.inl (-2) :: st) m := e_1 d84_39 (Or.inl rfl) rfl
theorem d84_41 : decode (mt 84).2.1 41 = .ok (.ireturn, 1) := by decide +kernel
theorem s84_41 {ls : LV} {m : MM} {x : Int32} : go 84 41 ls [.inl x] m = some (some (.inl x), m) := e_int d84_41 (by decide +kernel)
theorem d84_42 : decode (mt 84).2.1 42 = .ok (.aload 4, 2) := by decide +kernel
theorem s84_42 {a0 a1 a2 a3 : Option AV} {st : List AV} {m : MM} {x : Nat × Option Nat} : go 84 42 [a0, a1, a2, a3, some (.inr (.inr x))] st m = go 84 44 [a0, a1, a2, a3, some (.inr (.inr x))] (.inr (.inr x) :: st) m := e_1 d84_42 (Or.inl rfl) rfl
theorem d84_44 : decode (mt 84).2.1 44 = .ok (.iload_n 2, 1) := by decide +kernel
theorem s84_44 {a0 a1 a3 a4 : Option AV} {st : List AV} {m : MM} {x : Int32} : go 84 44 [a0, a1, some (.inl x), a3, a4] st m = go 84 45 [a0, a1, some (.inl x), a3, a4] (.inl x :: st) m := e_1 d84_44 (Or.inl rfl) rfl
theorem d84_45 : decode (mt 84).2.1 45 = .ok (.iload_n 3, 1) := by decide +kernel
theorem s84_45 {a0 a1 a2 a4 : Option AV} {st : List AV} {m : MM} {x : Int32} : go 84 45 [a0, a1, a2, some (.inl x), a4] st m = go 84 46 [a0, a1, a2, some (.inl x), a4] (.inl x :: st) m := e_1 d84_45 (Or.inl rfl) rfl
theorem d84_46 : decode (mt 84).2.1 46 = .ok (.invokevirtual 109, 3) := by decide +kernel
theorem s84_46 {ls : LV} {m : MM} {x0 : Int32} {x1 : Int32} {n : Nat} : go 84 46 ls [.inl x1, .inl x0, .inr (.inr (6, some n))] m = bd (go 27 0 [some (.inr (.inr (6, some n))), some (.inl x0), some (.inl x1)] [] m) (fun v m2 => go 84 49 ls (v.toList ++ []) m2) := e_virt (y1 := 27) (na := 2) (as := [.inl x0, .inl x1]) (rest := []) d84_46 (by decide +kernel) rfl (by decide +kernel) (show (ent [.inr (.inr (6, some n)), .inl x0, .inl x1]).length ≤ (mt 27).2.2.2.1 from Nat.le_of_ble_eq_true rfl) (cats_le (Nat.le_of_ble_eq_true rfl)) (by decide +kernel)
theorem d84_49 : decode (mt 84).2.1 49 = .ok (.invokestatic 369, 3) := by decide +kernel
theorem s84_49 {ls : LV} {m : MM} {x0 : Nat × Option Nat} : go 84 49 ls [.inr (.inr x0)] m = bd (go 94 0 [some (.inr (.inr x0))] [] m) (fun v m2 => go 84 52 ls (v.toList ++ []) m2) := e_stat (y1 := 94) (na := 1) (as := [.inr (.inr x0)]) (rest := []) d84_49 (by decide +kernel) rfl (by decide +kernel) (show (ent [.inr (.inr x0)]).length ≤ (mt 94).2.2.2.1 from Nat.le_of_ble_eq_true rfl) (cats_le (Nat.le_of_ble_eq_true rfl)) (by decide +kernel)
theorem d84_52 : decode (mt 84).2.1 52 = .ok (.ireturn, 1) := by decide +kernel
theorem s84_52 {ls : LV} {m : MM} {x : Int32} : go 84 52 ls [.inl x] m = some (some (.inl x), m) := e_int d84_52 (by decide +kernel)
/-! X6_key: 85 -/
theorem d85_0 : decode (mt 85).2.1 0 = .ok (.aload_n 0, 1) := by decide +kernel
theorem s85_0 {a1 a2 a3 : Option AV} {st : List AV} {m : MM} {x : Nat × Option Nat} : go 85 0 [some (.inr (.inr x)), a1, a2, a3] st m = go 85 1 [some (.inr (.inr x)), a1, a2, a3] (.inr (.inr x) :: st) m := e_1 d85_0 (Or.inl rfl) rfl
theorem d85_1 : decode (mt 85).2.1 1 = .ok (.iload_n 1, 1) := by decide +kernel
theorem s85_1 {a0 a2 a3 : Option AV} {st : List AV} {m : MM} {x : Int32} : go 85 1 [a0, some (.inl x), a2, a3] st m = go 85 2 [a0, some (.inl x), a2, a3] (.inl x :: st) m := e_1 d85_1 (Or.inl rfl) rfl
theorem d85_2 : decode (mt 85).2.1 2 = .ok (.invokevirtual 64, 3) := by decide +kernel
theorem s85_2 {ls : LV} {m : MM} {x0 : Int32} {n : Nat} : go 85 2 ls [.inl x0, .inr (.inr (7, some n))] m = bd (go 43 0 [some (.inr (.inr (7, some n))), some (.inl x0)] [] m) (fun v m2 => go 85 5 ls (v.toList ++ []) m2) := e_virt (y1 := 43) (na := 1) (as := [.inl x0]) (rest := []) d85_2 (by decide +kernel) rfl (by decide +kernel) (show (ent [.inr (.inr (7, some n)), .inl x0]).length ≤ (mt 43).2.2.2.1 from Nat.le_of_ble_eq_true rfl) (cats_le (Nat.le_of_ble_eq_true rfl)) (by decide +kernel)
theorem d85_5 : decode (mt 85).2.1 5 = .ok (.astore_n 3, 1) := by decide +kernel
theorem s85_5i {a0 a1 a3 : Option AV} {z : Int32} {st : List AV} {m : MM} {x : Nat × Option Nat} : go 85 5 [a0, a1, some (.inl z), a3] (.inr (.inr x) :: st) m = go 85 6 [a0, a1, some (.inl z), some (.inr (.inr x))] st m := e_1 d85_5 (Or.inl rfl) rfl
theorem s85_5r {a0 a1 a3 : Option AV} {z : Nat × Option Nat} {st : List AV} {m : MM} {x : Nat × Option Nat} : go 85 5 [a0, a1, some (.inr (.inr z)), a3] (.inr (.inr x) :: st) m = go 85 6 [a0, a1, some (.inr (.inr z)), some (.inr (.inr x))] st m := e_1 d85_5 (Or.inl rfl) rfl
theorem s85_5n {a0 a1 a3 : Option AV} {st : List AV} {m : MM} {x : Nat × Option Nat} : go 85 5 [a0, a1, none, a3] (.inr (.inr x) :: st) m = go 85 6 [a0, a1, none, some (.inr (.inr x))] st m := e_1 d85_5 (Or.inl rfl) rfl
theorem d85_6 : decode (mt 85).2.1 6 = .ok (.aload_n 3, 1) := by decide +kernel
theorem s85_6 {a0 a1 a2 : Option AV} {st : List AV} {m : MM} {x : Nat × Option Nat} : go 85 6 [a0, a1, a2, some (.inr (.inr x))] st m = go 85 7 [a0, a1, a2, some (.inr (.inr x))] (.inr (.inr x) :: st) m := e_1 d85_6 (Or.inl rfl) rfl
theorem d85_7 : decode (mt 85).2.1 7 = .ok (.ifnull 14, 3) := by decide +kernel
theorem s85_7n {u : Nat} {ls : LV} {st : List AV} {m : MM} : go 85 7 ls (.inr (.inr (u, none)) :: st) m = go 85 21 ls st m := e_1 d85_7 (Or.inl rfl) (by rw [xi, jm_some (t := 21) (by decide)]; rfl)
theorem s85_7s {u n : Nat} {ls : LV} {st : List AV} {m : MM} : go 85 7 ls (.inr (.inr (u, some n)) :: st) m = go 85 10 ls st m := e_1 d85_7 (Or.inl rfl) (by rw [xi, jm_some (t := 21) (by decide)]; rfl)
theorem d85_10 : decode (mt 85).2.1 10 = .ok (.aload_n 3, 1) := by decide +kernel
theorem s85_10 {a0 a1 a2 : Option AV} {st : List AV} {m : MM} {x : Nat × Option Nat} : go 85 10 [a0, a1, a2, some (.inr (.inr x))] st m = go 85 11 [a0, a1, a2, some (.inr (.inr x))] (.inr (.inr x) :: st) m := e_1 d85_10 (Or.inl rfl) rfl
theorem d85_11 : decode (mt 85).2.1 11 = .ok (.getfield 117, 3) := by decide +kernel
theorem s85_11 {ls : LV} {st : List AV} {m : MM} {n : Nat} : go 85 11 ls (.inr (.inr (6, some n)) :: st) m = go 85 14 ls (.inr (.inr (5, mR m 6 n 9)) :: st) m := e_1 d85_11 (Or.inl rfl) (by rw [xi, pA, show lk fdL (mt 85).2.2.1 117 = some (6, 9) by decide +kernel]; rfl)
theorem d85_14 : decode (mt 85).2.1 14 = .ok (.iload_n 2, 1) := by decide +kernel
theorem s85_14 {a0 a1 a3 : Option AV} {st : List AV} {m : MM} {x : Int32} : go 85 14 [a0, a1, some (.inl x), a3] st m = go 85 15 [a0, a1, some (.inl x), a3] (.inl x :: st) m := e_1 d85_14 (Or.inl rfl) rfl
theorem d85_15 : decode (mt 85).2.1 15 = .ok (.invokevirtual 373, 3) := by decide +kernel
theorem s85_15 {ls : LV} {m : MM} {x0 : Int32} {n : Nat} : go 85 15 ls [.inl x0, .inr (.inr (5, some n))] m = bd (go 18 0 [some (.inr (.inr (5, some n))), some (.inl x0)] [] m) (fun v m2 => go 85 18 ls (v.toList ++ []) m2) := e_virt (y1 := 18) (na := 1) (as := [.inl x0]) (rest := []) d85_15 (by decide +kernel) rfl (by decide +kernel) (show (ent [.inr (.inr (5, some n)), .inl x0]).length ≤ (mt 18).2.2.2.1 from Nat.le_of_ble_eq_true rfl) (cats_le (Nat.le_of_ble_eq_true rfl)) (by decide +kernel)
theorem d85_18 : decode (mt 85).2.1 18 = .ok (.goto 4, 3) := by decide +kernel
theorem s85_18 {ls : LV} {st : List AV} {m : MM} : go 85 18 ls st m = go 85 22 ls st m := e_1 d85_18 (Or.inl rfl) (by rw [xi, jm_some (t := 22) (by decide)]; rfl)
theorem d85_21 : decode (mt 85).2.1 21 = .ok (.iconst 0, 1) := by decide +kernel
theorem s85_21 {ls : LV} {st : List AV} {m : MM} : go 85 21 ls st m = go 85 22 ls (.inl 0 :: st) m := e_1 d85_21 (Or.inl rfl) rfl
theorem d85_22 : decode (mt 85).2.1 22 = .ok (.ireturn, 1) := by decide +kernel
theorem s85_22 {ls : LV} {m : MM} {x : Int32} : go 85 22 ls [.inl x] m = some (some (.inl x), m) := e_int d85_22 (by decide +kernel)
/-! X6_kept: 86 -/
theorem d86_0 : decode (mt 86).2.1 0 = .ok (.aload_n 0, 1) := by decide +kernel
theorem s86_0 {a1 a2 a3 : Option AV} {st : List AV} {m : MM} {x : Nat × Option Nat} : go 86 0 [some (.inr (.inr x)), a1, a2, a3] st m = go 86 1 [some (.inr (.inr x)), a1, a2, a3] (.inr (.inr x) :: st) m := e_1 d86_0 (Or.inl rfl) rfl
theorem d86_1 : decode (mt 86).2.1 1 = .ok (.iload_n 1, 1) := by decide +kernel
theorem s86_1 {a0 a2 a3 : Option AV} {st : List AV} {m : MM} {x : Int32} : go 86 1 [a0, some (.inl x), a2, a3] st m = go 86 2 [a0, some (.inl x), a2, a3] (.inl x :: st) m := e_1 d86_1 (Or.inl rfl) rfl
theorem d86_2 : decode (mt 86).2.1 2 = .ok (.invokevirtual 64, 3) := by decide +kernel
theorem s86_2 {ls : LV} {m : MM} {x0 : Int32} {n : Nat} : go 86 2 ls [.inl x0, .inr (.inr (7, some n))] m = bd (go 43 0 [some (.inr (.inr (7, some n))), some (.inl x0)] [] m) (fun v m2 => go 86 5 ls (v.toList ++ []) m2) := e_virt (y1 := 43) (na := 1) (as := [.inl x0]) (rest := []) d86_2 (by decide +kernel) rfl (by decide +kernel) (show (ent [.inr (.inr (7, some n)), .inl x0]).length ≤ (mt 43).2.2.2.1 from Nat.le_of_ble_eq_true rfl) (cats_le (Nat.le_of_ble_eq_true rfl)) (by decide +kernel)
theorem d86_5 : decode (mt 86).2.1 5 = .ok (.astore_n 3, 1) := by decide +kernel
theorem s86_5i {a0 a1 a3 : Option AV} {z : Int32} {st : List AV} {m : MM} {x : Nat × Option Nat} : go 86 5 [a0, a1, some (.inl z), a3] (.inr (.inr x) :: st) m = go 86 6 [a0, a1, some (.inl z), some (.inr (.inr x))] st m := e_1 d86_5 (Or.inl rfl) rfl
theorem s86_5r {a0 a1 a3 : Option AV} {z : Nat × Option Nat} {st : List AV} {m : MM} {x : Nat × Option Nat} : go 86 5 [a0, a1, some (.inr (.inr z)), a3] (.inr (.inr x) :: st) m = go 86 6 [a0, a1, some (.inr (.inr z)), some (.inr (.inr x))] st m := e_1 d86_5 (Or.inl rfl) rfl
theorem s86_5n {a0 a1 a3 : Option AV} {st : List AV} {m : MM} {x : Nat × Option Nat} : go 86 5 [a0, a1, none, a3] (.inr (.inr x) :: st) m = go 86 6 [a0, a1, none, some (.inr (.inr x))] st m := e_1 d86_5 (Or.inl rfl) rfl
theorem d86_6 : decode (mt 86).2.1 6 = .ok (.aload_n 3, 1) := by decide +kernel
theorem s86_6 {a0 a1 a2 : Option AV} {st : List AV} {m : MM} {x : Nat × Option Nat} : go 86 6 [a0, a1, a2, some (.inr (.inr x))] st m = go 86 7 [a0, a1, a2, some (.inr (.inr x))] (.inr (.inr x) :: st) m := e_1 d86_6 (Or.inl rfl) rfl
theorem d86_7 : decode (mt 86).2.1 7 = .ok (.ifnull 14, 3) := by decide +kernel
theorem s86_7n {u : Nat} {ls : LV} {st : List AV} {m : MM} : go 86 7 ls (.inr (.inr (u, none)) :: st) m = go 86 21 ls st m := e_1 d86_7 (Or.inl rfl) (by rw [xi, jm_some (t := 21) (by decide)]; rfl)
theorem s86_7s {u n : Nat} {ls : LV} {st : List AV} {m : MM} : go 86 7 ls (.inr (.inr (u, some n)) :: st) m = go 86 10 ls st m := e_1 d86_7 (Or.inl rfl) (by rw [xi, jm_some (t := 21) (by decide)]; rfl)
theorem d86_10 : decode (mt 86).2.1 10 = .ok (.aload_n 3, 1) := by decide +kernel
theorem s86_10 {a0 a1 a2 : Option AV} {st : List AV} {m : MM} {x : Nat × Option Nat} : go 86 10 [a0, a1, a2, some (.inr (.inr x))] st m = go 86 11 [a0, a1, a2, some (.inr (.inr x))] (.inr (.inr x) :: st) m := e_1 d86_10 (Or.inl rfl) rfl
theorem d86_11 : decode (mt 86).2.1 11 = .ok (.getfield 117, 3) := by decide +kernel
theorem s86_11 {ls : LV} {st : List AV} {m : MM} {n : Nat} : go 86 11 ls (.inr (.inr (6, some n)) :: st) m = go 86 14 ls (.inr (.inr (5, mR m 6 n 9)) :: st) m := e_1 d86_11 (Or.inl rfl) (by rw [xi, pA, show lk fdL (mt 86).2.2.1 117 = some (6, 9) by decide +kernel]; rfl)
theorem d86_14 : decode (mt 86).2.1 14 = .ok (.iload_n 2, 1) := by decide +kernel
theorem s86_14 {a0 a1 a3 : Option AV} {st : List AV} {m : MM} {x : Int32} : go 86 14 [a0, a1, some (.inl x), a3] st m = go 86 15 [a0, a1, some (.inl x), a3] (.inl x :: st) m := e_1 d86_14 (Or.inl rfl) rfl
theorem d86_15 : decode (mt 86).2.1 15 = .ok (.invokevirtual 303, 3) := by decide +kernel
theorem s86_15 {ls : LV} {m : MM} {x0 : Int32} {n : Nat} : go 86 15 ls [.inl x0, .inr (.inr (5, some n))] m = bd (go 19 0 [some (.inr (.inr (5, some n))), some (.inl x0)] [] m) (fun v m2 => go 86 18 ls (v.toList ++ []) m2) := e_virt (y1 := 19) (na := 1) (as := [.inl x0]) (rest := []) d86_15 (by decide +kernel) rfl (by decide +kernel) (show (ent [.inr (.inr (5, some n)), .inl x0]).length ≤ (mt 19).2.2.2.1 from Nat.le_of_ble_eq_true rfl) (cats_le (Nat.le_of_ble_eq_true rfl)) (by decide +kernel)
theorem d86_18 : decode (mt 86).2.1 18 = .ok (.goto 4, 3) := by decide +kernel
theorem s86_18 {ls : LV} {st : List AV} {m : MM} : go 86 18 ls st m = go 86 22 ls st m := e_1 d86_18 (Or.inl rfl) (by rw [xi, jm_some (t := 22) (by decide)]; rfl)
theorem d86_21 : decode (mt 86).2.1 21 = .ok (.lconst 0, 1) := by decide +kernel
theorem s86_21 {ls : LV} {st : List AV} {m : MM} : go 86 21 ls st m = go 86 22 ls (.inr (.inl 0) :: st) m := e_1 d86_21 (Or.inl rfl) rfl
theorem d86_22 : decode (mt 86).2.1 22 = .ok (.lreturn, 1) := by decide +kernel
theorem s86_22 {ls : LV} {m : MM} {x : Int64} : go 86 22 ls [.inr (.inl x)] m = some (some (.inr (.inl x)), m) := e_long d86_22 (by decide +kernel)
/-! X6_keeper: 87 -/
theorem d87_0 : decode (mt 87).2.1 0 = .ok (.aconst_null, 1) := by decide +kernel
theorem s87_0 {ls : LV} {st : List AV} {m : MM} : go 87 0 ls st m = go 87 1 ls (.inr (.inr (0, none)) :: st) m := e_1 d87_0 (Or.inl rfl) rfl
theorem d87_1 : decode (mt 87).2.1 1 = .ok (.astore_n 2, 1) := by decide +kernel
theorem s87_1i {a0 a2 a3 a4 a5 : Option AV} {z : Int32} {st : List AV} {m : MM} {x : Nat × Option Nat} : go 87 1 [a0, some (.inl z), a2, a3, a4, a5] (.inr (.inr x) :: st) m = go 87 2 [a0, some (.inl z), some (.inr (.inr x)), a3, a4, a5] st m := e_1 d87_1 (Or.inl rfl) rfl
theorem s87_1r {a0 a2 a3 a4 a5 : Option AV} {z : Nat × Option Nat} {st : List AV} {m : MM} {x : Nat × Option Nat} : go 87 1 [a0, some (.inr (.inr z)), a2, a3, a4, a5] (.inr (.inr x) :: st) m = go 87 2 [a0, some (.inr (.inr z)), some (.inr (.inr x)), a3, a4, a5] st m := e_1 d87_1 (Or.inl rfl) rfl
theorem s87_1n {a0 a2 a3 a4 a5 : Option AV} {st : List AV} {m : MM} {x : Nat × Option Nat} : go 87 1 [a0, none, a2, a3, a4, a5] (.inr (.inr x) :: st) m = go 87 2 [a0, none, some (.inr (.inr x)), a3, a4, a5] st m := e_1 d87_1 (Or.inl rfl) rfl
theorem d87_2 : decode (mt 87).2.1 2 = .ok (.aconst_null, 1) := by decide +kernel
theorem s87_2 {ls : LV} {st : List AV} {m : MM} : go 87 2 ls st m = go 87 3 ls (.inr (.inr (0, none)) :: st) m := e_1 d87_2 (Or.inl rfl) rfl
theorem d87_3 : decode (mt 87).2.1 3 = .ok (.astore_n 3, 1) := by decide +kernel
theorem s87_3i {a0 a1 a3 a4 a5 : Option AV} {z : Int32} {st : List AV} {m : MM} {x : Nat × Option Nat} : go 87 3 [a0, a1, some (.inl z), a3, a4, a5] (.inr (.inr x) :: st) m = go 87 4 [a0, a1, some (.inl z), some (.inr (.inr x)), a4, a5] st m := e_1 d87_3 (Or.inl rfl) rfl
theorem s87_3r {a0 a1 a3 a4 a5 : Option AV} {z : Nat × Option Nat} {st : List AV} {m : MM} {x : Nat × Option Nat} : go 87 3 [a0, a1, some (.inr (.inr z)), a3, a4, a5] (.inr (.inr x) :: st) m = go 87 4 [a0, a1, some (.inr (.inr z)), some (.inr (.inr x)), a4, a5] st m := e_1 d87_3 (Or.inl rfl) rfl
theorem s87_3n {a0 a1 a3 a4 a5 : Option AV} {st : List AV} {m : MM} {x : Nat × Option Nat} : go 87 3 [a0, a1, none, a3, a4, a5] (.inr (.inr x) :: st) m = go 87 4 [a0, a1, none, some (.inr (.inr x)), a4, a5] st m := e_1 d87_3 (Or.inl rfl) rfl
theorem d87_4 : decode (mt 87).2.1 4 = .ok (.iconst 0, 1) := by decide +kernel
theorem s87_4 {ls : LV} {st : List AV} {m : MM} : go 87 4 ls st m = go 87 5 ls (.inl 0 :: st) m := e_1 d87_4 (Or.inl rfl) rfl
theorem d87_5 : decode (mt 87).2.1 5 = .ok (.istore 4, 2) := by decide +kernel
theorem s87_5i {a0 a1 a2 a4 a5 : Option AV} {z : Int32} {st : List AV} {m : MM} {x : Int32} : go 87 5 [a0, a1, a2, some (.inl z), a4, a5] (.inl x :: st) m = go 87 7 [a0, a1, a2, some (.inl z), some (.inl x), a5] st m := e_1 d87_5 (Or.inl rfl) rfl
theorem s87_5r {a0 a1 a2 a4 a5 : Option AV} {z : Nat × Option Nat} {st : List AV} {m : MM} {x : Int32} : go 87 5 [a0, a1, a2, some (.inr (.inr z)), a4, a5] (.inl x :: st) m = go 87 7 [a0, a1, a2, some (.inr (.inr z)), some (.inl x), a5] st m := e_1 d87_5 (Or.inl rfl) rfl
theorem s87_5n {a0 a1 a2 a4 a5 : Option AV} {st : List AV} {m : MM} {x : Int32} : go 87 5 [a0, a1, a2, none, a4, a5] (.inl x :: st) m = go 87 7 [a0, a1, a2, none, some (.inl x), a5] st m := e_1 d87_5 (Or.inl rfl) rfl
theorem d87_7 : decode (mt 87).2.1 7 = .ok (.iload 4, 2) := by decide +kernel
theorem s87_7 {a0 a1 a2 a3 a5 : Option AV} {st : List AV} {m : MM} {x : Int32} : go 87 7 [a0, a1, a2, a3, some (.inl x), a5] st m = go 87 9 [a0, a1, a2, a3, some (.inl x), a5] (.inl x :: st) m := e_1 d87_7 (Or.inl rfl) rfl
theorem d87_9 : decode (mt 87).2.1 9 = .ok (.aload_n 0, 1) := by decide +kernel
theorem s87_9 {a1 a2 a3 a4 a5 : Option AV} {st : List AV} {m : MM} {x : Nat × Option Nat} : go 87 9 [some (.inr (.inr x)), a1, a2, a3, a4, a5] st m = go 87 10 [some (.inr (.inr x)), a1, a2, a3, a4, a5] (.inr (.inr x) :: st) m := e_1 d87_9 (Or.inl rfl) rfl
theorem d87_10 : decode (mt 87).2.1 10 = .ok (.getfield 52, 3) := by decide +kernel
theorem s87_10 {ls : LV} {st : List AV} {m : MM} {n : Nat} : go 87 10 ls (.inr (.inr (7, some n)) :: st) m = go 87 13 ls (.inl (mI m 7 n 1) :: st) m := e_1 d87_10 (Or.inl rfl) (by rw [xi, pA, show lk fdL (mt 87).2.2.1 52 = some (7, 1) by decide +kernel]; rfl)
theorem d87_13 : decode (mt 87).2.1 13 = .ok (.if_icmp .ge 77, 3) := by decide +kernel
theorem s87_13 {ls : LV} {st : List AV} {m : MM} {a b : Int32} : go 87 13 ls (.inl b :: .inl a :: st) m = if b ≤ a then go 87 90 ls st m else go 87 16 ls st m := e_if (t := 90) (b := hc .ge a b) d87_13 (Or.inl rfl) (by simp only [xi, pI, jm_some (t := 90) (show ((13 : Nat) : Int) + 77 = ((90 : Nat) : Int) by decide), Option.bind_some]) (by simp [hc])
theorem d87_16 : decode (mt 87).2.1 16 = .ok (.aload_n 0, 1) := by decide +kernel
theorem s87_16 {a1 a2 a3 a4 a5 : Option AV} {st : List AV} {m : MM} {x : Nat × Option Nat} : go 87 16 [some (.inr (.inr x)), a1, a2, a3, a4, a5] st m = go 87 17 [some (.inr (.inr x)), a1, a2, a3, a4, a5] (.inr (.inr x) :: st) m := e_1 d87_16 (Or.inl rfl) rfl
theorem d87_17 : decode (mt 87).2.1 17 = .ok (.getfield 11, 3) := by decide +kernel
theorem s87_17 {ls : LV} {st : List AV} {m : MM} {n : Nat} : go 87 17 ls (.inr (.inr (7, some n)) :: st) m = go 87 20 ls (.inr (.inr (16, mR m 7 n 0)) :: st) m := e_1 d87_17 (Or.inl rfl) (by rw [xi, pA, show lk fdL (mt 87).2.2.1 11 = some (7, 0) by decide +kernel]; rfl)
theorem d87_20 : decode (mt 87).2.1 20 = .ok (.iload 4, 2) := by decide +kernel
theorem s87_20 {a0 a1 a2 a3 a5 : Option AV} {st : List AV} {m : MM} {x : Int32} : go 87 20 [a0, a1, a2, a3, some (.inl x), a5] st m = go 87 22 [a0, a1, a2, a3, some (.inl x), a5] (.inl x :: st) m := e_1 d87_20 (Or.inl rfl) rfl
theorem d87_22 : decode (mt 87).2.1 22 = .ok (.aaload, 1) := by decide +kernel
theorem s87_22 {ls : LV} {st : List AV} {m : MM} {n : Nat} {i : Int32} : go 87 22 ls (.inl i :: .inr (.inr (16, some n)) :: st) m = ixk (ix i (mN m 16 n)) (fun j => go 87 23 ls (.inr (.inr (6, mR m 16 n j)) :: st) m) := e_ald d87_22 (fun j hj => by simp only [xi, pI, pA, hj, Option.bind_some]; rfl) (fun hj => by simp only [xi, pI, pA, hj, Option.bind_none])
theorem d87_23 : decode (mt 87).2.1 23 = .ok (.astore 5, 2) := by decide +kernel
theorem s87_23i {a0 a1 a2 a3 a5 : Option AV} {z : Int32} {st : List AV} {m : MM} {x : Nat × Option Nat} : go 87 23 [a0, a1, a2, a3, some (.inl z), a5] (.inr (.inr x) :: st) m = go 87 25 [a0, a1, a2, a3, some (.inl z), some (.inr (.inr x))] st m := e_1 d87_23 (Or.inl rfl) rfl
theorem s87_23r {a0 a1 a2 a3 a5 : Option AV} {z : Nat × Option Nat} {st : List AV} {m : MM} {x : Nat × Option Nat} : go 87 23 [a0, a1, a2, a3, some (.inr (.inr z)), a5] (.inr (.inr x) :: st) m = go 87 25 [a0, a1, a2, a3, some (.inr (.inr z)), some (.inr (.inr x))] st m := e_1 d87_23 (Or.inl rfl) rfl
theorem s87_23n {a0 a1 a2 a3 a5 : Option AV} {st : List AV} {m : MM} {x : Nat × Option Nat} : go 87 23 [a0, a1, a2, a3, none, a5] (.inr (.inr x) :: st) m = go 87 25 [a0, a1, a2, a3, none, some (.inr (.inr x))] st m := e_1 d87_23 (Or.inl rfl) rfl
theorem d87_25 : decode (mt 87).2.1 25 = .ok (.aload 5, 2) := by decide +kernel
theorem s87_25 {a0 a1 a2 a3 a4 : Option AV} {st : List AV} {m : MM} {x : Nat × Option Nat} : go 87 25 [a0, a1, a2, a3, a4, some (.inr (.inr x))] st m = go 87 27 [a0, a1, a2, a3, a4, some (.inr (.inr x))] (.inr (.inr x) :: st) m := e_1 d87_25 (Or.inl rfl) rfl
theorem d87_27 : decode (mt 87).2.1 27 = .ok (.getfield 61, 3) := by decide +kernel
theorem s87_27 {ls : LV} {st : List AV} {m : MM} {n : Nat} : go 87 27 ls (.inr (.inr (6, some n)) :: st) m = go 87 30 ls (.inl (mI m 6 n 3) :: st) m := e_1 d87_27 (Or.inl rfl) (by rw [xi, pA, show lk fdL (mt 87).2.2.1 61 = some (6, 3) by decide +kernel]; rfl)
theorem d87_30 : decode (mt 87).2.1 30 = .ok (.iconst 2, 1) := by decide +kernel
theorem s87_30 {ls : LV} {st : List AV} {m : MM} : go 87 30 ls st m = go 87 31 ls (.inl 2 :: st) m := e_1 d87_30 (Or.inl rfl) rfl
theorem d87_31 : decode (mt 87).2.1 31 = .ok (.if_icmp .eq 6, 3) := by decide +kernel
theorem s87_31 {ls : LV} {st : List AV} {m : MM} {a b : Int32} : go 87 31 ls (.inl b :: .inl a :: st) m = if a = b then go 87 37 ls st m else go 87 34 ls st m := e_if (t := 37) (b := hc .eq a b) d87_31 (Or.inl rfl) (by simp only [xi, pI, jm_some (t := 37) (show ((31 : Nat) : Int) + 6 = ((37 : Nat) : Int) by decide), Option.bind_some]) (by simp [hc])
theorem d87_34 : decode (mt 87).2.1 34 = .ok (.goto 50, 3) := by decide +kernel
theorem s87_34 {ls : LV} {st : List AV} {m : MM} : go 87 34 ls st m = go 87 84 ls st m := e_1 d87_34 (Or.inl rfl) (by rw [xi, jm_some (t := 84) (by decide)]; rfl)
theorem d87_37 : decode (mt 87).2.1 37 = .ok (.aload_n 2, 1) := by decide +kernel
theorem s87_37 {a0 a1 a3 a4 a5 : Option AV} {st : List AV} {m : MM} {x : Nat × Option Nat} : go 87 37 [a0, a1, some (.inr (.inr x)), a3, a4, a5] st m = go 87 38 [a0, a1, some (.inr (.inr x)), a3, a4, a5] (.inr (.inr x) :: st) m := e_1 d87_37 (Or.inl rfl) rfl
theorem d87_38 : decode (mt 87).2.1 38 = .ok (.ifnull 15, 3) := by decide +kernel
theorem s87_38n {u : Nat} {ls : LV} {st : List AV} {m : MM} : go 87 38 ls (.inr (.inr (u, none)) :: st) m = go 87 53 ls st m := e_1 d87_38 (Or.inl rfl) (by rw [xi, jm_some (t := 53) (by decide)]; rfl)
theorem s87_38s {u n : Nat} {ls : LV} {st : List AV} {m : MM} : go 87 38 ls (.inr (.inr (u, some n)) :: st) m = go 87 41 ls st m := e_1 d87_38 (Or.inl rfl) (by rw [xi, jm_some (t := 53) (by decide)]; rfl)
theorem d87_41 : decode (mt 87).2.1 41 = .ok (.aload 5, 2) := by decide +kernel
theorem s87_41 {a0 a1 a2 a3 a4 : Option AV} {st : List AV} {m : MM} {x : Nat × Option Nat} : go 87 41 [a0, a1, a2, a3, a4, some (.inr (.inr x))] st m = go 87 43 [a0, a1, a2, a3, a4, some (.inr (.inr x))] (.inr (.inr x) :: st) m := e_1 d87_41 (Or.inl rfl) rfl
theorem d87_43 : decode (mt 87).2.1 43 = .ok (.getfield 58, 3) := by decide +kernel
theorem s87_43 {ls : LV} {st : List AV} {m : MM} {n : Nat} : go 87 43 ls (.inr (.inr (6, some n)) :: st) m = go 87 46 ls (.inl (mI m 6 n 1) :: st) m := e_1 d87_43 (Or.inl rfl) (by rw [xi, pA, show lk fdL (mt 87).2.2.1 58 = some (6, 1) by decide +kernel]; rfl)
theorem d87_46 : decode (mt 87).2.1 46 = .ok (.aload_n 2, 1) := by decide +kernel
theorem s87_46 {a0 a1 a3 a4 a5 : Option AV} {st : List AV} {m : MM} {x : Nat × Option Nat} : go 87 46 [a0, a1, some (.inr (.inr x)), a3, a4, a5] st m = go 87 47 [a0, a1, some (.inr (.inr x)), a3, a4, a5] (.inr (.inr x) :: st) m := e_1 d87_46 (Or.inl rfl) rfl
theorem d87_47 : decode (mt 87).2.1 47 = .ok (.getfield 58, 3) := by decide +kernel
theorem s87_47 {ls : LV} {st : List AV} {m : MM} {n : Nat} : go 87 47 ls (.inr (.inr (6, some n)) :: st) m = go 87 50 ls (.inl (mI m 6 n 1) :: st) m := e_1 d87_47 (Or.inl rfl) (by rw [xi, pA, show lk fdL (mt 87).2.2.1 58 = some (6, 1) by decide +kernel]; rfl)
theorem d87_50 : decode (mt 87).2.1 50 = .ok (.if_icmp .ge 6, 3) := by decide +kernel
theorem s87_50 {ls : LV} {st : List AV} {m : MM} {a b : Int32} : go 87 50 ls (.inl b :: .inl a :: st) m = if b ≤ a then go 87 56 ls st m else go 87 53 ls st m := e_if (t := 56) (b := hc .ge a b) d87_50 (Or.inl rfl) (by simp only [xi, pI, jm_some (t := 56) (show ((50 : Nat) : Int) + 6 = ((56 : Nat) : Int) by decide), Option.bind_some]) (by simp [hc])
theorem d87_53 : decode (mt 87).2.1 53 = .ok (.aload 5, 2) := by decide +kernel
theorem s87_53 {a0 a1 a2 a3 a4 : Option AV} {st : List AV} {m : MM} {x : Nat × Option Nat} : go 87 53 [a0, a1, a2, a3, a4, some (.inr (.inr x))] st m = go 87 55 [a0, a1, a2, a3, a4, some (.inr (.inr x))] (.inr (.inr x) :: st) m := e_1 d87_53 (Or.inl rfl) rfl
theorem d87_55 : decode (mt 87).2.1 55 = .ok (.astore_n 2, 1) := by decide +kernel
theorem s87_55i {a0 a2 a3 a4 a5 : Option AV} {z : Int32} {st : List AV} {m : MM} {x : Nat × Option Nat} : go 87 55 [a0, some (.inl z), a2, a3, a4, a5] (.inr (.inr x) :: st) m = go 87 56 [a0, some (.inl z), some (.inr (.inr x)), a3, a4, a5] st m := e_1 d87_55 (Or.inl rfl) rfl
theorem s87_55r {a0 a2 a3 a4 a5 : Option AV} {z : Nat × Option Nat} {st : List AV} {m : MM} {x : Nat × Option Nat} : go 87 55 [a0, some (.inr (.inr z)), a2, a3, a4, a5] (.inr (.inr x) :: st) m = go 87 56 [a0, some (.inr (.inr z)), some (.inr (.inr x)), a3, a4, a5] st m := e_1 d87_55 (Or.inl rfl) rfl
theorem s87_55n {a0 a2 a3 a4 a5 : Option AV} {st : List AV} {m : MM} {x : Nat × Option Nat} : go 87 55 [a0, none, a2, a3, a4, a5] (.inr (.inr x) :: st) m = go 87 56 [a0, none, some (.inr (.inr x)), a3, a4, a5] st m := e_1 d87_55 (Or.inl rfl) rfl
theorem d87_56 : decode (mt 87).2.1 56 = .ok (.aload 5, 2) := by decide +kernel
theorem s87_56 {a0 a1 a2 a3 a4 : Option AV} {st : List AV} {m : MM} {x : Nat × Option Nat} : go 87 56 [a0, a1, a2, a3, a4, some (.inr (.inr x))] st m = go 87 58 [a0, a1, a2, a3, a4, some (.inr (.inr x))] (.inr (.inr x) :: st) m := e_1 d87_56 (Or.inl rfl) rfl
theorem d87_58 : decode (mt 87).2.1 58 = .ok (.getfield 58, 3) := by decide +kernel
theorem s87_58 {ls : LV} {st : List AV} {m : MM} {n : Nat} : go 87 58 ls (.inr (.inr (6, some n)) :: st) m = go 87 61 ls (.inl (mI m 6 n 1) :: st) m := e_1 d87_58 (Or.inl rfl) (by rw [xi, pA, show lk fdL (mt 87).2.2.1 58 = some (6, 1) by decide +kernel]; rfl)
theorem d87_61 : decode (mt 87).2.1 61 = .ok (.iload_n 1, 1) := by decide +kernel
theorem s87_61 {a0 a2 a3 a4 a5 : Option AV} {st : List AV} {m : MM} {x : Int32} : go 87 61 [a0, some (.inl x), a2, a3, a4, a5] st m = go 87 62 [a0, some (.inl x), a2, a3, a4, a5] (.inl x :: st) m := e_1 d87_61 (Or.inl rfl) rfl
theorem d87_62 : decode (mt 87).2.1 62 = .ok (.if_icmp .gt 22, 3) := by decide +kernel
theorem s87_62 {ls : LV} {st : List AV} {m : MM} {a b : Int32} : go 87 62 ls (.inl b :: .inl a :: st) m = if b < a then go 87 84 ls st m else go 87 65 ls st m := e_if (t := 84) (b := hc .gt a b) d87_62 (Or.inl rfl) (by simp only [xi, pI, jm_some (t := 84) (show ((62 : Nat) : Int) + 22 = ((84 : Nat) : Int) by decide), Option.bind_some]) (by simp [hc])
theorem d87_65 : decode (mt 87).2.1 65 = .ok (.aload_n 3, 1) := by decide +kernel
theorem s87_65 {a0 a1 a2 a4 a5 : Option AV} {st : List AV} {m : MM} {x : Nat × Option Nat} : go 87 65 [a0, a1, a2, some (.inr (.inr x)), a4, a5] st m = go 87 66 [a0, a1, a2, some (.inr (.inr x)), a4, a5] (.inr (.inr x) :: st) m := e_1 d87_65 (Or.inl rfl) rfl
theorem d87_66 : decode (mt 87).2.1 66 = .ok (.ifnull 15, 3) := by decide +kernel
theorem s87_66n {u : Nat} {ls : LV} {st : List AV} {m : MM} : go 87 66 ls (.inr (.inr (u, none)) :: st) m = go 87 81 ls st m := e_1 d87_66 (Or.inl rfl) (by rw [xi, jm_some (t := 81) (by decide)]; rfl)
theorem s87_66s {u n : Nat} {ls : LV} {st : List AV} {m : MM} : go 87 66 ls (.inr (.inr (u, some n)) :: st) m = go 87 69 ls st m := e_1 d87_66 (Or.inl rfl) (by rw [xi, jm_some (t := 81) (by decide)]; rfl)
theorem d87_69 : decode (mt 87).2.1 69 = .ok (.aload 5, 2) := by decide +kernel
theorem s87_69 {a0 a1 a2 a3 a4 : Option AV} {st : List AV} {m : MM} {x : Nat × Option Nat} : go 87 69 [a0, a1, a2, a3, a4, some (.inr (.inr x))] st m = go 87 71 [a0, a1, a2, a3, a4, some (.inr (.inr x))] (.inr (.inr x) :: st) m := e_1 d87_69 (Or.inl rfl) rfl
theorem d87_71 : decode (mt 87).2.1 71 = .ok (.getfield 58, 3) := by decide +kernel
theorem s87_71 {ls : LV} {st : List AV} {m : MM} {n : Nat} : go 87 71 ls (.inr (.inr (6, some n)) :: st) m = go 87 74 ls (.inl (mI m 6 n 1) :: st) m := e_1 d87_71 (Or.inl rfl) (by rw [xi, pA, show lk fdL (mt 87).2.2.1 58 = some (6, 1) by decide +kernel]; rfl)
theorem d87_74 : decode (mt 87).2.1 74 = .ok (.aload_n 3, 1) := by decide +kernel
theorem s87_74 {a0 a1 a2 a4 a5 : Option AV} {st : List AV} {m : MM} {x : Nat × Option Nat} : go 87 74 [a0, a1, a2, some (.inr (.inr x)), a4, a5] st m = go 87 75 [a0, a1, a2, some (.inr (.inr x)), a4, a5] (.inr (.inr x) :: st) m := e_1 d87_74 (Or.inl rfl) rfl
theorem d87_75 : decode (mt 87).2.1 75 = .ok (.getfield 58, 3) := by decide +kernel
theorem s87_75 {ls : LV} {st : List AV} {m : MM} {n : Nat} : go 87 75 ls (.inr (.inr (6, some n)) :: st) m = go 87 78 ls (.inl (mI m 6 n 1) :: st) m := e_1 d87_75 (Or.inl rfl) (by rw [xi, pA, show lk fdL (mt 87).2.2.1 58 = some (6, 1) by decide +kernel]; rfl)
theorem d87_78 : decode (mt 87).2.1 78 = .ok (.if_icmp .le 6, 3) := by decide +kernel
theorem s87_78 {ls : LV} {st : List AV} {m : MM} {a b : Int32} : go 87 78 ls (.inl b :: .inl a :: st) m = if a ≤ b then go 87 84 ls st m else go 87 81 ls st m := e_if (t := 84) (b := hc .le a b) d87_78 (Or.inl rfl) (by simp only [xi, pI, jm_some (t := 84) (show ((78 : Nat) : Int) + 6 = ((84 : Nat) : Int) by decide), Option.bind_some]) (by simp [hc])
theorem d87_81 : decode (mt 87).2.1 81 = .ok (.aload 5, 2) := by decide +kernel
theorem s87_81 {a0 a1 a2 a3 a4 : Option AV} {st : List AV} {m : MM} {x : Nat × Option Nat} : go 87 81 [a0, a1, a2, a3, a4, some (.inr (.inr x))] st m = go 87 83 [a0, a1, a2, a3, a4, some (.inr (.inr x))] (.inr (.inr x) :: st) m := e_1 d87_81 (Or.inl rfl) rfl
theorem d87_83 : decode (mt 87).2.1 83 = .ok (.astore_n 3, 1) := by decide +kernel
theorem s87_83i {a0 a1 a3 a4 a5 : Option AV} {z : Int32} {st : List AV} {m : MM} {x : Nat × Option Nat} : go 87 83 [a0, a1, some (.inl z), a3, a4, a5] (.inr (.inr x) :: st) m = go 87 84 [a0, a1, some (.inl z), some (.inr (.inr x)), a4, a5] st m := e_1 d87_83 (Or.inl rfl) rfl
theorem s87_83r {a0 a1 a3 a4 a5 : Option AV} {z : Nat × Option Nat} {st : List AV} {m : MM} {x : Nat × Option Nat} : go 87 83 [a0, a1, some (.inr (.inr z)), a3, a4, a5] (.inr (.inr x) :: st) m = go 87 84 [a0, a1, some (.inr (.inr z)), some (.inr (.inr x)), a4, a5] st m := e_1 d87_83 (Or.inl rfl) rfl
theorem s87_83n {a0 a1 a3 a4 a5 : Option AV} {st : List AV} {m : MM} {x : Nat × Option Nat} : go 87 83 [a0, a1, none, a3, a4, a5] (.inr (.inr x) :: st) m = go 87 84 [a0, a1, none, some (.inr (.inr x)), a4, a5] st m := e_1 d87_83 (Or.inl rfl) rfl
theorem d87_84 : decode (mt 87).2.1 84 = .ok (.iinc 4 1, 3) := by decide +kernel
theorem s87_84i {a0 a1 a2 a5 : Option AV} {z : Int32} {st : List AV} {m : MM} {x : Int32} : go 87 84 [a0, a1, a2, some (.inl z), some (.inl x), a5] st m = go 87 87 [a0, a1, a2, some (.inl z), some (.inl (x + 1)), a5] st m := e_1 d87_84 (Or.inl rfl) rfl
theorem s87_84r {a0 a1 a2 a5 : Option AV} {z : Nat × Option Nat} {st : List AV} {m : MM} {x : Int32} : go 87 84 [a0, a1, a2, some (.inr (.inr z)), some (.inl x), a5] st m = go 87 87 [a0, a1, a2, some (.inr (.inr z)), some (.inl (x + 1)), a5] st m := e_1 d87_84 (Or.inl rfl) rfl
theorem s87_84n {a0 a1 a2 a5 : Option AV} {st : List AV} {m : MM} {x : Int32} : go 87 84 [a0, a1, a2, none, some (.inl x), a5] st m = go 87 87 [a0, a1, a2, none, some (.inl (x + 1)), a5] st m := e_1 d87_84 (Or.inl rfl) rfl
theorem d87_87 : decode (mt 87).2.1 87 = .ok (.goto (-80), 3) := by decide +kernel
theorem s87_87 {ls : LV} {st : List AV} {m : MM} : go 87 87 ls st m = go 87 7 ls st m := e_1 d87_87 (Or.inl rfl) (by rw [xi, jm_some (t := 7) (by decide)]; rfl)
theorem d87_90 : decode (mt 87).2.1 90 = .ok (.aload_n 3, 1) := by decide +kernel
theorem s87_90 {a0 a1 a2 a4 a5 : Option AV} {st : List AV} {m : MM} {x : Nat × Option Nat} : go 87 90 [a0, a1, a2, some (.inr (.inr x)), a4, a5] st m = go 87 91 [a0, a1, a2, some (.inr (.inr x)), a4, a5] (.inr (.inr x) :: st) m := e_1 d87_90 (Or.inl rfl) rfl
theorem d87_91 : decode (mt 87).2.1 91 = .ok (.ifnull 7, 3) := by decide +kernel
theorem s87_91n {u : Nat} {ls : LV} {st : List AV} {m : MM} : go 87 91 ls (.inr (.inr (u, none)) :: st) m = go 87 98 ls st m := e_1 d87_91 (Or.inl rfl) (by rw [xi, jm_some (t := 98) (by decide)]; rfl)
theorem s87_91s {u n : Nat} {ls : LV} {st : List AV} {m : MM} : go 87 91 ls (.inr (.inr (u, some n)) :: st) m = go 87 94 ls st m := e_1 d87_91 (Or.inl rfl) (by rw [xi, jm_some (t := 98) (by decide)]; rfl)
theorem d87_94 : decode (mt 87).2.1 94 = .ok (.aload_n 3, 1) := by decide +kernel
theorem s87_94 {a0 a1 a2 a4 a5 : Option AV} {st : List AV} {m : MM} {x : Nat × Option Nat} : go 87 94 [a0, a1, a2, some (.inr (.inr x)), a4, a5] st m = go 87 95 [a0, a1, a2, some (.inr (.inr x)), a4, a5] (.inr (.inr x) :: st) m := e_1 d87_94 (Or.inl rfl) rfl
theorem d87_95 : decode (mt 87).2.1 95 = .ok (.goto 4, 3) := by decide +kernel
theorem s87_95 {ls : LV} {st : List AV} {m : MM} : go 87 95 ls st m = go 87 99 ls st m := e_1 d87_95 (Or.inl rfl) (by rw [xi, jm_some (t := 99) (by decide)]; rfl)
theorem d87_98 : decode (mt 87).2.1 98 = .ok (.aload_n 2, 1) := by decide +kernel
theorem s87_98 {a0 a1 a3 a4 a5 : Option AV} {st : List AV} {m : MM} {x : Nat × Option Nat} : go 87 98 [a0, a1, some (.inr (.inr x)), a3, a4, a5] st m = go 87 99 [a0, a1, some (.inr (.inr x)), a3, a4, a5] (.inr (.inr x) :: st) m := e_1 d87_98 (Or.inl rfl) rfl
theorem d87_99 : decode (mt 87).2.1 99 = .ok (.invokestatic 369, 3) := by decide +kernel
theorem s87_99 {ls : LV} {m : MM} {x0 : Nat × Option Nat} : go 87 99 ls [.inr (.inr x0)] m = bd (go 94 0 [some (.inr (.inr x0))] [] m) (fun v m2 => go 87 102 ls (v.toList ++ []) m2) := e_stat (y1 := 94) (na := 1) (as := [.inr (.inr x0)]) (rest := []) d87_99 (by decide +kernel) rfl (by decide +kernel) (show (ent [.inr (.inr x0)]).length ≤ (mt 94).2.2.2.1 from Nat.le_of_ble_eq_true rfl) (cats_le (Nat.le_of_ble_eq_true rfl)) (by decide +kernel)
theorem d87_102 : decode (mt 87).2.1 102 = .ok (.ireturn, 1) := by decide +kernel
theorem s87_102 {ls : LV} {m : MM} {x : Int32} : go 87 102 ls [.inl x] m = some (some (.inl x), m) := e_int d87_102 (by decide +kernel)
/-! X6_row: 88 -/
theorem d88_0 : decode (mt 88).2.1 0 = .ok (.aload_n 0, 1) := by decide +kernel
theorem s88_0 {a1 a2 a3 a4 a5 : Option AV} {st : List AV} {m : MM} {x : Nat × Option Nat} : go 88 0 [some (.inr (.inr x)), a1, a2, a3, a4, a5] st m = go 88 1 [some (.inr (.inr x)), a1, a2, a3, a4, a5] (.inr (.inr x) :: st) m := e_1 d88_0 (Or.inl rfl) rfl
theorem d88_1 : decode (mt 88).2.1 1 = .ok (.iload_n 1, 1) := by decide +kernel
theorem s88_1 {a0 a2 a3 a4 a5 : Option AV} {st : List AV} {m : MM} {x : Int32} : go 88 1 [a0, some (.inl x), a2, a3, a4, a5] st m = go 88 2 [a0, some (.inl x), a2, a3, a4, a5] (.inl x :: st) m := e_1 d88_1 (Or.inl rfl) rfl
theorem d88_2 : decode (mt 88).2.1 2 = .ok (.invokevirtual 64, 3) := by decide +kernel
theorem s88_2 {ls : LV} {m : MM} {x0 : Int32} {n : Nat} : go 88 2 ls [.inl x0, .inr (.inr (7, some n))] m = bd (go 43 0 [some (.inr (.inr (7, some n))), some (.inl x0)] [] m) (fun v m2 => go 88 5 ls (v.toList ++ []) m2) := e_virt (y1 := 43) (na := 1) (as := [.inl x0]) (rest := []) d88_2 (by decide +kernel) rfl (by decide +kernel) (show (ent [.inr (.inr (7, some n)), .inl x0]).length ≤ (mt 43).2.2.2.1 from Nat.le_of_ble_eq_true rfl) (cats_le (Nat.le_of_ble_eq_true rfl)) (by decide +kernel)
theorem d88_5 : decode (mt 88).2.1 5 = .ok (.astore 4, 2) := by decide +kernel
theorem s88_5i {a0 a1 a2 a4 a5 : Option AV} {z : Int32} {st : List AV} {m : MM} {x : Nat × Option Nat} : go 88 5 [a0, a1, a2, some (.inl z), a4, a5] (.inr (.inr x) :: st) m = go 88 7 [a0, a1, a2, some (.inl z), some (.inr (.inr x)), a5] st m := e_1 d88_5 (Or.inl rfl) rfl
theorem s88_5r {a0 a1 a2 a4 a5 : Option AV} {z : Nat × Option Nat} {st : List AV} {m : MM} {x : Nat × Option Nat} : go 88 5 [a0, a1, a2, some (.inr (.inr z)), a4, a5] (.inr (.inr x) :: st) m = go 88 7 [a0, a1, a2, some (.inr (.inr z)), some (.inr (.inr x)), a5] st m := e_1 d88_5 (Or.inl rfl) rfl
theorem s88_5n {a0 a1 a2 a4 a5 : Option AV} {st : List AV} {m : MM} {x : Nat × Option Nat} : go 88 5 [a0, a1, a2, none, a4, a5] (.inr (.inr x) :: st) m = go 88 7 [a0, a1, a2, none, some (.inr (.inr x)), a5] st m := e_1 d88_5 (Or.inl rfl) rfl
theorem d88_7 : decode (mt 88).2.1 7 = .ok (.aload 4, 2) := by decide +kernel
theorem s88_7 {a0 a1 a2 a3 a5 : Option AV} {st : List AV} {m : MM} {x : Nat × Option Nat} : go 88 7 [a0, a1, a2, a3, some (.inr (.inr x)), a5] st m = go 88 9 [a0, a1, a2, a3, some (.inr (.inr x)), a5] (.inr (.inr x) :: st) m := e_1 d88_7 (Or.inl rfl) rfl
theorem d88_9 : decode (mt 88).2.1 9 = .ok (.ifnull 10, 3) := by decide +kernel
theorem s88_9n {u : Nat} {ls : LV} {st : List AV} {m : MM} : go 88 9 ls (.inr (.inr (u, none)) :: st) m = go 88 19 ls st m := e_1 d88_9 (Or.inl rfl) (by rw [xi, jm_some (t := 19) (by decide)]; rfl)
theorem s88_9s {u n : Nat} {ls : LV} {st : List AV} {m : MM} : go 88 9 ls (.inr (.inr (u, some n)) :: st) m = go 88 12 ls st m := e_1 d88_9 (Or.inl rfl) (by rw [xi, jm_some (t := 19) (by decide)]; rfl)
theorem d88_12 : decode (mt 88).2.1 12 = .ok (.iload_n 2, 1) := by decide +kernel
theorem s88_12 {a0 a1 a3 a4 a5 : Option AV} {st : List AV} {m : MM} {x : Int32} : go 88 12 [a0, a1, some (.inl x), a3, a4, a5] st m = go 88 13 [a0, a1, some (.inl x), a3, a4, a5] (.inl x :: st) m := e_1 d88_12 (Or.inl rfl) rfl
theorem d88_13 : decode (mt 88).2.1 13 = .ok (.invokestatic 366, 3) := by decide +kernel
theorem s88_13 {ls : LV} {m : MM} {x0 : Int32} : go 88 13 ls [.inl x0] m = bd (go 95 0 [some (.inl x0)] [] m) (fun v m2 => go 88 16 ls (v.toList ++ []) m2) := e_stat (y1 := 95) (na := 1) (as := [.inl x0]) (rest := []) d88_13 (by decide +kernel) rfl (by decide +kernel) (show (ent [.inl x0]).length ≤ (mt 95).2.2.2.1 from Nat.le_of_ble_eq_true rfl) (cats_le (Nat.le_of_ble_eq_true rfl)) (by decide +kernel)
theorem d88_16 : decode (mt 88).2.1 16 = .ok (.ifCond .ne 5, 3) := by decide +kernel
theorem s88_16 {ls : LV} {st : List AV} {m : MM} {a : Int32} : go 88 16 ls (.inl a :: st) m = if ¬ a = 0 then go 88 21 ls st m else go 88 19 ls st m := e_if (t := 21) (b := hc .ne a 0) d88_16 (Or.inl rfl) (by simp only [xi, pI, jm_some (t := 21) (show ((16 : Nat) : Int) + 5 = ((21 : Nat) : Int) by decide), Option.bind_some]) (by simp [hc])
theorem d88_19 : decode (mt 88).2.1 19 = .ok (.iconst (-1), 1) := by decide +kernel
theorem s88_19 {ls : LV} {st : List AV} {m : MM} : go 88 19 ls st m = go 88 20 ls (.inl (-1) :: st) m := e_1 d88_19 (Or.inl rfl) rfl
theorem d88_20 : decode (mt 88).2.1 20 = .ok (.ireturn, 1) := by decide +kernel
theorem s88_20 {ls : LV} {m : MM} {x : Int32} : go 88 20 ls [.inl x] m = some (some (.inl x), m) := e_int d88_20 (by decide +kernel)
theorem d88_21 : decode (mt 88).2.1 21 = .ok (.iconst 0, 1) := by decide +kernel
theorem s88_21 {ls : LV} {st : List AV} {m : MM} : go 88 21 ls st m = go 88 22 ls (.inl 0 :: st) m := e_1 d88_21 (Or.inl rfl) rfl
theorem d88_22 : decode (mt 88).2.1 22 = .ok (.istore 5, 2) := by decide +kernel
theorem s88_22i {a0 a1 a2 a3 a5 : Option AV} {z : Int32} {st : List AV} {m : MM} {x : Int32} : go 88 22 [a0, a1, a2, a3, some (.inl z), a5] (.inl x :: st) m = go 88 24 [a0, a1, a2, a3, some (.inl z), some (.inl x)] st m := e_1 d88_22 (Or.inl rfl) rfl
theorem s88_22r {a0 a1 a2 a3 a5 : Option AV} {z : Nat × Option Nat} {st : List AV} {m : MM} {x : Int32} : go 88 22 [a0, a1, a2, a3, some (.inr (.inr z)), a5] (.inl x :: st) m = go 88 24 [a0, a1, a2, a3, some (.inr (.inr z)), some (.inl x)] st m := e_1 d88_22 (Or.inl rfl) rfl
theorem s88_22n {a0 a1 a2 a3 a5 : Option AV} {st : List AV} {m : MM} {x : Int32} : go 88 22 [a0, a1, a2, a3, none, a5] (.inl x :: st) m = go 88 24 [a0, a1, a2, a3, none, some (.inl x)] st m := e_1 d88_22 (Or.inl rfl) rfl
theorem d88_24 : decode (mt 88).2.1 24 = .ok (.iload 5, 2) := by decide +kernel
theorem s88_24 {a0 a1 a2 a3 a4 : Option AV} {st : List AV} {m : MM} {x : Int32} : go 88 24 [a0, a1, a2, a3, a4, some (.inl x)] st m = go 88 26 [a0, a1, a2, a3, a4, some (.inl x)] (.inl x :: st) m := e_1 d88_24 (Or.inl rfl) rfl
theorem d88_26 : decode (mt 88).2.1 26 = .ok (.aload_n 0, 1) := by decide +kernel
theorem s88_26 {a1 a2 a3 a4 a5 : Option AV} {st : List AV} {m : MM} {x : Nat × Option Nat} : go 88 26 [some (.inr (.inr x)), a1, a2, a3, a4, a5] st m = go 88 27 [some (.inr (.inr x)), a1, a2, a3, a4, a5] (.inr (.inr x) :: st) m := e_1 d88_26 (Or.inl rfl) rfl
theorem d88_27 : decode (mt 88).2.1 27 = .ok (.getfield 52, 3) := by decide +kernel
theorem s88_27 {ls : LV} {st : List AV} {m : MM} {n : Nat} : go 88 27 ls (.inr (.inr (7, some n)) :: st) m = go 88 30 ls (.inl (mI m 7 n 1) :: st) m := e_1 d88_27 (Or.inl rfl) (by rw [xi, pA, show lk fdL (mt 88).2.2.1 52 = some (7, 1) by decide +kernel]; rfl)
theorem d88_30 : decode (mt 88).2.1 30 = .ok (.if_icmp .ge 46, 3) := by decide +kernel
theorem s88_30 {ls : LV} {st : List AV} {m : MM} {a b : Int32} : go 88 30 ls (.inl b :: .inl a :: st) m = if b ≤ a then go 88 76 ls st m else go 88 33 ls st m := e_if (t := 76) (b := hc .ge a b) d88_30 (Or.inl rfl) (by simp only [xi, pI, jm_some (t := 76) (show ((30 : Nat) : Int) + 46 = ((76 : Nat) : Int) by decide), Option.bind_some]) (by simp [hc])
theorem d88_33 : decode (mt 88).2.1 33 = .ok (.aload_n 0, 1) := by decide +kernel
theorem s88_33 {a1 a2 a3 a4 a5 : Option AV} {st : List AV} {m : MM} {x : Nat × Option Nat} : go 88 33 [some (.inr (.inr x)), a1, a2, a3, a4, a5] st m = go 88 34 [some (.inr (.inr x)), a1, a2, a3, a4, a5] (.inr (.inr x) :: st) m := e_1 d88_33 (Or.inl rfl) rfl
theorem d88_34 : decode (mt 88).2.1 34 = .ok (.getfield 11, 3) := by decide +kernel
theorem s88_34 {ls : LV} {st : List AV} {m : MM} {n : Nat} : go 88 34 ls (.inr (.inr (7, some n)) :: st) m = go 88 37 ls (.inr (.inr (16, mR m 7 n 0)) :: st) m := e_1 d88_34 (Or.inl rfl) (by rw [xi, pA, show lk fdL (mt 88).2.2.1 11 = some (7, 0) by decide +kernel]; rfl)
theorem d88_37 : decode (mt 88).2.1 37 = .ok (.iload 5, 2) := by decide +kernel
theorem s88_37 {a0 a1 a2 a3 a4 : Option AV} {st : List AV} {m : MM} {x : Int32} : go 88 37 [a0, a1, a2, a3, a4, some (.inl x)] st m = go 88 39 [a0, a1, a2, a3, a4, some (.inl x)] (.inl x :: st) m := e_1 d88_37 (Or.inl rfl) rfl
theorem d88_39 : decode (mt 88).2.1 39 = .ok (.aaload, 1) := by decide +kernel
theorem s88_39 {ls : LV} {st : List AV} {m : MM} {n : Nat} {i : Int32} : go 88 39 ls (.inl i :: .inr (.inr (16, some n)) :: st) m = ixk (ix i (mN m 16 n)) (fun j => go 88 40 ls (.inr (.inr (6, mR m 16 n j)) :: st) m) := e_ald d88_39 (fun j hj => by simp only [xi, pI, pA, hj, Option.bind_some]; rfl) (fun hj => by simp only [xi, pI, pA, hj, Option.bind_none])
theorem d88_40 : decode (mt 88).2.1 40 = .ok (.aload 4, 2) := by decide +kernel
theorem s88_40 {a0 a1 a2 a3 a5 : Option AV} {st : List AV} {m : MM} {x : Nat × Option Nat} : go 88 40 [a0, a1, a2, a3, some (.inr (.inr x)), a5] st m = go 88 42 [a0, a1, a2, a3, some (.inr (.inr x)), a5] (.inr (.inr x) :: st) m := e_1 d88_40 (Or.inl rfl) rfl
theorem d88_42 : decode (mt 88).2.1 42 = .ok (.iload_n 2, 1) := by decide +kernel
theorem s88_42 {a0 a1 a3 a4 a5 : Option AV} {st : List AV} {m : MM} {x : Int32} : go 88 42 [a0, a1, some (.inl x), a3, a4, a5] st m = go 88 43 [a0, a1, some (.inl x), a3, a4, a5] (.inl x :: st) m := e_1 d88_42 (Or.inl rfl) rfl
theorem d88_43 : decode (mt 88).2.1 43 = .ok (.invokestatic 376, 3) := by decide +kernel
theorem s88_43 {ls : LV} {m : MM} {x0 : Nat × Option Nat} {x1 : Nat × Option Nat} {x2 : Int32} : go 88 43 ls [.inl x2, .inr (.inr x1), .inr (.inr x0)] m = bd (go 96 0 [some (.inr (.inr x0)), some (.inr (.inr x1)), some (.inl x2)] [] m) (fun v m2 => go 88 46 ls (v.toList ++ []) m2) := e_stat (y1 := 96) (na := 3) (as := [.inr (.inr x0), .inr (.inr x1), .inl x2]) (rest := []) d88_43 (by decide +kernel) rfl (by decide +kernel) (show (ent [.inr (.inr x0), .inr (.inr x1), .inl x2]).length ≤ (mt 96).2.2.2.1 from Nat.le_of_ble_eq_true rfl) (cats_le (Nat.le_of_ble_eq_true rfl)) (by decide +kernel)
theorem d88_46 : decode (mt 88).2.1 46 = .ok (.ifCond .eq 24, 3) := by decide +kernel
theorem s88_46 {ls : LV} {st : List AV} {m : MM} {a : Int32} : go 88 46 ls (.inl a :: st) m = if a = 0 then go 88 70 ls st m else go 88 49 ls st m := e_if (t := 70) (b := hc .eq a 0) d88_46 (Or.inl rfl) (by simp only [xi, pI, jm_some (t := 70) (show ((46 : Nat) : Int) + 24 = ((70 : Nat) : Int) by decide), Option.bind_some]) (by simp [hc])
theorem d88_49 : decode (mt 88).2.1 49 = .ok (.aload_n 0, 1) := by decide +kernel
theorem s88_49 {a1 a2 a3 a4 a5 : Option AV} {st : List AV} {m : MM} {x : Nat × Option Nat} : go 88 49 [some (.inr (.inr x)), a1, a2, a3, a4, a5] st m = go 88 50 [some (.inr (.inr x)), a1, a2, a3, a4, a5] (.inr (.inr x) :: st) m := e_1 d88_49 (Or.inl rfl) rfl
theorem d88_50 : decode (mt 88).2.1 50 = .ok (.aload_n 0, 1) := by decide +kernel
theorem s88_50 {a1 a2 a3 a4 a5 : Option AV} {st : List AV} {m : MM} {x : Nat × Option Nat} : go 88 50 [some (.inr (.inr x)), a1, a2, a3, a4, a5] st m = go 88 51 [some (.inr (.inr x)), a1, a2, a3, a4, a5] (.inr (.inr x) :: st) m := e_1 d88_50 (Or.inl rfl) rfl
theorem d88_51 : decode (mt 88).2.1 51 = .ok (.getfield 11, 3) := by decide +kernel
theorem s88_51 {ls : LV} {st : List AV} {m : MM} {n : Nat} : go 88 51 ls (.inr (.inr (7, some n)) :: st) m = go 88 54 ls (.inr (.inr (16, mR m 7 n 0)) :: st) m := e_1 d88_51 (Or.inl rfl) (by rw [xi, pA, show lk fdL (mt 88).2.2.1 11 = some (7, 0) by decide +kernel]; rfl)
theorem d88_54 : decode (mt 88).2.1 54 = .ok (.iload 5, 2) := by decide +kernel
theorem s88_54 {a0 a1 a2 a3 a4 : Option AV} {st : List AV} {m : MM} {x : Int32} : go 88 54 [a0, a1, a2, a3, a4, some (.inl x)] st m = go 88 56 [a0, a1, a2, a3, a4, some (.inl x)] (.inl x :: st) m := e_1 d88_54 (Or.inl rfl) rfl
theorem d88_56 : decode (mt 88).2.1 56 = .ok (.aaload, 1) := by decide +kernel
theorem s88_56 {ls : LV} {st : List AV} {m : MM} {n : Nat} {i : Int32} : go 88 56 ls (.inl i :: .inr (.inr (16, some n)) :: st) m = ixk (ix i (mN m 16 n)) (fun j => go 88 57 ls (.inr (.inr (6, mR m 16 n j)) :: st) m) := e_ald d88_56 (fun j hj => by simp only [xi, pI, pA, hj, Option.bind_some]; rfl) (fun hj => by simp only [xi, pI, pA, hj, Option.bind_none])
theorem d88_57 : decode (mt 88).2.1 57 = .ok (.aload 4, 2) := by decide +kernel
theorem s88_57 {a0 a1 a2 a3 a5 : Option AV} {st : List AV} {m : MM} {x : Nat × Option Nat} : go 88 57 [a0, a1, a2, a3, some (.inr (.inr x)), a5] st m = go 88 59 [a0, a1, a2, a3, some (.inr (.inr x)), a5] (.inr (.inr x) :: st) m := e_1 d88_57 (Or.inl rfl) rfl
theorem d88_59 : decode (mt 88).2.1 59 = .ok (.iload_n 2, 1) := by decide +kernel
theorem s88_59 {a0 a1 a3 a4 a5 : Option AV} {st : List AV} {m : MM} {x : Int32} : go 88 59 [a0, a1, some (.inl x), a3, a4, a5] st m = go 88 60 [a0, a1, some (.inl x), a3, a4, a5] (.inl x :: st) m := e_1 d88_59 (Or.inl rfl) rfl
theorem d88_60 : decode (mt 88).2.1 60 = .ok (.invokevirtual 380, 3) := by decide +kernel
theorem s88_60 {ls : LV} {m : MM} {x0 : Nat × Option Nat} {x1 : Nat × Option Nat} {x2 : Int32} {n : Nat} : go 88 60 ls [.inl x2, .inr (.inr x1), .inr (.inr x0), .inr (.inr (7, some n))] m = bd (go 97 0 [some (.inr (.inr (7, some n))), some (.inr (.inr x0)), some (.inr (.inr x1)), some (.inl x2), none, none] [] m) (fun v m2 => go 88 63 ls (v.toList ++ []) m2) := e_virt (y1 := 97) (na := 3) (as := [.inr (.inr x0), .inr (.inr x1), .inl x2]) (rest := []) d88_60 (by decide +kernel) rfl (by decide +kernel) (show (ent [.inr (.inr (7, some n)), .inr (.inr x0), .inr (.inr x1), .inl x2]).length ≤ (mt 97).2.2.2.1 from Nat.le_of_ble_eq_true rfl) (cats_le (Nat.le_of_ble_eq_true rfl)) (by decide +kernel)
theorem d88_63 : decode (mt 88).2.1 63 = .ok (.iload_n 3, 1) := by decide +kernel
theorem s88_63 {a0 a1 a2 a4 a5 : Option AV} {st : List AV} {m : MM} {x : Int32} : go 88 63 [a0, a1, a2, some (.inl x), a4, a5] st m = go 88 64 [a0, a1, a2, some (.inl x), a4, a5] (.inl x :: st) m := e_1 d88_63 (Or.inl rfl) rfl
theorem d88_64 : decode (mt 88).2.1 64 = .ok (.if_icmp .ne 6, 3) := by decide +kernel
theorem s88_64 {ls : LV} {st : List AV} {m : MM} {a b : Int32} : go 88 64 ls (.inl b :: .inl a :: st) m = if ¬ a = b then go 88 70 ls st m else go 88 67 ls st m := e_if (t := 70) (b := hc .ne a b) d88_64 (Or.inl rfl) (by simp only [xi, pI, jm_some (t := 70) (show ((64 : Nat) : Int) + 6 = ((70 : Nat) : Int) by decide), Option.bind_some]) (by simp [hc])
theorem d88_67 : decode (mt 88).2.1 67 = .ok (.iload 5, 2) := by decide +kernel
theorem s88_67 {a0 a1 a2 a3 a4 : Option AV} {st : List AV} {m : MM} {x : Int32} : go 88 67 [a0, a1, a2, a3, a4, some (.inl x)] st m = go 88 69 [a0, a1, a2, a3, a4, some (.inl x)] (.inl x :: st) m := e_1 d88_67 (Or.inl rfl) rfl
theorem d88_69 : decode (mt 88).2.1 69 = .ok (.ireturn, 1) := by decide +kernel
theorem s88_69 {ls : LV} {m : MM} {x : Int32} : go 88 69 ls [.inl x] m = some (some (.inl x), m) := e_int d88_69 (by decide +kernel)
theorem d88_70 : decode (mt 88).2.1 70 = .ok (.iinc 5 1, 3) := by decide +kernel
theorem s88_70i {a0 a1 a2 a3 : Option AV} {z : Int32} {st : List AV} {m : MM} {x : Int32} : go 88 70 [a0, a1, a2, a3, some (.inl z), some (.inl x)] st m = go 88 73 [a0, a1, a2, a3, some (.inl z), some (.inl (x + 1))] st m := e_1 d88_70 (Or.inl rfl) rfl
theorem s88_70r {a0 a1 a2 a3 : Option AV} {z : Nat × Option Nat} {st : List AV} {m : MM} {x : Int32} : go 88 70 [a0, a1, a2, a3, some (.inr (.inr z)), some (.inl x)] st m = go 88 73 [a0, a1, a2, a3, some (.inr (.inr z)), some (.inl (x + 1))] st m := e_1 d88_70 (Or.inl rfl) rfl
theorem s88_70n {a0 a1 a2 a3 : Option AV} {st : List AV} {m : MM} {x : Int32} : go 88 70 [a0, a1, a2, a3, none, some (.inl x)] st m = go 88 73 [a0, a1, a2, a3, none, some (.inl (x + 1))] st m := e_1 d88_70 (Or.inl rfl) rfl
theorem d88_73 : decode (mt 88).2.1 73 = .ok (.goto (-49), 3) := by decide +kernel
theorem s88_73 {ls : LV} {st : List AV} {m : MM} : go 88 73 ls st m = go 88 24 ls st m := e_1 d88_73 (Or.inl rfl) (by rw [xi, jm_some (t := 24) (by decide)]; rfl)
theorem d88_76 : decode (mt 88).2.1 76 = .ok (.bipush (-4), 2) := by decide +kernel
theorem s88_76 {ls : LV} {st : List AV} {m : MM} : go 88 76 ls st m = go 88 78 ls (.inl (-4) :: st) m := e_1 d88_76 (Or.inl rfl) rfl
theorem d88_78 : decode (mt 88).2.1 78 = .ok (.ireturn, 1) := by decide +kernel
theorem s88_78 {ls : LV} {m : MM} {x : Int32} : go 88 78 ls [.inl x] m = some (some (.inl x), m) := e_int d88_78 (by decide +kernel)
/-! X6_sound: 89 -/
theorem d89_0 : decode (mt 89).2.1 0 = .ok (.aload_n 0, 1) := by decide +kernel
theorem s89_0 {st : List AV} {m : MM} {x : Nat × Option Nat} : go 89 0 [some (.inr (.inr x))] st m = go 89 1 [some (.inr (.inr x))] (.inr (.inr x) :: st) m := e_1 d89_0 (Or.inl rfl) rfl
theorem d89_1 : decode (mt 89).2.1 1 = .ok (.iconst 0, 1) := by decide +kernel
theorem s89_1 {ls : LV} {st : List AV} {m : MM} : go 89 1 ls st m = go 89 2 ls (.inl 0 :: st) m := e_1 d89_1 (Or.inl rfl) rfl
theorem d89_2 : decode (mt 89).2.1 2 = .ok (.invokevirtual 384, 3) := by decide +kernel
theorem s89_2 {ls : LV} {m : MM} {x0 : Int32} {n : Nat} : go 89 2 ls [.inl x0, .inr (.inr (7, some n))] m = bd (go 90 0 [some (.inr (.inr (7, some n))), some (.inl x0), none, none, none] [] m) (fun v m2 => go 89 5 ls (v.toList ++ []) m2) := e_virt (y1 := 90) (na := 1) (as := [.inl x0]) (rest := []) d89_2 (by decide +kernel) rfl (by decide +kernel) (show (ent [.inr (.inr (7, some n)), .inl x0]).length ≤ (mt 90).2.2.2.1 from Nat.le_of_ble_eq_true rfl) (cats_le (Nat.le_of_ble_eq_true rfl)) (by decide +kernel)
theorem d89_5 : decode (mt 89).2.1 5 = .ok (.bipush (-4), 2) := by decide +kernel
theorem s89_5 {ls : LV} {st : List AV} {m : MM} : go 89 5 ls st m = go 89 7 ls (.inl (-4) :: st) m := e_1 d89_5 (Or.inl rfl) rfl
theorem d89_7 : decode (mt 89).2.1 7 = .ok (.if_icmp .ne 7, 3) := by decide +kernel
theorem s89_7 {ls : LV} {st : List AV} {m : MM} {a b : Int32} : go 89 7 ls (.inl b :: .inl a :: st) m = if ¬ a = b then go 89 14 ls st m else go 89 10 ls st m := e_if (t := 14) (b := hc .ne a b) d89_7 (Or.inl rfl) (by simp only [xi, pI, jm_some (t := 14) (show ((7 : Nat) : Int) + 7 = ((14 : Nat) : Int) by decide), Option.bind_some]) (by simp [hc])
theorem d89_10 : decode (mt 89).2.1 10 = .ok (.iconst 1, 1) := by decide +kernel
theorem s89_10 {ls : LV} {st : List AV} {m : MM} : go 89 10 ls st m = go 89 11 ls (.inl 1 :: st) m := e_1 d89_10 (Or.inl rfl) rfl
theorem d89_11 : decode (mt 89).2.1 11 = .ok (.goto 4, 3) := by decide +kernel
theorem s89_11 {ls : LV} {st : List AV} {m : MM} : go 89 11 ls st m = go 89 15 ls st m := e_1 d89_11 (Or.inl rfl) (by rw [xi, jm_some (t := 15) (by decide)]; rfl)
theorem d89_14 : decode (mt 89).2.1 14 = .ok (.iconst 0, 1) := by decide +kernel
theorem s89_14 {ls : LV} {st : List AV} {m : MM} : go 89 14 ls st m = go 89 15 ls (.inl 0 :: st) m := e_1 d89_14 (Or.inl rfl) rfl
theorem d89_15 : decode (mt 89).2.1 15 = .ok (.ireturn, 1) := by decide +kernel
theorem s89_15 {ls : LV} {m : MM} {x : Int32} : go 89 15 ls [.inl x] m = some (some (.inl x), m) := e_int d89_15 (by decide +kernel)
/-! X6_why: 90 -/
theorem d90_0 : decode (mt 90).2.1 0 = .ok (.iload_n 1, 1) := by decide +kernel
theorem s90_0 {a0 a2 a3 a4 : Option AV} {st : List AV} {m : MM} {x : Int32} : go 90 0 [a0, some (.inl x), a2, a3, a4] st m = go 90 1 [a0, some (.inl x), a2, a3, a4] (.inl x :: st) m := e_1 d90_0 (Or.inl rfl) rfl
theorem d90_1 : decode (mt 90).2.1 1 = .ok (.ifCond .lt 8, 3) := by decide +kernel
theorem s90_1 {ls : LV} {st : List AV} {m : MM} {a : Int32} : go 90 1 ls (.inl a :: st) m = if a < 0 then go 90 9 ls st m else go 90 4 ls st m := e_if (t := 9) (b := hc .lt a 0) d90_1 (Or.inl rfl) (by simp only [xi, pI, jm_some (t := 9) (show ((1 : Nat) : Int) + 8 = ((9 : Nat) : Int) by decide), Option.bind_some]) (by simp [hc])
theorem d90_4 : decode (mt 90).2.1 4 = .ok (.iload_n 1, 1) := by decide +kernel
theorem s90_4 {a0 a2 a3 a4 : Option AV} {st : List AV} {m : MM} {x : Int32} : go 90 4 [a0, some (.inl x), a2, a3, a4] st m = go 90 5 [a0, some (.inl x), a2, a3, a4] (.inl x :: st) m := e_1 d90_4 (Or.inl rfl) rfl
theorem d90_5 : decode (mt 90).2.1 5 = .ok (.iconst 2, 1) := by decide +kernel
theorem s90_5 {ls : LV} {st : List AV} {m : MM} : go 90 5 ls st m = go 90 6 ls (.inl 2 :: st) m := e_1 d90_5 (Or.inl rfl) rfl
theorem d90_6 : decode (mt 90).2.1 6 = .ok (.if_icmp .le 5, 3) := by decide +kernel
theorem s90_6 {ls : LV} {st : List AV} {m : MM} {a b : Int32} : go 90 6 ls (.inl b :: .inl a :: st) m = if a ≤ b then go 90 11 ls st m else go 90 9 ls st m := e_if (t := 11) (b := hc .le a b) d90_6 (Or.inl rfl) (by simp only [xi, pI, jm_some (t := 11) (show ((6 : Nat) : Int) + 5 = ((11 : Nat) : Int) by decide), Option.bind_some]) (by simp [hc])
theorem d90_9 : decode (mt 90).2.1 9 = .ok (.iconst (-1), 1) := by decide +kernel
theorem s90_9 {ls : LV} {st : List AV} {m : MM} : go 90 9 ls st m = go 90 10 ls (.inl (-1) :: st) m := e_1 d90_9 (Or.inl rfl) rfl
theorem d90_10 : decode (mt 90).2.1 10 = .ok (.ireturn, 1) := by decide +kernel
theorem s90_10 {ls : LV} {m : MM} {x : Int32} : go 90 10 ls [.inl x] m = some (some (.inl x), m) := e_int d90_10 (by decide +kernel)
theorem d90_11 : decode (mt 90).2.1 11 = .ok (.iconst 0, 1) := by decide +kernel
theorem s90_11 {ls : LV} {st : List AV} {m : MM} : go 90 11 ls st m = go 90 12 ls (.inl 0 :: st) m := e_1 d90_11 (Or.inl rfl) rfl
theorem d90_12 : decode (mt 90).2.1 12 = .ok (.istore_n 2, 1) := by decide +kernel
theorem s90_12i {a0 a2 a3 a4 : Option AV} {z : Int32} {st : List AV} {m : MM} {x : Int32} : go 90 12 [a0, some (.inl z), a2, a3, a4] (.inl x :: st) m = go 90 13 [a0, some (.inl z), some (.inl x), a3, a4] st m := e_1 d90_12 (Or.inl rfl) rfl
theorem s90_12r {a0 a2 a3 a4 : Option AV} {z : Nat × Option Nat} {st : List AV} {m : MM} {x : Int32} : go 90 12 [a0, some (.inr (.inr z)), a2, a3, a4] (.inl x :: st) m = go 90 13 [a0, some (.inr (.inr z)), some (.inl x), a3, a4] st m := e_1 d90_12 (Or.inl rfl) rfl
theorem s90_12n {a0 a2 a3 a4 : Option AV} {st : List AV} {m : MM} {x : Int32} : go 90 12 [a0, none, a2, a3, a4] (.inl x :: st) m = go 90 13 [a0, none, some (.inl x), a3, a4] st m := e_1 d90_12 (Or.inl rfl) rfl
theorem d90_13 : decode (mt 90).2.1 13 = .ok (.iload_n 2, 1) := by decide +kernel
theorem s90_13 {a0 a1 a3 a4 : Option AV} {st : List AV} {m : MM} {x : Int32} : go 90 13 [a0, a1, some (.inl x), a3, a4] st m = go 90 14 [a0, a1, some (.inl x), a3, a4] (.inl x :: st) m := e_1 d90_13 (Or.inl rfl) rfl
theorem d90_14 : decode (mt 90).2.1 14 = .ok (.aload_n 0, 1) := by decide +kernel
theorem s90_14 {a1 a2 a3 a4 : Option AV} {st : List AV} {m : MM} {x : Nat × Option Nat} : go 90 14 [some (.inr (.inr x)), a1, a2, a3, a4] st m = go 90 15 [some (.inr (.inr x)), a1, a2, a3, a4] (.inr (.inr x) :: st) m := e_1 d90_14 (Or.inl rfl) rfl
theorem d90_15 : decode (mt 90).2.1 15 = .ok (.getfield 52, 3) := by decide +kernel
theorem s90_15 {ls : LV} {st : List AV} {m : MM} {n : Nat} : go 90 15 ls (.inr (.inr (7, some n)) :: st) m = go 90 18 ls (.inl (mI m 7 n 1) :: st) m := e_1 d90_15 (Or.inl rfl) (by rw [xi, pA, show lk fdL (mt 90).2.2.1 52 = some (7, 1) by decide +kernel]; rfl)
theorem d90_18 : decode (mt 90).2.1 18 = .ok (.if_icmp .ge 81, 3) := by decide +kernel
theorem s90_18 {ls : LV} {st : List AV} {m : MM} {a b : Int32} : go 90 18 ls (.inl b :: .inl a :: st) m = if b ≤ a then go 90 99 ls st m else go 90 21 ls st m := e_if (t := 99) (b := hc .ge a b) d90_18 (Or.inl rfl) (by simp only [xi, pI, jm_some (t := 99) (show ((18 : Nat) : Int) + 81 = ((99 : Nat) : Int) by decide), Option.bind_some]) (by simp [hc])
theorem d90_21 : decode (mt 90).2.1 21 = .ok (.iconst 0, 1) := by decide +kernel
theorem s90_21 {ls : LV} {st : List AV} {m : MM} : go 90 21 ls st m = go 90 22 ls (.inl 0 :: st) m := e_1 d90_21 (Or.inl rfl) rfl
theorem d90_22 : decode (mt 90).2.1 22 = .ok (.istore_n 3, 1) := by decide +kernel
theorem s90_22i {a0 a1 a3 a4 : Option AV} {z : Int32} {st : List AV} {m : MM} {x : Int32} : go 90 22 [a0, a1, some (.inl z), a3, a4] (.inl x :: st) m = go 90 23 [a0, a1, some (.inl z), some (.inl x), a4] st m := e_1 d90_22 (Or.inl rfl) rfl
theorem s90_22r {a0 a1 a3 a4 : Option AV} {z : Nat × Option Nat} {st : List AV} {m : MM} {x : Int32} : go 90 22 [a0, a1, some (.inr (.inr z)), a3, a4] (.inl x :: st) m = go 90 23 [a0, a1, some (.inr (.inr z)), some (.inl x), a4] st m := e_1 d90_22 (Or.inl rfl) rfl
theorem s90_22n {a0 a1 a3 a4 : Option AV} {st : List AV} {m : MM} {x : Int32} : go 90 22 [a0, a1, none, a3, a4] (.inl x :: st) m = go 90 23 [a0, a1, none, some (.inl x), a4] st m := e_1 d90_22 (Or.inl rfl) rfl
theorem d90_23 : decode (mt 90).2.1 23 = .ok (.iload_n 3, 1) := by decide +kernel
theorem s90_23 {a0 a1 a2 a4 : Option AV} {st : List AV} {m : MM} {x : Int32} : go 90 23 [a0, a1, a2, some (.inl x), a4] st m = go 90 24 [a0, a1, a2, some (.inl x), a4] (.inl x :: st) m := e_1 d90_23 (Or.inl rfl) rfl
theorem d90_24 : decode (mt 90).2.1 24 = .ok (.bipush 9, 2) := by decide +kernel
theorem s90_24 {ls : LV} {st : List AV} {m : MM} : go 90 24 ls st m = go 90 26 ls (.inl 9 :: st) m := e_1 d90_24 (Or.inl rfl) rfl
theorem d90_26 : decode (mt 90).2.1 26 = .ok (.if_icmp .ge 67, 3) := by decide +kernel
theorem s90_26 {ls : LV} {st : List AV} {m : MM} {a b : Int32} : go 90 26 ls (.inl b :: .inl a :: st) m = if b ≤ a then go 90 93 ls st m else go 90 29 ls st m := e_if (t := 93) (b := hc .ge a b) d90_26 (Or.inl rfl) (by simp only [xi, pI, jm_some (t := 93) (show ((26 : Nat) : Int) + 67 = ((93 : Nat) : Int) by decide), Option.bind_some]) (by simp [hc])
theorem d90_29 : decode (mt 90).2.1 29 = .ok (.aload_n 0, 1) := by decide +kernel
theorem s90_29 {a1 a2 a3 a4 : Option AV} {st : List AV} {m : MM} {x : Nat × Option Nat} : go 90 29 [some (.inr (.inr x)), a1, a2, a3, a4] st m = go 90 30 [some (.inr (.inr x)), a1, a2, a3, a4] (.inr (.inr x) :: st) m := e_1 d90_29 (Or.inl rfl) rfl
theorem d90_30 : decode (mt 90).2.1 30 = .ok (.getfield 11, 3) := by decide +kernel
theorem s90_30 {ls : LV} {st : List AV} {m : MM} {n : Nat} : go 90 30 ls (.inr (.inr (7, some n)) :: st) m = go 90 33 ls (.inr (.inr (16, mR m 7 n 0)) :: st) m := e_1 d90_30 (Or.inl rfl) (by rw [xi, pA, show lk fdL (mt 90).2.2.1 11 = some (7, 0) by decide +kernel]; rfl)
theorem d90_33 : decode (mt 90).2.1 33 = .ok (.iload_n 2, 1) := by decide +kernel
theorem s90_33 {a0 a1 a3 a4 : Option AV} {st : List AV} {m : MM} {x : Int32} : go 90 33 [a0, a1, some (.inl x), a3, a4] st m = go 90 34 [a0, a1, some (.inl x), a3, a4] (.inl x :: st) m := e_1 d90_33 (Or.inl rfl) rfl
theorem d90_34 : decode (mt 90).2.1 34 = .ok (.aaload, 1) := by decide +kernel
theorem s90_34 {ls : LV} {st : List AV} {m : MM} {n : Nat} {i : Int32} : go 90 34 ls (.inl i :: .inr (.inr (16, some n)) :: st) m = ixk (ix i (mN m 16 n)) (fun j => go 90 35 ls (.inr (.inr (6, mR m 16 n j)) :: st) m) := e_ald d90_34 (fun j hj => by simp only [xi, pI, pA, hj, Option.bind_some]; rfl) (fun hj => by simp only [xi, pI, pA, hj, Option.bind_none])
theorem d90_35 : decode (mt 90).2.1 35 = .ok (.getfield 61, 3) := by decide +kernel
theorem s90_35 {ls : LV} {st : List AV} {m : MM} {n : Nat} : go 90 35 ls (.inr (.inr (6, some n)) :: st) m = go 90 38 ls (.inl (mI m 6 n 3) :: st) m := e_1 d90_35 (Or.inl rfl) (by rw [xi, pA, show lk fdL (mt 90).2.2.1 61 = some (6, 3) by decide +kernel]; rfl)
theorem d90_38 : decode (mt 90).2.1 38 = .ok (.iconst 2, 1) := by decide +kernel
theorem s90_38 {ls : LV} {st : List AV} {m : MM} : go 90 38 ls st m = go 90 39 ls (.inl 2 :: st) m := e_1 d90_38 (Or.inl rfl) rfl
theorem d90_39 : decode (mt 90).2.1 39 = .ok (.if_icmp .ne 17, 3) := by decide +kernel
theorem s90_39 {ls : LV} {st : List AV} {m : MM} {a b : Int32} : go 90 39 ls (.inl b :: .inl a :: st) m = if ¬ a = b then go 90 56 ls st m else go 90 42 ls st m := e_if (t := 56) (b := hc .ne a b) d90_39 (Or.inl rfl) (by simp only [xi, pI, jm_some (t := 56) (show ((39 : Nat) : Int) + 17 = ((56 : Nat) : Int) by decide), Option.bind_some]) (by simp [hc])
theorem d90_42 : decode (mt 90).2.1 42 = .ok (.aload_n 0, 1) := by decide +kernel
theorem s90_42 {a1 a2 a3 a4 : Option AV} {st : List AV} {m : MM} {x : Nat × Option Nat} : go 90 42 [some (.inr (.inr x)), a1, a2, a3, a4] st m = go 90 43 [some (.inr (.inr x)), a1, a2, a3, a4] (.inr (.inr x) :: st) m := e_1 d90_42 (Or.inl rfl) rfl
theorem d90_43 : decode (mt 90).2.1 43 = .ok (.aload_n 0, 1) := by decide +kernel
theorem s90_43 {a1 a2 a3 a4 : Option AV} {st : List AV} {m : MM} {x : Nat × Option Nat} : go 90 43 [some (.inr (.inr x)), a1, a2, a3, a4] st m = go 90 44 [some (.inr (.inr x)), a1, a2, a3, a4] (.inr (.inr x) :: st) m := e_1 d90_43 (Or.inl rfl) rfl
theorem d90_44 : decode (mt 90).2.1 44 = .ok (.getfield 11, 3) := by decide +kernel
theorem s90_44 {ls : LV} {st : List AV} {m : MM} {n : Nat} : go 90 44 ls (.inr (.inr (7, some n)) :: st) m = go 90 47 ls (.inr (.inr (16, mR m 7 n 0)) :: st) m := e_1 d90_44 (Or.inl rfl) (by rw [xi, pA, show lk fdL (mt 90).2.2.1 11 = some (7, 0) by decide +kernel]; rfl)
theorem d90_47 : decode (mt 90).2.1 47 = .ok (.iload_n 2, 1) := by decide +kernel
theorem s90_47 {a0 a1 a3 a4 : Option AV} {st : List AV} {m : MM} {x : Int32} : go 90 47 [a0, a1, some (.inl x), a3, a4] st m = go 90 48 [a0, a1, some (.inl x), a3, a4] (.inl x :: st) m := e_1 d90_47 (Or.inl rfl) rfl
theorem d90_48 : decode (mt 90).2.1 48 = .ok (.aaload, 1) := by decide +kernel
theorem s90_48 {ls : LV} {st : List AV} {m : MM} {n : Nat} {i : Int32} : go 90 48 ls (.inl i :: .inr (.inr (16, some n)) :: st) m = ixk (ix i (mN m 16 n)) (fun j => go 90 49 ls (.inr (.inr (6, mR m 16 n j)) :: st) m) := e_ald d90_48 (fun j hj => by simp only [xi, pI, pA, hj, Option.bind_some]; rfl) (fun hj => by simp only [xi, pI, pA, hj, Option.bind_none])
theorem d90_49 : decode (mt 90).2.1 49 = .ok (.iload_n 3, 1) := by decide +kernel
theorem s90_49 {a0 a1 a2 a4 : Option AV} {st : List AV} {m : MM} {x : Int32} : go 90 49 [a0, a1, a2, some (.inl x), a4] st m = go 90 50 [a0, a1, a2, some (.inl x), a4] (.inl x :: st) m := e_1 d90_49 (Or.inl rfl) rfl
theorem d90_50 : decode (mt 90).2.1 50 = .ok (.invokevirtual 387, 3) := by decide +kernel
theorem s90_50 {ls : LV} {m : MM} {x0 : Nat × Option Nat} {x1 : Int32} {n : Nat} : go 90 50 ls [.inl x1, .inr (.inr x0), .inr (.inr (7, some n))] m = bd (go 100 0 [some (.inr (.inr (7, some n))), some (.inr (.inr x0)), some (.inl x1), none] [] m) (fun v m2 => go 90 53 ls (v.toList ++ []) m2) := e_virt (y1 := 100) (na := 2) (as := [.inr (.inr x0), .inl x1]) (rest := []) d90_50 (by decide +kernel) rfl (by decide +kernel) (show (ent [.inr (.inr (7, some n)), .inr (.inr x0), .inl x1]).length ≤ (mt 100).2.2.2.1 from Nat.le_of_ble_eq_true rfl) (cats_le (Nat.le_of_ble_eq_true rfl)) (by decide +kernel)
theorem d90_53 : decode (mt 90).2.1 53 = .ok (.goto 5, 3) := by decide +kernel
theorem s90_53 {ls : LV} {st : List AV} {m : MM} : go 90 53 ls st m = go 90 58 ls st m := e_1 d90_53 (Or.inl rfl) (by rw [xi, jm_some (t := 58) (by decide)]; rfl)
theorem d90_56 : decode (mt 90).2.1 56 = .ok (.bipush (-4), 2) := by decide +kernel
theorem s90_56 {ls : LV} {st : List AV} {m : MM} : go 90 56 ls st m = go 90 58 ls (.inl (-4) :: st) m := e_1 d90_56 (Or.inl rfl) rfl
theorem d90_58 : decode (mt 90).2.1 58 = .ok (.istore 4, 2) := by decide +kernel
theorem s90_58i {a0 a1 a2 a4 : Option AV} {z : Int32} {st : List AV} {m : MM} {x : Int32} : go 90 58 [a0, a1, a2, some (.inl z), a4] (.inl x :: st) m = go 90 60 [a0, a1, a2, some (.inl z), some (.inl x)] st m := e_1 d90_58 (Or.inl rfl) rfl
theorem s90_58r {a0 a1 a2 a4 : Option AV} {z : Nat × Option Nat} {st : List AV} {m : MM} {x : Int32} : go 90 58 [a0, a1, a2, some (.inr (.inr z)), a4] (.inl x :: st) m = go 90 60 [a0, a1, a2, some (.inr (.inr z)), some (.inl x)] st m := e_1 d90_58 (Or.inl rfl) rfl
theorem s90_58n {a0 a1 a2 a4 : Option AV} {st : List AV} {m : MM} {x : Int32} : go 90 58 [a0, a1, a2, none, a4] (.inl x :: st) m = go 90 60 [a0, a1, a2, none, some (.inl x)] st m := e_1 d90_58 (Or.inl rfl) rfl
theorem d90_60 : decode (mt 90).2.1 60 = .ok (.iload 4, 2) := by decide +kernel
theorem s90_60 {a0 a1 a2 a3 : Option AV} {st : List AV} {m : MM} {x : Int32} : go 90 60 [a0, a1, a2, a3, some (.inl x)] st m = go 90 62 [a0, a1, a2, a3, some (.inl x)] (.inl x :: st) m := e_1 d90_60 (Or.inl rfl) rfl
theorem d90_62 : decode (mt 90).2.1 62 = .ok (.bipush (-4), 2) := by decide +kernel
theorem s90_62 {ls : LV} {st : List AV} {m : MM} : go 90 62 ls st m = go 90 64 ls (.inl (-4) :: st) m := e_1 d90_62 (Or.inl rfl) rfl
theorem d90_64 : decode (mt 90).2.1 64 = .ok (.if_icmp .eq 23, 3) := by decide +kernel
theorem s90_64 {ls : LV} {st : List AV} {m : MM} {a b : Int32} : go 90 64 ls (.inl b :: .inl a :: st) m = if a = b then go 90 87 ls st m else go 90 67 ls st m := e_if (t := 87) (b := hc .eq a b) d90_64 (Or.inl rfl) (by simp only [xi, pI, jm_some (t := 87) (show ((64 : Nat) : Int) + 23 = ((87 : Nat) : Int) by decide), Option.bind_some]) (by simp [hc])
theorem d90_67 : decode (mt 90).2.1 67 = .ok (.iload_n 1, 1) := by decide +kernel
theorem s90_67 {a0 a2 a3 a4 : Option AV} {st : List AV} {m : MM} {x : Int32} : go 90 67 [a0, some (.inl x), a2, a3, a4] st m = go 90 68 [a0, some (.inl x), a2, a3, a4] (.inl x :: st) m := e_1 d90_67 (Or.inl rfl) rfl
theorem d90_68 : decode (mt 90).2.1 68 = .ok (.ifCond .ne 7, 3) := by decide +kernel
theorem s90_68 {ls : LV} {st : List AV} {m : MM} {a : Int32} : go 90 68 ls (.inl a :: st) m = if ¬ a = 0 then go 90 75 ls st m else go 90 71 ls st m := e_if (t := 75) (b := hc .ne a 0) d90_68 (Or.inl rfl) (by simp only [xi, pI, jm_some (t := 75) (show ((68 : Nat) : Int) + 7 = ((75 : Nat) : Int) by decide), Option.bind_some]) (by simp [hc])
theorem d90_71 : decode (mt 90).2.1 71 = .ok (.iload_n 2, 1) := by decide +kernel
theorem s90_71 {a0 a1 a3 a4 : Option AV} {st : List AV} {m : MM} {x : Int32} : go 90 71 [a0, a1, some (.inl x), a3, a4] st m = go 90 72 [a0, a1, some (.inl x), a3, a4] (.inl x :: st) m := e_1 d90_71 (Or.inl rfl) rfl
theorem d90_72 : decode (mt 90).2.1 72 = .ok (.goto 14, 3) := by decide +kernel
theorem s90_72 {ls : LV} {st : List AV} {m : MM} : go 90 72 ls st m = go 90 86 ls st m := e_1 d90_72 (Or.inl rfl) (by rw [xi, jm_some (t := 86) (by decide)]; rfl)
theorem d90_75 : decode (mt 90).2.1 75 = .ok (.iload_n 1, 1) := by decide +kernel
theorem s90_75 {a0 a2 a3 a4 : Option AV} {st : List AV} {m : MM} {x : Int32} : go 90 75 [a0, some (.inl x), a2, a3, a4] st m = go 90 76 [a0, some (.inl x), a2, a3, a4] (.inl x :: st) m := e_1 d90_75 (Or.inl rfl) rfl
theorem d90_76 : decode (mt 90).2.1 76 = .ok (.iconst 1, 1) := by decide +kernel
theorem s90_76 {ls : LV} {st : List AV} {m : MM} : go 90 76 ls st m = go 90 77 ls (.inl 1 :: st) m := e_1 d90_76 (Or.inl rfl) rfl
theorem d90_77 : decode (mt 90).2.1 77 = .ok (.if_icmp .ne 7, 3) := by decide +kernel
theorem s90_77 {ls : LV} {st : List AV} {m : MM} {a b : Int32} : go 90 77 ls (.inl b :: .inl a :: st) m = if ¬ a = b then go 90 84 ls st m else go 90 80 ls st m := e_if (t := 84) (b := hc .ne a b) d90_77 (Or.inl rfl) (by simp only [xi, pI, jm_some (t := 84) (show ((77 : Nat) : Int) + 7 = ((84 : Nat) : Int) by decide), Option.bind_some]) (by simp [hc])
theorem d90_80 : decode (mt 90).2.1 80 = .ok (.iload_n 3, 1) := by decide +kernel
theorem s90_80 {a0 a1 a2 a4 : Option AV} {st : List AV} {m : MM} {x : Int32} : go 90 80 [a0, a1, a2, some (.inl x), a4] st m = go 90 81 [a0, a1, a2, some (.inl x), a4] (.inl x :: st) m := e_1 d90_80 (Or.inl rfl) rfl
theorem d90_81 : decode (mt 90).2.1 81 = .ok (.goto 5, 3) := by decide +kernel
theorem s90_81 {ls : LV} {st : List AV} {m : MM} : go 90 81 ls st m = go 90 86 ls st m := e_1 d90_81 (Or.inl rfl) (by rw [xi, jm_some (t := 86) (by decide)]; rfl)
theorem d90_84 : decode (mt 90).2.1 84 = .ok (.iload 4, 2) := by decide +kernel
theorem s90_84 {a0 a1 a2 a3 : Option AV} {st : List AV} {m : MM} {x : Int32} : go 90 84 [a0, a1, a2, a3, some (.inl x)] st m = go 90 86 [a0, a1, a2, a3, some (.inl x)] (.inl x :: st) m := e_1 d90_84 (Or.inl rfl) rfl
theorem d90_86 : decode (mt 90).2.1 86 = .ok (.ireturn, 1) := by decide +kernel
theorem s90_86 {ls : LV} {m : MM} {x : Int32} : go 90 86 ls [.inl x] m = some (some (.inl x), m) := e_int d90_86 (by decide +kernel)
theorem d90_87 : decode (mt 90).2.1 87 = .ok (.iinc 3 1, 3) := by decide +kernel
theorem s90_87i {a0 a1 a4 : Option AV} {z : Int32} {st : List AV} {m : MM} {x : Int32} : go 90 87 [a0, a1, some (.inl z), some (.inl x), a4] st m = go 90 90 [a0, a1, some (.inl z), some (.inl (x + 1)), a4] st m := e_1 d90_87 (Or.inl rfl) rfl
theorem s90_87r {a0 a1 a4 : Option AV} {z : Nat × Option Nat} {st : List AV} {m : MM} {x : Int32} : go 90 87 [a0, a1, some (.inr (.inr z)), some (.inl x), a4] st m = go 90 90 [a0, a1, some (.inr (.inr z)), some (.inl (x + 1)), a4] st m := e_1 d90_87 (Or.inl rfl) rfl
theorem s90_87n {a0 a1 a4 : Option AV} {st : List AV} {m : MM} {x : Int32} : go 90 87 [a0, a1, none, some (.inl x), a4] st m = go 90 90 [a0, a1, none, some (.inl (x + 1)), a4] st m := e_1 d90_87 (Or.inl rfl) rfl
theorem d90_90 : decode (mt 90).2.1 90 = .ok (.goto (-67), 3) := by decide +kernel
theorem s90_90 {ls : LV} {st : List AV} {m : MM} : go 90 90 ls st m = go 90 23 ls st m := e_1 d90_90 (Or.inl rfl) (by rw [xi, jm_some (t := 23) (by decide)]; rfl)
theorem d90_93 : decode (mt 90).2.1 93 = .ok (.iinc 2 1, 3) := by decide +kernel
theorem s90_93i {a0 a3 a4 : Option AV} {z : Int32} {st : List AV} {m : MM} {x : Int32} : go 90 93 [a0, some (.inl z), some (.inl x), a3, a4] st m = go 90 96 [a0, some (.inl z), some (.inl (x + 1)), a3, a4] st m := e_1 d90_93 (Or.inl rfl) rfl
theorem s90_93r {a0 a3 a4 : Option AV} {z : Nat × Option Nat} {st : List AV} {m : MM} {x : Int32} : go 90 93 [a0, some (.inr (.inr z)), some (.inl x), a3, a4] st m = go 90 96 [a0, some (.inr (.inr z)), some (.inl (x + 1)), a3, a4] st m := e_1 d90_93 (Or.inl rfl) rfl
theorem s90_93n {a0 a3 a4 : Option AV} {st : List AV} {m : MM} {x : Int32} : go 90 93 [a0, none, some (.inl x), a3, a4] st m = go 90 96 [a0, none, some (.inl (x + 1)), a3, a4] st m := e_1 d90_93 (Or.inl rfl) rfl
theorem d90_96 : decode (mt 90).2.1 96 = .ok (.goto (-83), 3) := by decide +kernel
theorem s90_96 {ls : LV} {st : List AV} {m : MM} : go 90 96 ls st m = go 90 13 ls st m := e_1 d90_96 (Or.inl rfl) (by rw [xi, jm_some (t := 13) (by decide)]; rfl)
theorem d90_99 : decode (mt 90).2.1 99 = .ok (.bipush (-4), 2) := by decide +kernel
theorem s90_99 {ls : LV} {st : List AV} {m : MM} : go 90 99 ls st m = go 90 101 ls (.inl (-4) :: st) m := e_1 d90_99 (Or.inl rfl) rfl
theorem d90_101 : decode (mt 90).2.1 101 = .ok (.ireturn, 1) := by decide +kernel
theorem s90_101 {ls : LV} {m : MM} {x : Int32} : go 90 101 ls [.inl x] m = some (some (.inl x), m) := e_int d90_101 (by decide +kernel)
/-! X6_worst: 91 -/
theorem d91_0 : decode (mt 91).2.1 0 = .ok (.aload_n 0, 1) := by decide +kernel
theorem s91_0 {a1 a2 a3 : Option AV} {st : List AV} {m : MM} {x : Nat × Option Nat} : go 91 0 [some (.inr (.inr x)), a1, a2, a3] st m = go 91 1 [some (.inr (.inr x)), a1, a2, a3] (.inr (.inr x) :: st) m := e_1 d91_0 (Or.inl rfl) rfl
theorem d91_1 : decode (mt 91).2.1 1 = .ok (.getfield 35, 3) := by decide +kernel
theorem s91_1 {ls : LV} {st : List AV} {m : MM} {n : Nat} : go 91 1 ls (.inr (.inr (7, some n)) :: st) m = go 91 4 ls (.inr (.inr (2, mR m 7 n 7)) :: st) m := e_1 d91_1 (Or.inl rfl) (by rw [xi, pA, show lk fdL (mt 91).2.2.1 35 = some (7, 7) by decide +kernel]; rfl)
theorem d91_4 : decode (mt 91).2.1 4 = .ok (.invokevirtual 72, 3) := by decide +kernel
theorem s91_4 {ls : LV} {m : MM} {n : Nat} : go 91 4 ls [.inr (.inr (2, some n))] m = bd (go 6 0 [some (.inr (.inr (2, some n)))] [] m) (fun v m2 => go 91 7 ls (v.toList ++ []) m2) := e_virt (y1 := 6) (na := 0) (as := []) (rest := []) d91_4 (by decide +kernel) rfl (by decide +kernel) (show (ent [.inr (.inr (2, some n))]).length ≤ (mt 6).2.2.2.1 from Nat.le_of_ble_eq_true rfl) (cats_le (Nat.le_of_ble_eq_true rfl)) (by decide +kernel)
theorem d91_7 : decode (mt 91).2.1 7 = .ok (.ifCond .eq 6, 3) := by decide +kernel
theorem s91_7 {ls : LV} {st : List AV} {m : MM} {a : Int32} : go 91 7 ls (.inl a :: st) m = if a = 0 then go 91 13 ls st m else go 91 10 ls st m := e_if (t := 13) (b := hc .eq a 0) d91_7 (Or.inl rfl) (by simp only [xi, pI, jm_some (t := 13) (show ((7 : Nat) : Int) + 6 = ((13 : Nat) : Int) by decide), Option.bind_some]) (by simp [hc])
theorem d91_10 : decode (mt 91).2.1 10 = .ok (.bipush (-2), 2) := by decide +kernel
theorem s91_10 {ls : LV} {st : List AV} {m : MM} : go 91 10 ls st m = go 91 12 ls (.inl (-2) :: st) m := e_1 d91_10 (Or.inl rfl) rfl
theorem d91_12 : decode (mt 91).2.1 12 = .ok (.ireturn, 1) := by decide +kernel
theorem s91_12 {ls : LV} {m : MM} {x : Int32} : go 91 12 ls [.inl x] m = some (some (.inl x), m) := e_int d91_12 (by decide +kernel)
theorem d91_13 : decode (mt 91).2.1 13 = .ok (.bipush (-4), 2) := by decide +kernel
theorem s91_13 {ls : LV} {st : List AV} {m : MM} : go 91 13 ls st m = go 91 15 ls (.inl (-4) :: st) m := e_1 d91_13 (Or.inl rfl) rfl
theorem d91_15 : decode (mt 91).2.1 15 = .ok (.istore_n 1, 1) := by decide +kernel
theorem s91_15i {a1 a2 a3 : Option AV} {z : Int32} {st : List AV} {m : MM} {x : Int32} : go 91 15 [some (.inl z), a1, a2, a3] (.inl x :: st) m = go 91 16 [some (.inl z), some (.inl x), a2, a3] st m := e_1 d91_15 (Or.inl rfl) rfl
theorem s91_15r {a1 a2 a3 : Option AV} {z : Nat × Option Nat} {st : List AV} {m : MM} {x : Int32} : go 91 15 [some (.inr (.inr z)), a1, a2, a3] (.inl x :: st) m = go 91 16 [some (.inr (.inr z)), some (.inl x), a2, a3] st m := e_1 d91_15 (Or.inl rfl) rfl
theorem s91_15n {a1 a2 a3 : Option AV} {st : List AV} {m : MM} {x : Int32} : go 91 15 [none, a1, a2, a3] (.inl x :: st) m = go 91 16 [none, some (.inl x), a2, a3] st m := e_1 d91_15 (Or.inl rfl) rfl
theorem d91_16 : decode (mt 91).2.1 16 = .ok (.iconst 0, 1) := by decide +kernel
theorem s91_16 {ls : LV} {st : List AV} {m : MM} : go 91 16 ls st m = go 91 17 ls (.inl 0 :: st) m := e_1 d91_16 (Or.inl rfl) rfl
theorem d91_17 : decode (mt 91).2.1 17 = .ok (.istore_n 2, 1) := by decide +kernel
theorem s91_17i {a0 a2 a3 : Option AV} {z : Int32} {st : List AV} {m : MM} {x : Int32} : go 91 17 [a0, some (.inl z), a2, a3] (.inl x :: st) m = go 91 18 [a0, some (.inl z), some (.inl x), a3] st m := e_1 d91_17 (Or.inl rfl) rfl
theorem s91_17r {a0 a2 a3 : Option AV} {z : Nat × Option Nat} {st : List AV} {m : MM} {x : Int32} : go 91 17 [a0, some (.inr (.inr z)), a2, a3] (.inl x :: st) m = go 91 18 [a0, some (.inr (.inr z)), some (.inl x), a3] st m := e_1 d91_17 (Or.inl rfl) rfl
theorem s91_17n {a0 a2 a3 : Option AV} {st : List AV} {m : MM} {x : Int32} : go 91 17 [a0, none, a2, a3] (.inl x :: st) m = go 91 18 [a0, none, some (.inl x), a3] st m := e_1 d91_17 (Or.inl rfl) rfl
theorem d91_18 : decode (mt 91).2.1 18 = .ok (.iload_n 2, 1) := by decide +kernel
theorem s91_18 {a0 a1 a3 : Option AV} {st : List AV} {m : MM} {x : Int32} : go 91 18 [a0, a1, some (.inl x), a3] st m = go 91 19 [a0, a1, some (.inl x), a3] (.inl x :: st) m := e_1 d91_18 (Or.inl rfl) rfl
theorem d91_19 : decode (mt 91).2.1 19 = .ok (.aload_n 0, 1) := by decide +kernel
theorem s91_19 {a1 a2 a3 : Option AV} {st : List AV} {m : MM} {x : Nat × Option Nat} : go 91 19 [some (.inr (.inr x)), a1, a2, a3] st m = go 91 20 [some (.inr (.inr x)), a1, a2, a3] (.inr (.inr x) :: st) m := e_1 d91_19 (Or.inl rfl) rfl
theorem d91_20 : decode (mt 91).2.1 20 = .ok (.getfield 52, 3) := by decide +kernel
theorem s91_20 {ls : LV} {st : List AV} {m : MM} {n : Nat} : go 91 20 ls (.inr (.inr (7, some n)) :: st) m = go 91 23 ls (.inl (mI m 7 n 1) :: st) m := e_1 d91_20 (Or.inl rfl) (by rw [xi, pA, show lk fdL (mt 91).2.2.1 52 = some (7, 1) by decide +kernel]; rfl)
theorem d91_23 : decode (mt 91).2.1 23 = .ok (.if_icmp .ge 74, 3) := by decide +kernel
theorem s91_23 {ls : LV} {st : List AV} {m : MM} {a b : Int32} : go 91 23 ls (.inl b :: .inl a :: st) m = if b ≤ a then go 91 97 ls st m else go 91 26 ls st m := e_if (t := 97) (b := hc .ge a b) d91_23 (Or.inl rfl) (by simp only [xi, pI, jm_some (t := 97) (show ((23 : Nat) : Int) + 74 = ((97 : Nat) : Int) by decide), Option.bind_some]) (by simp [hc])
theorem d91_26 : decode (mt 91).2.1 26 = .ok (.iconst 0, 1) := by decide +kernel
theorem s91_26 {ls : LV} {st : List AV} {m : MM} : go 91 26 ls st m = go 91 27 ls (.inl 0 :: st) m := e_1 d91_26 (Or.inl rfl) rfl
theorem d91_27 : decode (mt 91).2.1 27 = .ok (.istore_n 3, 1) := by decide +kernel
theorem s91_27i {a0 a1 a3 : Option AV} {z : Int32} {st : List AV} {m : MM} {x : Int32} : go 91 27 [a0, a1, some (.inl z), a3] (.inl x :: st) m = go 91 28 [a0, a1, some (.inl z), some (.inl x)] st m := e_1 d91_27 (Or.inl rfl) rfl
theorem s91_27r {a0 a1 a3 : Option AV} {z : Nat × Option Nat} {st : List AV} {m : MM} {x : Int32} : go 91 27 [a0, a1, some (.inr (.inr z)), a3] (.inl x :: st) m = go 91 28 [a0, a1, some (.inr (.inr z)), some (.inl x)] st m := e_1 d91_27 (Or.inl rfl) rfl
theorem s91_27n {a0 a1 a3 : Option AV} {st : List AV} {m : MM} {x : Int32} : go 91 27 [a0, a1, none, a3] (.inl x :: st) m = go 91 28 [a0, a1, none, some (.inl x)] st m := e_1 d91_27 (Or.inl rfl) rfl
theorem d91_28 : decode (mt 91).2.1 28 = .ok (.iload_n 3, 1) := by decide +kernel
theorem s91_28 {a0 a1 a2 : Option AV} {st : List AV} {m : MM} {x : Int32} : go 91 28 [a0, a1, a2, some (.inl x)] st m = go 91 29 [a0, a1, a2, some (.inl x)] (.inl x :: st) m := e_1 d91_28 (Or.inl rfl) rfl
theorem d91_29 : decode (mt 91).2.1 29 = .ok (.aload_n 0, 1) := by decide +kernel
theorem s91_29 {a1 a2 a3 : Option AV} {st : List AV} {m : MM} {x : Nat × Option Nat} : go 91 29 [some (.inr (.inr x)), a1, a2, a3] st m = go 91 30 [some (.inr (.inr x)), a1, a2, a3] (.inr (.inr x) :: st) m := e_1 d91_29 (Or.inl rfl) rfl
theorem d91_30 : decode (mt 91).2.1 30 = .ok (.getfield 52, 3) := by decide +kernel
theorem s91_30 {ls : LV} {st : List AV} {m : MM} {n : Nat} : go 91 30 ls (.inr (.inr (7, some n)) :: st) m = go 91 33 ls (.inl (mI m 7 n 1) :: st) m := e_1 d91_30 (Or.inl rfl) (by rw [xi, pA, show lk fdL (mt 91).2.2.1 52 = some (7, 1) by decide +kernel]; rfl)
theorem d91_33 : decode (mt 91).2.1 33 = .ok (.if_icmp .ge 58, 3) := by decide +kernel
theorem s91_33 {ls : LV} {st : List AV} {m : MM} {a b : Int32} : go 91 33 ls (.inl b :: .inl a :: st) m = if b ≤ a then go 91 91 ls st m else go 91 36 ls st m := e_if (t := 91) (b := hc .ge a b) d91_33 (Or.inl rfl) (by simp only [xi, pI, jm_some (t := 91) (show ((33 : Nat) : Int) + 58 = ((91 : Nat) : Int) by decide), Option.bind_some]) (by simp [hc])
theorem d91_36 : decode (mt 91).2.1 36 = .ok (.aload_n 0, 1) := by decide +kernel
theorem s91_36 {a1 a2 a3 : Option AV} {st : List AV} {m : MM} {x : Nat × Option Nat} : go 91 36 [some (.inr (.inr x)), a1, a2, a3] st m = go 91 37 [some (.inr (.inr x)), a1, a2, a3] (.inr (.inr x) :: st) m := e_1 d91_36 (Or.inl rfl) rfl
theorem d91_37 : decode (mt 91).2.1 37 = .ok (.getfield 11, 3) := by decide +kernel
theorem s91_37 {ls : LV} {st : List AV} {m : MM} {n : Nat} : go 91 37 ls (.inr (.inr (7, some n)) :: st) m = go 91 40 ls (.inr (.inr (16, mR m 7 n 0)) :: st) m := e_1 d91_37 (Or.inl rfl) (by rw [xi, pA, show lk fdL (mt 91).2.2.1 11 = some (7, 0) by decide +kernel]; rfl)
theorem d91_40 : decode (mt 91).2.1 40 = .ok (.iload_n 2, 1) := by decide +kernel
theorem s91_40 {a0 a1 a3 : Option AV} {st : List AV} {m : MM} {x : Int32} : go 91 40 [a0, a1, some (.inl x), a3] st m = go 91 41 [a0, a1, some (.inl x), a3] (.inl x :: st) m := e_1 d91_40 (Or.inl rfl) rfl
theorem d91_41 : decode (mt 91).2.1 41 = .ok (.aaload, 1) := by decide +kernel
theorem s91_41 {ls : LV} {st : List AV} {m : MM} {n : Nat} {i : Int32} : go 91 41 ls (.inl i :: .inr (.inr (16, some n)) :: st) m = ixk (ix i (mN m 16 n)) (fun j => go 91 42 ls (.inr (.inr (6, mR m 16 n j)) :: st) m) := e_ald d91_41 (fun j hj => by simp only [xi, pI, pA, hj, Option.bind_some]; rfl) (fun hj => by simp only [xi, pI, pA, hj, Option.bind_none])
theorem d91_42 : decode (mt 91).2.1 42 = .ok (.getfield 61, 3) := by decide +kernel
theorem s91_42 {ls : LV} {st : List AV} {m : MM} {n : Nat} : go 91 42 ls (.inr (.inr (6, some n)) :: st) m = go 91 45 ls (.inl (mI m 6 n 3) :: st) m := e_1 d91_42 (Or.inl rfl) (by rw [xi, pA, show lk fdL (mt 91).2.2.1 61 = some (6, 3) by decide +kernel]; rfl)
theorem d91_45 : decode (mt 91).2.1 45 = .ok (.iconst 2, 1) := by decide +kernel
theorem s91_45 {ls : LV} {st : List AV} {m : MM} : go 91 45 ls st m = go 91 46 ls (.inl 2 :: st) m := e_1 d91_45 (Or.inl rfl) rfl
theorem d91_46 : decode (mt 91).2.1 46 = .ok (.if_icmp .ne 39, 3) := by decide +kernel
theorem s91_46 {ls : LV} {st : List AV} {m : MM} {a b : Int32} : go 91 46 ls (.inl b :: .inl a :: st) m = if ¬ a = b then go 91 85 ls st m else go 91 49 ls st m := e_if (t := 85) (b := hc .ne a b) d91_46 (Or.inl rfl) (by simp only [xi, pI, jm_some (t := 85) (show ((46 : Nat) : Int) + 39 = ((85 : Nat) : Int) by decide), Option.bind_some]) (by simp [hc])
theorem d91_49 : decode (mt 91).2.1 49 = .ok (.aload_n 0, 1) := by decide +kernel
theorem s91_49 {a1 a2 a3 : Option AV} {st : List AV} {m : MM} {x : Nat × Option Nat} : go 91 49 [some (.inr (.inr x)), a1, a2, a3] st m = go 91 50 [some (.inr (.inr x)), a1, a2, a3] (.inr (.inr x) :: st) m := e_1 d91_49 (Or.inl rfl) rfl
theorem d91_50 : decode (mt 91).2.1 50 = .ok (.getfield 11, 3) := by decide +kernel
theorem s91_50 {ls : LV} {st : List AV} {m : MM} {n : Nat} : go 91 50 ls (.inr (.inr (7, some n)) :: st) m = go 91 53 ls (.inr (.inr (16, mR m 7 n 0)) :: st) m := e_1 d91_50 (Or.inl rfl) (by rw [xi, pA, show lk fdL (mt 91).2.2.1 11 = some (7, 0) by decide +kernel]; rfl)
theorem d91_53 : decode (mt 91).2.1 53 = .ok (.iload_n 3, 1) := by decide +kernel
theorem s91_53 {a0 a1 a2 : Option AV} {st : List AV} {m : MM} {x : Int32} : go 91 53 [a0, a1, a2, some (.inl x)] st m = go 91 54 [a0, a1, a2, some (.inl x)] (.inl x :: st) m := e_1 d91_53 (Or.inl rfl) rfl
theorem d91_54 : decode (mt 91).2.1 54 = .ok (.aaload, 1) := by decide +kernel
theorem s91_54 {ls : LV} {st : List AV} {m : MM} {n : Nat} {i : Int32} : go 91 54 ls (.inl i :: .inr (.inr (16, some n)) :: st) m = ixk (ix i (mN m 16 n)) (fun j => go 91 55 ls (.inr (.inr (6, mR m 16 n j)) :: st) m) := e_ald d91_54 (fun j hj => by simp only [xi, pI, pA, hj, Option.bind_some]; rfl) (fun hj => by simp only [xi, pI, pA, hj, Option.bind_none])
theorem d91_55 : decode (mt 91).2.1 55 = .ok (.getfield 61, 3) := by decide +kernel
theorem s91_55 {ls : LV} {st : List AV} {m : MM} {n : Nat} : go 91 55 ls (.inr (.inr (6, some n)) :: st) m = go 91 58 ls (.inl (mI m 6 n 3) :: st) m := e_1 d91_55 (Or.inl rfl) (by rw [xi, pA, show lk fdL (mt 91).2.2.1 61 = some (6, 3) by decide +kernel]; rfl)
theorem d91_58 : decode (mt 91).2.1 58 = .ok (.iconst 2, 1) := by decide +kernel
theorem s91_58 {ls : LV} {st : List AV} {m : MM} : go 91 58 ls st m = go 91 59 ls (.inl 2 :: st) m := e_1 d91_58 (Or.inl rfl) rfl
theorem d91_59 : decode (mt 91).2.1 59 = .ok (.if_icmp .ne 26, 3) := by decide +kernel
theorem s91_59 {ls : LV} {st : List AV} {m : MM} {a b : Int32} : go 91 59 ls (.inl b :: .inl a :: st) m = if ¬ a = b then go 91 85 ls st m else go 91 62 ls st m := e_if (t := 85) (b := hc .ne a b) d91_59 (Or.inl rfl) (by simp only [xi, pI, jm_some (t := 85) (show ((59 : Nat) : Int) + 26 = ((85 : Nat) : Int) by decide), Option.bind_some]) (by simp [hc])
theorem d91_62 : decode (mt 91).2.1 62 = .ok (.iload_n 1, 1) := by decide +kernel
theorem s91_62 {a0 a2 a3 : Option AV} {st : List AV} {m : MM} {x : Int32} : go 91 62 [a0, some (.inl x), a2, a3] st m = go 91 63 [a0, some (.inl x), a2, a3] (.inl x :: st) m := e_1 d91_62 (Or.inl rfl) rfl
theorem d91_63 : decode (mt 91).2.1 63 = .ok (.aload_n 0, 1) := by decide +kernel
theorem s91_63 {a1 a2 a3 : Option AV} {st : List AV} {m : MM} {x : Nat × Option Nat} : go 91 63 [some (.inr (.inr x)), a1, a2, a3] st m = go 91 64 [some (.inr (.inr x)), a1, a2, a3] (.inr (.inr x) :: st) m := e_1 d91_63 (Or.inl rfl) rfl
theorem d91_64 : decode (mt 91).2.1 64 = .ok (.getfield 11, 3) := by decide +kernel
theorem s91_64 {ls : LV} {st : List AV} {m : MM} {n : Nat} : go 91 64 ls (.inr (.inr (7, some n)) :: st) m = go 91 67 ls (.inr (.inr (16, mR m 7 n 0)) :: st) m := e_1 d91_64 (Or.inl rfl) (by rw [xi, pA, show lk fdL (mt 91).2.2.1 11 = some (7, 0) by decide +kernel]; rfl)
theorem d91_67 : decode (mt 91).2.1 67 = .ok (.iload_n 2, 1) := by decide +kernel
theorem s91_67 {a0 a1 a3 : Option AV} {st : List AV} {m : MM} {x : Int32} : go 91 67 [a0, a1, some (.inl x), a3] st m = go 91 68 [a0, a1, some (.inl x), a3] (.inl x :: st) m := e_1 d91_67 (Or.inl rfl) rfl
theorem d91_68 : decode (mt 91).2.1 68 = .ok (.aaload, 1) := by decide +kernel
theorem s91_68 {ls : LV} {st : List AV} {m : MM} {n : Nat} {i : Int32} : go 91 68 ls (.inl i :: .inr (.inr (16, some n)) :: st) m = ixk (ix i (mN m 16 n)) (fun j => go 91 69 ls (.inr (.inr (6, mR m 16 n j)) :: st) m) := e_ald d91_68 (fun j hj => by simp only [xi, pI, pA, hj, Option.bind_some]; rfl) (fun hj => by simp only [xi, pI, pA, hj, Option.bind_none])
theorem d91_69 : decode (mt 91).2.1 69 = .ok (.aload_n 0, 1) := by decide +kernel
theorem s91_69 {a1 a2 a3 : Option AV} {st : List AV} {m : MM} {x : Nat × Option Nat} : go 91 69 [some (.inr (.inr x)), a1, a2, a3] st m = go 91 70 [some (.inr (.inr x)), a1, a2, a3] (.inr (.inr x) :: st) m := e_1 d91_69 (Or.inl rfl) rfl
theorem d91_70 : decode (mt 91).2.1 70 = .ok (.getfield 11, 3) := by decide +kernel
theorem s91_70 {ls : LV} {st : List AV} {m : MM} {n : Nat} : go 91 70 ls (.inr (.inr (7, some n)) :: st) m = go 91 73 ls (.inr (.inr (16, mR m 7 n 0)) :: st) m := e_1 d91_70 (Or.inl rfl) (by rw [xi, pA, show lk fdL (mt 91).2.2.1 11 = some (7, 0) by decide +kernel]; rfl)
theorem d91_73 : decode (mt 91).2.1 73 = .ok (.iload_n 3, 1) := by decide +kernel
theorem s91_73 {a0 a1 a2 : Option AV} {st : List AV} {m : MM} {x : Int32} : go 91 73 [a0, a1, a2, some (.inl x)] st m = go 91 74 [a0, a1, a2, some (.inl x)] (.inl x :: st) m := e_1 d91_73 (Or.inl rfl) rfl
theorem d91_74 : decode (mt 91).2.1 74 = .ok (.aaload, 1) := by decide +kernel
theorem s91_74 {ls : LV} {st : List AV} {m : MM} {n : Nat} {i : Int32} : go 91 74 ls (.inl i :: .inr (.inr (16, some n)) :: st) m = ixk (ix i (mN m 16 n)) (fun j => go 91 75 ls (.inr (.inr (6, mR m 16 n j)) :: st) m) := e_ald d91_74 (fun j hj => by simp only [xi, pI, pA, hj, Option.bind_some]; rfl) (fun hj => by simp only [xi, pI, pA, hj, Option.bind_none])
theorem d91_75 : decode (mt 91).2.1 75 = .ok (.getfield 58, 3) := by decide +kernel
theorem s91_75 {ls : LV} {st : List AV} {m : MM} {n : Nat} : go 91 75 ls (.inr (.inr (6, some n)) :: st) m = go 91 78 ls (.inl (mI m 6 n 1) :: st) m := e_1 d91_75 (Or.inl rfl) (by rw [xi, pA, show lk fdL (mt 91).2.2.1 58 = some (6, 1) by decide +kernel]; rfl)
theorem d91_78 : decode (mt 91).2.1 78 = .ok (.invokestatic 391, 3) := by decide +kernel
theorem s91_78 {ls : LV} {m : MM} {x0 : Nat × Option Nat} {x1 : Int32} {w0 : AV} : go 91 78 ls [.inl x1, .inr (.inr x0), w0] m = bd (go 101 0 [some (.inr (.inr x0)), some (.inl x1), none, none, none] [] m) (fun v m2 => go 91 81 ls (v.toList ++ [w0]) m2) := e_stat (y1 := 101) (na := 2) (as := [.inr (.inr x0), .inl x1]) (rest := [w0]) d91_78 (by decide +kernel) rfl (by decide +kernel) (show (ent [.inr (.inr x0), .inl x1]).length ≤ (mt 101).2.2.2.1 from Nat.le_of_ble_eq_true rfl) (cats_le (Nat.le_of_ble_eq_true rfl)) (by decide +kernel)
theorem d91_81 : decode (mt 91).2.1 81 = .ok (.invokestatic 394, 3) := by decide +kernel
theorem s91_81 {ls : LV} {m : MM} {a b : Int32} : go 91 81 ls (.inl b :: .inl a :: []) m = go 91 84 ls (.inl (if a < b then b else a) :: []) m := (e_math (y1 := 167) d91_81 (by decide +kernel) (by decide) (cats_le (Nat.le_of_ble_eq_true rfl)) (by decide +kernel)).trans (by simp)
theorem d91_84 : decode (mt 91).2.1 84 = .ok (.istore_n 1, 1) := by decide +kernel
theorem s91_84i {a1 a2 a3 : Option AV} {z : Int32} {st : List AV} {m : MM} {x : Int32} : go 91 84 [some (.inl z), a1, a2, a3] (.inl x :: st) m = go 91 85 [some (.inl z), some (.inl x), a2, a3] st m := e_1 d91_84 (Or.inl rfl) rfl
theorem s91_84r {a1 a2 a3 : Option AV} {z : Nat × Option Nat} {st : List AV} {m : MM} {x : Int32} : go 91 84 [some (.inr (.inr z)), a1, a2, a3] (.inl x :: st) m = go 91 85 [some (.inr (.inr z)), some (.inl x), a2, a3] st m := e_1 d91_84 (Or.inl rfl) rfl
theorem s91_84n {a1 a2 a3 : Option AV} {st : List AV} {m : MM} {x : Int32} : go 91 84 [none, a1, a2, a3] (.inl x :: st) m = go 91 85 [none, some (.inl x), a2, a3] st m := e_1 d91_84 (Or.inl rfl) rfl
theorem d91_85 : decode (mt 91).2.1 85 = .ok (.iinc 3 1, 3) := by decide +kernel
theorem s91_85i {a0 a1 : Option AV} {z : Int32} {st : List AV} {m : MM} {x : Int32} : go 91 85 [a0, a1, some (.inl z), some (.inl x)] st m = go 91 88 [a0, a1, some (.inl z), some (.inl (x + 1))] st m := e_1 d91_85 (Or.inl rfl) rfl
theorem s91_85r {a0 a1 : Option AV} {z : Nat × Option Nat} {st : List AV} {m : MM} {x : Int32} : go 91 85 [a0, a1, some (.inr (.inr z)), some (.inl x)] st m = go 91 88 [a0, a1, some (.inr (.inr z)), some (.inl (x + 1))] st m := e_1 d91_85 (Or.inl rfl) rfl
theorem s91_85n {a0 a1 : Option AV} {st : List AV} {m : MM} {x : Int32} : go 91 85 [a0, a1, none, some (.inl x)] st m = go 91 88 [a0, a1, none, some (.inl (x + 1))] st m := e_1 d91_85 (Or.inl rfl) rfl
theorem d91_88 : decode (mt 91).2.1 88 = .ok (.goto (-60), 3) := by decide +kernel
theorem s91_88 {ls : LV} {st : List AV} {m : MM} : go 91 88 ls st m = go 91 28 ls st m := e_1 d91_88 (Or.inl rfl) (by rw [xi, jm_some (t := 28) (by decide)]; rfl)
theorem d91_91 : decode (mt 91).2.1 91 = .ok (.iinc 2 1, 3) := by decide +kernel
theorem s91_91i {a0 a3 : Option AV} {z : Int32} {st : List AV} {m : MM} {x : Int32} : go 91 91 [a0, some (.inl z), some (.inl x), a3] st m = go 91 94 [a0, some (.inl z), some (.inl (x + 1)), a3] st m := e_1 d91_91 (Or.inl rfl) rfl
theorem s91_91r {a0 a3 : Option AV} {z : Nat × Option Nat} {st : List AV} {m : MM} {x : Int32} : go 91 91 [a0, some (.inr (.inr z)), some (.inl x), a3] st m = go 91 94 [a0, some (.inr (.inr z)), some (.inl (x + 1)), a3] st m := e_1 d91_91 (Or.inl rfl) rfl
theorem s91_91n {a0 a3 : Option AV} {st : List AV} {m : MM} {x : Int32} : go 91 91 [a0, none, some (.inl x), a3] st m = go 91 94 [a0, none, some (.inl (x + 1)), a3] st m := e_1 d91_91 (Or.inl rfl) rfl
theorem d91_94 : decode (mt 91).2.1 94 = .ok (.goto (-76), 3) := by decide +kernel
theorem s91_94 {ls : LV} {st : List AV} {m : MM} : go 91 94 ls st m = go 91 18 ls st m := e_1 d91_94 (Or.inl rfl) (by rw [xi, jm_some (t := 18) (by decide)]; rfl)
theorem d91_97 : decode (mt 91).2.1 97 = .ok (.iload_n 1, 1) := by decide +kernel
theorem s91_97 {a0 a2 a3 : Option AV} {st : List AV} {m : MM} {x : Int32} : go 91 97 [a0, some (.inl x), a2, a3] st m = go 91 98 [a0, some (.inl x), a2, a3] (.inl x :: st) m := e_1 d91_97 (Or.inl rfl) rfl
theorem d91_98 : decode (mt 91).2.1 98 = .ok (.ireturn, 1) := by decide +kernel
theorem s91_98 {ls : LV} {m : MM} {x : Int32} : go 91 98 ls [.inl x] m = some (some (.inl x), m) := e_int d91_98 (by decide +kernel)
/-! X6_count: 92 -/
theorem d92_0 : decode (mt 92).2.1 0 = .ok (.iload_n 1, 1) := by decide +kernel
theorem s92_0 {a0 : Option AV} {st : List AV} {m : MM} {x : Int32} : go 92 0 [a0, some (.inl x)] st m = go 92 1 [a0, some (.inl x)] (.inl x :: st) m := e_1 d92_0 (Or.inl rfl) rfl
theorem d92_1 : decode (mt 92).2.1 1 = .ok (.tableswitch 107 0 8 #[51, 56, 61, 69, 74, 80, 88, 96, 101], 51) := by decide +kernel
theorem s92_1_0 {ls : LV} {st : List AV} {m : MM} : go 92 1 ls (.inl 0 :: st) m = go 92 52 ls st m := e_1 d92_1 (Or.inr rfl) (by rw [xi]; rfl)
theorem s92_1_1 {ls : LV} {st : List AV} {m : MM} : go 92 1 ls (.inl 1 :: st) m = go 92 57 ls st m := e_1 d92_1 (Or.inr rfl) (by rw [xi]; rfl)
theorem s92_1_2 {ls : LV} {st : List AV} {m : MM} : go 92 1 ls (.inl 2 :: st) m = go 92 62 ls st m := e_1 d92_1 (Or.inr rfl) (by rw [xi]; rfl)
theorem s92_1_3 {ls : LV} {st : List AV} {m : MM} : go 92 1 ls (.inl 3 :: st) m = go 92 70 ls st m := e_1 d92_1 (Or.inr rfl) (by rw [xi]; rfl)
theorem s92_1_4 {ls : LV} {st : List AV} {m : MM} : go 92 1 ls (.inl 4 :: st) m = go 92 75 ls st m := e_1 d92_1 (Or.inr rfl) (by rw [xi]; rfl)
theorem s92_1_5 {ls : LV} {st : List AV} {m : MM} : go 92 1 ls (.inl 5 :: st) m = go 92 81 ls st m := e_1 d92_1 (Or.inr rfl) (by rw [xi]; rfl)
theorem s92_1_6 {ls : LV} {st : List AV} {m : MM} : go 92 1 ls (.inl 6 :: st) m = go 92 89 ls st m := e_1 d92_1 (Or.inr rfl) (by rw [xi]; rfl)
theorem s92_1_7 {ls : LV} {st : List AV} {m : MM} : go 92 1 ls (.inl 7 :: st) m = go 92 97 ls st m := e_1 d92_1 (Or.inr rfl) (by rw [xi]; rfl)
theorem s92_1_8 {ls : LV} {st : List AV} {m : MM} : go 92 1 ls (.inl 8 :: st) m = go 92 102 ls st m := e_1 d92_1 (Or.inr rfl) (by rw [xi]; rfl)
theorem s92_1_d {ls : LV} {st : List AV} {m : MM} {a : Int32} (h : a.toInt < 0 ∨ 8 < a.toInt) : go 92 1 ls (.inl a :: st) m = go 92 108 ls st m := e_1 d92_1 (Or.inr rfl) (by simp only [xi, pI, if_pos h, jm_some (t := 108) (show ((1 : Nat) : Int) + 107 = ((108 : Nat) : Int) by decide), Option.bind_some]; rw [if_pos (by omega)])
theorem d92_52 : decode (mt 92).2.1 52 = .ok (.aload_n 0, 1) := by decide +kernel
theorem s92_52 {a1 : Option AV} {st : List AV} {m : MM} {x : Nat × Option Nat} : go 92 52 [some (.inr (.inr x)), a1] st m = go 92 53 [some (.inr (.inr x)), a1] (.inr (.inr x) :: st) m := e_1 d92_52 (Or.inl rfl) rfl
theorem d92_53 : decode (mt 92).2.1 53 = .ok (.getfield 52, 3) := by decide +kernel
theorem s92_53 {ls : LV} {st : List AV} {m : MM} {n : Nat} : go 92 53 ls (.inr (.inr (7, some n)) :: st) m = go 92 56 ls (.inl (mI m 7 n 1) :: st) m := e_1 d92_53 (Or.inl rfl) (by rw [xi, pA, show lk fdL (mt 92).2.2.1 52 = some (7, 1) by decide +kernel]; rfl)
theorem d92_56 : decode (mt 92).2.1 56 = .ok (.ireturn, 1) := by decide +kernel
theorem s92_56 {ls : LV} {m : MM} {x : Int32} : go 92 56 ls [.inl x] m = some (some (.inl x), m) := e_int d92_56 (by decide +kernel)
theorem d92_57 : decode (mt 92).2.1 57 = .ok (.aload_n 0, 1) := by decide +kernel
theorem s92_57 {a1 : Option AV} {st : List AV} {m : MM} {x : Nat × Option Nat} : go 92 57 [some (.inr (.inr x)), a1] st m = go 92 58 [some (.inr (.inr x)), a1] (.inr (.inr x) :: st) m := e_1 d92_57 (Or.inl rfl) rfl
theorem d92_58 : decode (mt 92).2.1 58 = .ok (.invokevirtual 68, 3) := by decide +kernel
theorem s92_58 {ls : LV} {m : MM} {n : Nat} : go 92 58 ls [.inr (.inr (7, some n))] m = bd (go 44 0 [some (.inr (.inr (7, some n))), none, none] [] m) (fun v m2 => go 92 61 ls (v.toList ++ []) m2) := e_virt (y1 := 44) (na := 0) (as := []) (rest := []) d92_58 (by decide +kernel) rfl (by decide +kernel) (show (ent [.inr (.inr (7, some n))]).length ≤ (mt 44).2.2.2.1 from Nat.le_of_ble_eq_true rfl) (cats_le (Nat.le_of_ble_eq_true rfl)) (by decide +kernel)
theorem d92_61 : decode (mt 92).2.1 61 = .ok (.ireturn, 1) := by decide +kernel
theorem s92_61 {ls : LV} {m : MM} {x : Int32} : go 92 61 ls [.inl x] m = some (some (.inl x), m) := e_int d92_61 (by decide +kernel)
theorem d92_62 : decode (mt 92).2.1 62 = .ok (.aload_n 0, 1) := by decide +kernel
theorem s92_62 {a1 : Option AV} {st : List AV} {m : MM} {x : Nat × Option Nat} : go 92 62 [some (.inr (.inr x)), a1] st m = go 92 63 [some (.inr (.inr x)), a1] (.inr (.inr x) :: st) m := e_1 d92_62 (Or.inl rfl) rfl
theorem d92_63 : decode (mt 92).2.1 63 = .ok (.getfield 28, 3) := by decide +kernel
theorem s92_63 {ls : LV} {st : List AV} {m : MM} {n : Nat} : go 92 63 ls (.inr (.inr (7, some n)) :: st) m = go 92 66 ls (.inr (.inr (3, mR m 7 n 6)) :: st) m := e_1 d92_63 (Or.inl rfl) (by rw [xi, pA, show lk fdL (mt 92).2.2.1 28 = some (7, 6) by decide +kernel]; rfl)
theorem d92_66 : decode (mt 92).2.1 66 = .ok (.getfield 243, 3) := by decide +kernel
theorem s92_66 {ls : LV} {st : List AV} {m : MM} {n : Nat} : go 92 66 ls (.inr (.inr (3, some n)) :: st) m = go 92 69 ls (.inl (mI m 3 n 1) :: st) m := e_1 d92_66 (Or.inl rfl) (by rw [xi, pA, show lk fdL (mt 92).2.2.1 243 = some (3, 1) by decide +kernel]; rfl)
theorem d92_69 : decode (mt 92).2.1 69 = .ok (.ireturn, 1) := by decide +kernel
theorem s92_69 {ls : LV} {m : MM} {x : Int32} : go 92 69 ls [.inl x] m = some (some (.inl x), m) := e_int d92_69 (by decide +kernel)
theorem d92_70 : decode (mt 92).2.1 70 = .ok (.aload_n 0, 1) := by decide +kernel
theorem s92_70 {a1 : Option AV} {st : List AV} {m : MM} {x : Nat × Option Nat} : go 92 70 [some (.inr (.inr x)), a1] st m = go 92 71 [some (.inr (.inr x)), a1] (.inr (.inr x) :: st) m := e_1 d92_70 (Or.inl rfl) rfl
theorem d92_71 : decode (mt 92).2.1 71 = .ok (.getfield 160, 3) := by decide +kernel
theorem s92_71 {ls : LV} {st : List AV} {m : MM} {n : Nat} : go 92 71 ls (.inr (.inr (7, some n)) :: st) m = go 92 74 ls (.inl (mI m 7 n 3) :: st) m := e_1 d92_71 (Or.inl rfl) (by rw [xi, pA, show lk fdL (mt 92).2.2.1 160 = some (7, 3) by decide +kernel]; rfl)
theorem d92_74 : decode (mt 92).2.1 74 = .ok (.ireturn, 1) := by decide +kernel
theorem s92_74 {ls : LV} {m : MM} {x : Int32} : go 92 74 ls [.inl x] m = some (some (.inl x), m) := e_int d92_74 (by decide +kernel)
theorem d92_75 : decode (mt 92).2.1 75 = .ok (.aload_n 0, 1) := by decide +kernel
theorem s92_75 {a1 : Option AV} {st : List AV} {m : MM} {x : Nat × Option Nat} : go 92 75 [some (.inr (.inr x)), a1] st m = go 92 76 [some (.inr (.inr x)), a1] (.inr (.inr x) :: st) m := e_1 d92_75 (Or.inl rfl) rfl
theorem d92_76 : decode (mt 92).2.1 76 = .ok (.iconst 0, 1) := by decide +kernel
theorem s92_76 {ls : LV} {st : List AV} {m : MM} : go 92 76 ls st m = go 92 77 ls (.inl 0 :: st) m := e_1 d92_76 (Or.inl rfl) rfl
theorem d92_77 : decode (mt 92).2.1 77 = .ok (.invokevirtual 397, 3) := by decide +kernel
theorem s92_77 {ls : LV} {m : MM} {x0 : Int32} {n : Nat} : go 92 77 ls [.inl x0, .inr (.inr (7, some n))] m = bd (go 93 0 [some (.inr (.inr (7, some n))), some (.inl x0), none, none] [] m) (fun v m2 => go 92 80 ls (v.toList ++ []) m2) := e_virt (y1 := 93) (na := 1) (as := [.inl x0]) (rest := []) d92_77 (by decide +kernel) rfl (by decide +kernel) (show (ent [.inr (.inr (7, some n)), .inl x0]).length ≤ (mt 93).2.2.2.1 from Nat.le_of_ble_eq_true rfl) (cats_le (Nat.le_of_ble_eq_true rfl)) (by decide +kernel)
theorem d92_80 : decode (mt 92).2.1 80 = .ok (.ireturn, 1) := by decide +kernel
theorem s92_80 {ls : LV} {m : MM} {x : Int32} : go 92 80 ls [.inl x] m = some (some (.inl x), m) := e_int d92_80 (by decide +kernel)
theorem d92_81 : decode (mt 92).2.1 81 = .ok (.aload_n 0, 1) := by decide +kernel
theorem s92_81 {a1 : Option AV} {st : List AV} {m : MM} {x : Nat × Option Nat} : go 92 81 [some (.inr (.inr x)), a1] st m = go 92 82 [some (.inr (.inr x)), a1] (.inr (.inr x) :: st) m := e_1 d92_81 (Or.inl rfl) rfl
theorem d92_82 : decode (mt 92).2.1 82 = .ok (.getfield 35, 3) := by decide +kernel
theorem s92_82 {ls : LV} {st : List AV} {m : MM} {n : Nat} : go 92 82 ls (.inr (.inr (7, some n)) :: st) m = go 92 85 ls (.inr (.inr (2, mR m 7 n 7)) :: st) m := e_1 d92_82 (Or.inl rfl) (by rw [xi, pA, show lk fdL (mt 92).2.2.1 35 = some (7, 7) by decide +kernel]; rfl)
theorem d92_85 : decode (mt 92).2.1 85 = .ok (.getfield 150, 3) := by decide +kernel
theorem s92_85 {ls : LV} {st : List AV} {m : MM} {n : Nat} : go 92 85 ls (.inr (.inr (2, some n)) :: st) m = go 92 88 ls (.inl (mI m 2 n 0) :: st) m := e_1 d92_85 (Or.inl rfl) (by rw [xi, pA, show lk fdL (mt 92).2.2.1 150 = some (2, 0) by decide +kernel]; rfl)
theorem d92_88 : decode (mt 92).2.1 88 = .ok (.ireturn, 1) := by decide +kernel
theorem s92_88 {ls : LV} {m : MM} {x : Int32} : go 92 88 ls [.inl x] m = some (some (.inl x), m) := e_int d92_88 (by decide +kernel)
theorem d92_89 : decode (mt 92).2.1 89 = .ok (.aload_n 0, 1) := by decide +kernel
theorem s92_89 {a1 : Option AV} {st : List AV} {m : MM} {x : Nat × Option Nat} : go 92 89 [some (.inr (.inr x)), a1] st m = go 92 90 [some (.inr (.inr x)), a1] (.inr (.inr x) :: st) m := e_1 d92_89 (Or.inl rfl) rfl
theorem d92_90 : decode (mt 92).2.1 90 = .ok (.getfield 28, 3) := by decide +kernel
theorem s92_90 {ls : LV} {st : List AV} {m : MM} {n : Nat} : go 92 90 ls (.inr (.inr (7, some n)) :: st) m = go 92 93 ls (.inr (.inr (3, mR m 7 n 6)) :: st) m := e_1 d92_90 (Or.inl rfl) (by rw [xi, pA, show lk fdL (mt 92).2.2.1 28 = some (7, 6) by decide +kernel]; rfl)
theorem d92_93 : decode (mt 92).2.1 93 = .ok (.getfield 141, 3) := by decide +kernel
theorem s92_93 {ls : LV} {st : List AV} {m : MM} {n : Nat} : go 92 93 ls (.inr (.inr (3, some n)) :: st) m = go 92 96 ls (.inl (mI m 3 n 2) :: st) m := e_1 d92_93 (Or.inl rfl) (by rw [xi, pA, show lk fdL (mt 92).2.2.1 141 = some (3, 2) by decide +kernel]; rfl)
theorem d92_96 : decode (mt 92).2.1 96 = .ok (.ireturn, 1) := by decide +kernel
theorem s92_96 {ls : LV} {m : MM} {x : Int32} : go 92 96 ls [.inl x] m = some (some (.inl x), m) := e_int d92_96 (by decide +kernel)
theorem d92_97 : decode (mt 92).2.1 97 = .ok (.aload_n 0, 1) := by decide +kernel
theorem s92_97 {a1 : Option AV} {st : List AV} {m : MM} {x : Nat × Option Nat} : go 92 97 [some (.inr (.inr x)), a1] st m = go 92 98 [some (.inr (.inr x)), a1] (.inr (.inr x) :: st) m := e_1 d92_97 (Or.inl rfl) rfl
theorem d92_98 : decode (mt 92).2.1 98 = .ok (.getfield 176, 3) := by decide +kernel
theorem s92_98 {ls : LV} {st : List AV} {m : MM} {n : Nat} : go 92 98 ls (.inr (.inr (7, some n)) :: st) m = go 92 101 ls (.inl (mI m 7 n 5) :: st) m := e_1 d92_98 (Or.inl rfl) (by rw [xi, pA, show lk fdL (mt 92).2.2.1 176 = some (7, 5) by decide +kernel]; rfl)
theorem d92_101 : decode (mt 92).2.1 101 = .ok (.ireturn, 1) := by decide +kernel
theorem s92_101 {ls : LV} {m : MM} {x : Int32} : go 92 101 ls [.inl x] m = some (some (.inl x), m) := e_int d92_101 (by decide +kernel)
theorem d92_102 : decode (mt 92).2.1 102 = .ok (.aload_n 0, 1) := by decide +kernel
theorem s92_102 {a1 : Option AV} {st : List AV} {m : MM} {x : Nat × Option Nat} : go 92 102 [some (.inr (.inr x)), a1] st m = go 92 103 [some (.inr (.inr x)), a1] (.inr (.inr x) :: st) m := e_1 d92_102 (Or.inl rfl) rfl
theorem d92_103 : decode (mt 92).2.1 103 = .ok (.iconst 1, 1) := by decide +kernel
theorem s92_103 {ls : LV} {st : List AV} {m : MM} : go 92 103 ls st m = go 92 104 ls (.inl 1 :: st) m := e_1 d92_103 (Or.inl rfl) rfl
theorem d92_104 : decode (mt 92).2.1 104 = .ok (.invokevirtual 397, 3) := by decide +kernel
theorem s92_104 {ls : LV} {m : MM} {x0 : Int32} {n : Nat} : go 92 104 ls [.inl x0, .inr (.inr (7, some n))] m = bd (go 93 0 [some (.inr (.inr (7, some n))), some (.inl x0), none, none] [] m) (fun v m2 => go 92 107 ls (v.toList ++ []) m2) := e_virt (y1 := 93) (na := 1) (as := [.inl x0]) (rest := []) d92_104 (by decide +kernel) rfl (by decide +kernel) (show (ent [.inr (.inr (7, some n)), .inl x0]).length ≤ (mt 93).2.2.2.1 from Nat.le_of_ble_eq_true rfl) (cats_le (Nat.le_of_ble_eq_true rfl)) (by decide +kernel)
theorem d92_107 : decode (mt 92).2.1 107 = .ok (.ireturn, 1) := by decide +kernel
theorem s92_107 {ls : LV} {m : MM} {x : Int32} : go 92 107 ls [.inl x] m = some (some (.inl x), m) := e_int d92_107 (by decide +kernel)
theorem d92_108 : decode (mt 92).2.1 108 = .ok (.iconst (-1), 1) := by decide +kernel
theorem s92_108 {ls : LV} {st : List AV} {m : MM} : go 92 108 ls st m = go 92 109 ls (.inl (-1) :: st) m := e_1 d92_108 (Or.inl rfl) rfl
theorem d92_109 : decode (mt 92).2.1 109 = .ok (.ireturn, 1) := by decide +kernel
theorem s92_109 {ls : LV} {m : MM} {x : Int32} : go 92 109 ls [.inl x] m = some (some (.inl x), m) := e_int d92_109 (by decide +kernel)
/-! X6_howManyEnded: 93 -/
theorem d93_0 : decode (mt 93).2.1 0 = .ok (.iconst 0, 1) := by decide +kernel
theorem s93_0 {ls : LV} {st : List AV} {m : MM} : go 93 0 ls st m = go 93 1 ls (.inl 0 :: st) m := e_1 d93_0 (Or.inl rfl) rfl
theorem d93_1 : decode (mt 93).2.1 1 = .ok (.istore_n 2, 1) := by decide +kernel
theorem s93_1i {a0 a2 a3 : Option AV} {z : Int32} {st : List AV} {m : MM} {x : Int32} : go 93 1 [a0, some (.inl z), a2, a3] (.inl x :: st) m = go 93 2 [a0, some (.inl z), some (.inl x), a3] st m := e_1 d93_1 (Or.inl rfl) rfl
theorem s93_1r {a0 a2 a3 : Option AV} {z : Nat × Option Nat} {st : List AV} {m : MM} {x : Int32} : go 93 1 [a0, some (.inr (.inr z)), a2, a3] (.inl x :: st) m = go 93 2 [a0, some (.inr (.inr z)), some (.inl x), a3] st m := e_1 d93_1 (Or.inl rfl) rfl
theorem s93_1n {a0 a2 a3 : Option AV} {st : List AV} {m : MM} {x : Int32} : go 93 1 [a0, none, a2, a3] (.inl x :: st) m = go 93 2 [a0, none, some (.inl x), a3] st m := e_1 d93_1 (Or.inl rfl) rfl
theorem d93_2 : decode (mt 93).2.1 2 = .ok (.iconst 0, 1) := by decide +kernel
theorem s93_2 {ls : LV} {st : List AV} {m : MM} : go 93 2 ls st m = go 93 3 ls (.inl 0 :: st) m := e_1 d93_2 (Or.inl rfl) rfl
theorem d93_3 : decode (mt 93).2.1 3 = .ok (.istore_n 3, 1) := by decide +kernel
theorem s93_3i {a0 a1 a3 : Option AV} {z : Int32} {st : List AV} {m : MM} {x : Int32} : go 93 3 [a0, a1, some (.inl z), a3] (.inl x :: st) m = go 93 4 [a0, a1, some (.inl z), some (.inl x)] st m := e_1 d93_3 (Or.inl rfl) rfl
theorem s93_3r {a0 a1 a3 : Option AV} {z : Nat × Option Nat} {st : List AV} {m : MM} {x : Int32} : go 93 3 [a0, a1, some (.inr (.inr z)), a3] (.inl x :: st) m = go 93 4 [a0, a1, some (.inr (.inr z)), some (.inl x)] st m := e_1 d93_3 (Or.inl rfl) rfl
theorem s93_3n {a0 a1 a3 : Option AV} {st : List AV} {m : MM} {x : Int32} : go 93 3 [a0, a1, none, a3] (.inl x :: st) m = go 93 4 [a0, a1, none, some (.inl x)] st m := e_1 d93_3 (Or.inl rfl) rfl
theorem d93_4 : decode (mt 93).2.1 4 = .ok (.iload_n 3, 1) := by decide +kernel
theorem s93_4 {a0 a1 a2 : Option AV} {st : List AV} {m : MM} {x : Int32} : go 93 4 [a0, a1, a2, some (.inl x)] st m = go 93 5 [a0, a1, a2, some (.inl x)] (.inl x :: st) m := e_1 d93_4 (Or.inl rfl) rfl
theorem d93_5 : decode (mt 93).2.1 5 = .ok (.aload_n 0, 1) := by decide +kernel
theorem s93_5 {a1 a2 a3 : Option AV} {st : List AV} {m : MM} {x : Nat × Option Nat} : go 93 5 [some (.inr (.inr x)), a1, a2, a3] st m = go 93 6 [some (.inr (.inr x)), a1, a2, a3] (.inr (.inr x) :: st) m := e_1 d93_5 (Or.inl rfl) rfl
theorem d93_6 : decode (mt 93).2.1 6 = .ok (.getfield 160, 3) := by decide +kernel
theorem s93_6 {ls : LV} {st : List AV} {m : MM} {n : Nat} : go 93 6 ls (.inr (.inr (7, some n)) :: st) m = go 93 9 ls (.inl (mI m 7 n 3) :: st) m := e_1 d93_6 (Or.inl rfl) (by rw [xi, pA, show lk fdL (mt 93).2.2.1 160 = some (7, 3) by decide +kernel]; rfl)
theorem d93_9 : decode (mt 93).2.1 9 = .ok (.if_icmp .ge 45, 3) := by decide +kernel
theorem s93_9 {ls : LV} {st : List AV} {m : MM} {a b : Int32} : go 93 9 ls (.inl b :: .inl a :: st) m = if b ≤ a then go 93 54 ls st m else go 93 12 ls st m := e_if (t := 54) (b := hc .ge a b) d93_9 (Or.inl rfl) (by simp only [xi, pI, jm_some (t := 54) (show ((9 : Nat) : Int) + 45 = ((54 : Nat) : Int) by decide), Option.bind_some]) (by simp [hc])
theorem d93_12 : decode (mt 93).2.1 12 = .ok (.iload_n 2, 1) := by decide +kernel
theorem s93_12 {a0 a1 a3 : Option AV} {st : List AV} {m : MM} {x : Int32} : go 93 12 [a0, a1, some (.inl x), a3] st m = go 93 13 [a0, a1, some (.inl x), a3] (.inl x :: st) m := e_1 d93_12 (Or.inl rfl) rfl
theorem d93_13 : decode (mt 93).2.1 13 = .ok (.aload_n 0, 1) := by decide +kernel
theorem s93_13 {a1 a2 a3 : Option AV} {st : List AV} {m : MM} {x : Nat × Option Nat} : go 93 13 [some (.inr (.inr x)), a1, a2, a3] st m = go 93 14 [some (.inr (.inr x)), a1, a2, a3] (.inr (.inr x) :: st) m := e_1 d93_13 (Or.inl rfl) rfl
theorem d93_14 : decode (mt 93).2.1 14 = .ok (.getfield 17, 3) := by decide +kernel
theorem s93_14 {ls : LV} {st : List AV} {m : MM} {n : Nat} : go 93 14 ls (.inr (.inr (7, some n)) :: st) m = go 93 17 ls (.inr (.inr (17, mR m 7 n 2)) :: st) m := e_1 d93_14 (Or.inl rfl) (by rw [xi, pA, show lk fdL (mt 93).2.2.1 17 = some (7, 2) by decide +kernel]; rfl)
theorem d93_17 : decode (mt 93).2.1 17 = .ok (.iload_n 3, 1) := by decide +kernel
theorem s93_17 {a0 a1 a2 : Option AV} {st : List AV} {m : MM} {x : Int32} : go 93 17 [a0, a1, a2, some (.inl x)] st m = go 93 18 [a0, a1, a2, some (.inl x)] (.inl x :: st) m := e_1 d93_17 (Or.inl rfl) rfl
theorem d93_18 : decode (mt 93).2.1 18 = .ok (.aaload, 1) := by decide +kernel
theorem s93_18 {ls : LV} {st : List AV} {m : MM} {n : Nat} {i : Int32} : go 93 18 ls (.inl i :: .inr (.inr (17, some n)) :: st) m = ixk (ix i (mN m 17 n)) (fun j => go 93 19 ls (.inr (.inr (1, mR m 17 n j)) :: st) m) := e_ald d93_18 (fun j hj => by simp only [xi, pI, pA, hj, Option.bind_some]; rfl) (fun hj => by simp only [xi, pI, pA, hj, Option.bind_none])
theorem d93_19 : decode (mt 93).2.1 19 = .ok (.getfield 401, 3) := by decide +kernel
theorem s93_19 {ls : LV} {st : List AV} {m : MM} {n : Nat} : go 93 19 ls (.inr (.inr (1, some n)) :: st) m = go 93 22 ls (.inl (mI m 1 n 7) :: st) m := e_1 d93_19 (Or.inl rfl) (by rw [xi, pA, show lk fdL (mt 93).2.2.1 401 = some (1, 7) by decide +kernel]; rfl)
theorem d93_22 : decode (mt 93).2.1 22 = .ok (.ifCond .ne 19, 3) := by decide +kernel
theorem s93_22 {ls : LV} {st : List AV} {m : MM} {a : Int32} : go 93 22 ls (.inl a :: st) m = if ¬ a = 0 then go 93 41 ls st m else go 93 25 ls st m := e_if (t := 41) (b := hc .ne a 0) d93_22 (Or.inl rfl) (by simp only [xi, pI, jm_some (t := 41) (show ((22 : Nat) : Int) + 19 = ((41 : Nat) : Int) by decide), Option.bind_some]) (by simp [hc])
theorem d93_25 : decode (mt 93).2.1 25 = .ok (.aload_n 0, 1) := by decide +kernel
theorem s93_25 {a1 a2 a3 : Option AV} {st : List AV} {m : MM} {x : Nat × Option Nat} : go 93 25 [some (.inr (.inr x)), a1, a2, a3] st m = go 93 26 [some (.inr (.inr x)), a1, a2, a3] (.inr (.inr x) :: st) m := e_1 d93_25 (Or.inl rfl) rfl
theorem d93_26 : decode (mt 93).2.1 26 = .ok (.getfield 17, 3) := by decide +kernel
theorem s93_26 {ls : LV} {st : List AV} {m : MM} {n : Nat} : go 93 26 ls (.inr (.inr (7, some n)) :: st) m = go 93 29 ls (.inr (.inr (17, mR m 7 n 2)) :: st) m := e_1 d93_26 (Or.inl rfl) (by rw [xi, pA, show lk fdL (mt 93).2.2.1 17 = some (7, 2) by decide +kernel]; rfl)
theorem d93_29 : decode (mt 93).2.1 29 = .ok (.iload_n 3, 1) := by decide +kernel
theorem s93_29 {a0 a1 a2 : Option AV} {st : List AV} {m : MM} {x : Int32} : go 93 29 [a0, a1, a2, some (.inl x)] st m = go 93 30 [a0, a1, a2, some (.inl x)] (.inl x :: st) m := e_1 d93_29 (Or.inl rfl) rfl
theorem d93_30 : decode (mt 93).2.1 30 = .ok (.aaload, 1) := by decide +kernel
theorem s93_30 {ls : LV} {st : List AV} {m : MM} {n : Nat} {i : Int32} : go 93 30 ls (.inl i :: .inr (.inr (17, some n)) :: st) m = ixk (ix i (mN m 17 n)) (fun j => go 93 31 ls (.inr (.inr (1, mR m 17 n j)) :: st) m) := e_ald d93_30 (fun j hj => by simp only [xi, pI, pA, hj, Option.bind_some]; rfl) (fun hj => by simp only [xi, pI, pA, hj, Option.bind_none])
theorem d93_31 : decode (mt 93).2.1 31 = .ok (.getfield 186, 3) := by decide +kernel
theorem s93_31 {ls : LV} {st : List AV} {m : MM} {n : Nat} : go 93 31 ls (.inr (.inr (1, some n)) :: st) m = go 93 34 ls (.inl (mI m 1 n 6) :: st) m := e_1 d93_31 (Or.inl rfl) (by rw [xi, pA, show lk fdL (mt 93).2.2.1 186 = some (1, 6) by decide +kernel]; rfl)
theorem d93_34 : decode (mt 93).2.1 34 = .ok (.ifCond .eq 11, 3) := by decide +kernel
theorem s93_34 {ls : LV} {st : List AV} {m : MM} {a : Int32} : go 93 34 ls (.inl a :: st) m = if a = 0 then go 93 45 ls st m else go 93 37 ls st m := e_if (t := 45) (b := hc .eq a 0) d93_34 (Or.inl rfl) (by simp only [xi, pI, jm_some (t := 45) (show ((34 : Nat) : Int) + 11 = ((45 : Nat) : Int) by decide), Option.bind_some]) (by simp [hc])
theorem d93_37 : decode (mt 93).2.1 37 = .ok (.iload_n 1, 1) := by decide +kernel
theorem s93_37 {a0 a2 a3 : Option AV} {st : List AV} {m : MM} {x : Int32} : go 93 37 [a0, some (.inl x), a2, a3] st m = go 93 38 [a0, some (.inl x), a2, a3] (.inl x :: st) m := e_1 d93_37 (Or.inl rfl) rfl
theorem d93_38 : decode (mt 93).2.1 38 = .ok (.ifCond .ne 7, 3) := by decide +kernel
theorem s93_38 {ls : LV} {st : List AV} {m : MM} {a : Int32} : go 93 38 ls (.inl a :: st) m = if ¬ a = 0 then go 93 45 ls st m else go 93 41 ls st m := e_if (t := 45) (b := hc .ne a 0) d93_38 (Or.inl rfl) (by simp only [xi, pI, jm_some (t := 45) (show ((38 : Nat) : Int) + 7 = ((45 : Nat) : Int) by decide), Option.bind_some]) (by simp [hc])
theorem d93_41 : decode (mt 93).2.1 41 = .ok (.iconst 1, 1) := by decide +kernel
theorem s93_41 {ls : LV} {st : List AV} {m : MM} : go 93 41 ls st m = go 93 42 ls (.inl 1 :: st) m := e_1 d93_41 (Or.inl rfl) rfl
theorem d93_42 : decode (mt 93).2.1 42 = .ok (.goto 4, 3) := by decide +kernel
theorem s93_42 {ls : LV} {st : List AV} {m : MM} : go 93 42 ls st m = go 93 46 ls st m := e_1 d93_42 (Or.inl rfl) (by rw [xi, jm_some (t := 46) (by decide)]; rfl)
theorem d93_45 : decode (mt 93).2.1 45 = .ok (.iconst 0, 1) := by decide +kernel
theorem s93_45 {ls : LV} {st : List AV} {m : MM} : go 93 45 ls st m = go 93 46 ls (.inl 0 :: st) m := e_1 d93_45 (Or.inl rfl) rfl
theorem d93_46 : decode (mt 93).2.1 46 = .ok (.iadd, 1) := by decide +kernel
theorem s93_46 {ls : LV} {st : List AV} {m : MM} {a b : Int32} : go 93 46 ls (.inl b :: .inl a :: st) m = go 93 47 ls (.inl (a + b) :: st) m := e_1 d93_46 (Or.inl rfl) rfl
theorem d93_47 : decode (mt 93).2.1 47 = .ok (.istore_n 2, 1) := by decide +kernel
theorem s93_47i {a0 a2 a3 : Option AV} {z : Int32} {st : List AV} {m : MM} {x : Int32} : go 93 47 [a0, some (.inl z), a2, a3] (.inl x :: st) m = go 93 48 [a0, some (.inl z), some (.inl x), a3] st m := e_1 d93_47 (Or.inl rfl) rfl
theorem s93_47r {a0 a2 a3 : Option AV} {z : Nat × Option Nat} {st : List AV} {m : MM} {x : Int32} : go 93 47 [a0, some (.inr (.inr z)), a2, a3] (.inl x :: st) m = go 93 48 [a0, some (.inr (.inr z)), some (.inl x), a3] st m := e_1 d93_47 (Or.inl rfl) rfl
theorem s93_47n {a0 a2 a3 : Option AV} {st : List AV} {m : MM} {x : Int32} : go 93 47 [a0, none, a2, a3] (.inl x :: st) m = go 93 48 [a0, none, some (.inl x), a3] st m := e_1 d93_47 (Or.inl rfl) rfl
theorem d93_48 : decode (mt 93).2.1 48 = .ok (.iinc 3 1, 3) := by decide +kernel
theorem s93_48i {a0 a1 : Option AV} {z : Int32} {st : List AV} {m : MM} {x : Int32} : go 93 48 [a0, a1, some (.inl z), some (.inl x)] st m = go 93 51 [a0, a1, some (.inl z), some (.inl (x + 1))] st m := e_1 d93_48 (Or.inl rfl) rfl
theorem s93_48r {a0 a1 : Option AV} {z : Nat × Option Nat} {st : List AV} {m : MM} {x : Int32} : go 93 48 [a0, a1, some (.inr (.inr z)), some (.inl x)] st m = go 93 51 [a0, a1, some (.inr (.inr z)), some (.inl (x + 1))] st m := e_1 d93_48 (Or.inl rfl) rfl
theorem s93_48n {a0 a1 : Option AV} {st : List AV} {m : MM} {x : Int32} : go 93 48 [a0, a1, none, some (.inl x)] st m = go 93 51 [a0, a1, none, some (.inl (x + 1))] st m := e_1 d93_48 (Or.inl rfl) rfl
theorem d93_51 : decode (mt 93).2.1 51 = .ok (.goto (-47), 3) := by decide +kernel
theorem s93_51 {ls : LV} {st : List AV} {m : MM} : go 93 51 ls st m = go 93 4 ls st m := e_1 d93_51 (Or.inl rfl) (by rw [xi, jm_some (t := 4) (by decide)]; rfl)
theorem d93_54 : decode (mt 93).2.1 54 = .ok (.iload_n 2, 1) := by decide +kernel
theorem s93_54 {a0 a1 a3 : Option AV} {st : List AV} {m : MM} {x : Int32} : go 93 54 [a0, a1, some (.inl x), a3] st m = go 93 55 [a0, a1, some (.inl x), a3] (.inl x :: st) m := e_1 d93_54 (Or.inl rfl) rfl
theorem d93_55 : decode (mt 93).2.1 55 = .ok (.ireturn, 1) := by decide +kernel
theorem s93_55 {ls : LV} {m : MM} {x : Int32} : go 93 55 ls [.inl x] m = some (some (.inl x), m) := e_int d93_55 (by decide +kernel)
/-! X6_numberOf: 94 -/
theorem d94_0 : decode (mt 94).2.1 0 = .ok (.aload_n 0, 1) := by decide +kernel
theorem s94_0 {st : List AV} {m : MM} {x : Nat × Option Nat} : go 94 0 [some (.inr (.inr x))] st m = go 94 1 [some (.inr (.inr x))] (.inr (.inr x) :: st) m := e_1 d94_0 (Or.inl rfl) rfl
theorem d94_1 : decode (mt 94).2.1 1 = .ok (.ifnull 10, 3) := by decide +kernel
theorem s94_1n {u : Nat} {ls : LV} {st : List AV} {m : MM} : go 94 1 ls (.inr (.inr (u, none)) :: st) m = go 94 11 ls st m := e_1 d94_1 (Or.inl rfl) (by rw [xi, jm_some (t := 11) (by decide)]; rfl)
theorem s94_1s {u n : Nat} {ls : LV} {st : List AV} {m : MM} : go 94 1 ls (.inr (.inr (u, some n)) :: st) m = go 94 4 ls st m := e_1 d94_1 (Or.inl rfl) (by rw [xi, jm_some (t := 11) (by decide)]; rfl)
theorem d94_4 : decode (mt 94).2.1 4 = .ok (.aload_n 0, 1) := by decide +kernel
theorem s94_4 {st : List AV} {m : MM} {x : Nat × Option Nat} : go 94 4 [some (.inr (.inr x))] st m = go 94 5 [some (.inr (.inr x))] (.inr (.inr x) :: st) m := e_1 d94_4 (Or.inl rfl) rfl
theorem d94_5 : decode (mt 94).2.1 5 = .ok (.getfield 235, 3) := by decide +kernel
theorem s94_5 {ls : LV} {st : List AV} {m : MM} {n : Nat} : go 94 5 ls (.inr (.inr (6, some n)) :: st) m = go 94 8 ls (.inl (mI m 6 n 0) :: st) m := e_1 d94_5 (Or.inl rfl) (by rw [xi, pA, show lk fdL (mt 94).2.2.1 235 = some (6, 0) by decide +kernel]; rfl)
theorem d94_8 : decode (mt 94).2.1 8 = .ok (.goto 5, 3) := by decide +kernel
theorem s94_8 {ls : LV} {st : List AV} {m : MM} : go 94 8 ls st m = go 94 13 ls st m := e_1 d94_8 (Or.inl rfl) (by rw [xi, jm_some (t := 13) (by decide)]; rfl)
theorem d94_11 : decode (mt 94).2.1 11 = .ok (.bipush (-4), 2) := by decide +kernel
theorem s94_11 {ls : LV} {st : List AV} {m : MM} : go 94 11 ls st m = go 94 13 ls (.inl (-4) :: st) m := e_1 d94_11 (Or.inl rfl) rfl
theorem d94_13 : decode (mt 94).2.1 13 = .ok (.ireturn, 1) := by decide +kernel
theorem s94_13 {ls : LV} {m : MM} {x : Int32} : go 94 13 ls [.inl x] m = some (some (.inl x), m) := e_int d94_13 (by decide +kernel)
/-! X6_isLevel: 95 -/
theorem d95_0 : decode (mt 95).2.1 0 = .ok (.iload_n 0, 1) := by decide +kernel
theorem s95_0 {st : List AV} {m : MM} {x : Int32} : go 95 0 [some (.inl x)] st m = go 95 1 [some (.inl x)] (.inl x :: st) m := e_1 d95_0 (Or.inl rfl) rfl
theorem d95_1 : decode (mt 95).2.1 1 = .ok (.ifCond .lt 13, 3) := by decide +kernel
theorem s95_1 {ls : LV} {st : List AV} {m : MM} {a : Int32} : go 95 1 ls (.inl a :: st) m = if a < 0 then go 95 14 ls st m else go 95 4 ls st m := e_if (t := 14) (b := hc .lt a 0) d95_1 (Or.inl rfl) (by simp only [xi, pI, jm_some (t := 14) (show ((1 : Nat) : Int) + 13 = ((14 : Nat) : Int) by decide), Option.bind_some]) (by simp [hc])
theorem d95_4 : decode (mt 95).2.1 4 = .ok (.iload_n 0, 1) := by decide +kernel
theorem s95_4 {st : List AV} {m : MM} {x : Int32} : go 95 4 [some (.inl x)] st m = go 95 5 [some (.inl x)] (.inl x :: st) m := e_1 d95_4 (Or.inl rfl) rfl
theorem d95_5 : decode (mt 95).2.1 5 = .ok (.bipush 8, 2) := by decide +kernel
theorem s95_5 {ls : LV} {st : List AV} {m : MM} : go 95 5 ls st m = go 95 7 ls (.inl 8 :: st) m := e_1 d95_5 (Or.inl rfl) rfl
theorem d95_7 : decode (mt 95).2.1 7 = .ok (.if_icmp .gt 7, 3) := by decide +kernel
theorem s95_7 {ls : LV} {st : List AV} {m : MM} {a b : Int32} : go 95 7 ls (.inl b :: .inl a :: st) m = if b < a then go 95 14 ls st m else go 95 10 ls st m := e_if (t := 14) (b := hc .gt a b) d95_7 (Or.inl rfl) (by simp only [xi, pI, jm_some (t := 14) (show ((7 : Nat) : Int) + 7 = ((14 : Nat) : Int) by decide), Option.bind_some]) (by simp [hc])
theorem d95_10 : decode (mt 95).2.1 10 = .ok (.iconst 1, 1) := by decide +kernel
theorem s95_10 {ls : LV} {st : List AV} {m : MM} : go 95 10 ls st m = go 95 11 ls (.inl 1 :: st) m := e_1 d95_10 (Or.inl rfl) rfl
theorem d95_11 : decode (mt 95).2.1 11 = .ok (.goto 4, 3) := by decide +kernel
theorem s95_11 {ls : LV} {st : List AV} {m : MM} : go 95 11 ls st m = go 95 15 ls st m := e_1 d95_11 (Or.inl rfl) (by rw [xi, jm_some (t := 15) (by decide)]; rfl)
theorem d95_14 : decode (mt 95).2.1 14 = .ok (.iconst 0, 1) := by decide +kernel
theorem s95_14 {ls : LV} {st : List AV} {m : MM} : go 95 14 ls st m = go 95 15 ls (.inl 0 :: st) m := e_1 d95_14 (Or.inl rfl) rfl
theorem d95_15 : decode (mt 95).2.1 15 = .ok (.ireturn, 1) := by decide +kernel
theorem s95_15b0 {ls : LV} {m : MM} : go 95 15 ls [.inl 0] m = some (some (.inl 0), m) := e_bool d95_15 (by decide +kernel) (by decide)
theorem s95_15b1 {ls : LV} {m : MM} : go 95 15 ls [.inl 1] m = some (some (.inl 1), m) := e_bool d95_15 (by decide +kernel) (by decide)
/-! X6_isInRow: 96 -/
theorem d96_0 : decode (mt 96).2.1 0 = .ok (.aload_n 0, 1) := by decide +kernel
theorem s96_0 {a1 a2 : Option AV} {st : List AV} {m : MM} {x : Nat × Option Nat} : go 96 0 [some (.inr (.inr x)), a1, a2] st m = go 96 1 [some (.inr (.inr x)), a1, a2] (.inr (.inr x) :: st) m := e_1 d96_0 (Or.inl rfl) rfl
theorem d96_1 : decode (mt 96).2.1 1 = .ok (.getfield 61, 3) := by decide +kernel
theorem s96_1 {ls : LV} {st : List AV} {m : MM} {n : Nat} : go 96 1 ls (.inr (.inr (6, some n)) :: st) m = go 96 4 ls (.inl (mI m 6 n 3) :: st) m := e_1 d96_1 (Or.inl rfl) (by rw [xi, pA, show lk fdL (mt 96).2.2.1 61 = some (6, 3) by decide +kernel]; rfl)
theorem d96_4 : decode (mt 96).2.1 4 = .ok (.iconst 2, 1) := by decide +kernel
theorem s96_4 {ls : LV} {st : List AV} {m : MM} : go 96 4 ls st m = go 96 5 ls (.inl 2 :: st) m := e_1 d96_4 (Or.inl rfl) rfl
theorem d96_5 : decode (mt 96).2.1 5 = .ok (.if_icmp .ne 16, 3) := by decide +kernel
theorem s96_5 {ls : LV} {st : List AV} {m : MM} {a b : Int32} : go 96 5 ls (.inl b :: .inl a :: st) m = if ¬ a = b then go 96 21 ls st m else go 96 8 ls st m := e_if (t := 21) (b := hc .ne a b) d96_5 (Or.inl rfl) (by simp only [xi, pI, jm_some (t := 21) (show ((5 : Nat) : Int) + 16 = ((21 : Nat) : Int) by decide), Option.bind_some]) (by simp [hc])
theorem d96_8 : decode (mt 96).2.1 8 = .ok (.aload_n 0, 1) := by decide +kernel
theorem s96_8 {a1 a2 : Option AV} {st : List AV} {m : MM} {x : Nat × Option Nat} : go 96 8 [some (.inr (.inr x)), a1, a2] st m = go 96 9 [some (.inr (.inr x)), a1, a2] (.inr (.inr x) :: st) m := e_1 d96_8 (Or.inl rfl) rfl
theorem d96_9 : decode (mt 96).2.1 9 = .ok (.aload_n 1, 1) := by decide +kernel
theorem s96_9 {a0 a2 : Option AV} {st : List AV} {m : MM} {x : Nat × Option Nat} : go 96 9 [a0, some (.inr (.inr x)), a2] st m = go 96 10 [a0, some (.inr (.inr x)), a2] (.inr (.inr x) :: st) m := e_1 d96_9 (Or.inl rfl) rfl
theorem d96_10 : decode (mt 96).2.1 10 = .ok (.iload_n 2, 1) := by decide +kernel
theorem s96_10 {a0 a1 : Option AV} {st : List AV} {m : MM} {x : Int32} : go 96 10 [a0, a1, some (.inl x)] st m = go 96 11 [a0, a1, some (.inl x)] (.inl x :: st) m := e_1 d96_10 (Or.inl rfl) rfl
theorem d96_11 : decode (mt 96).2.1 11 = .ok (.invokevirtual 342, 3) := by decide +kernel
theorem s96_11 {ls : LV} {m : MM} {x0 : Nat × Option Nat} {x1 : Int32} {n : Nat} : go 96 11 ls [.inl x1, .inr (.inr x0), .inr (.inr (6, some n))] m = bd (go 24 0 [some (.inr (.inr (6, some n))), some (.inr (.inr x0)), some (.inl x1)] [] m) (fun v m2 => go 96 14 ls (v.toList ++ []) m2) := e_virt (y1 := 24) (na := 2) (as := [.inr (.inr x0), .inl x1]) (rest := []) d96_11 (by decide +kernel) rfl (by decide +kernel) (show (ent [.inr (.inr (6, some n)), .inr (.inr x0), .inl x1]).length ≤ (mt 24).2.2.2.1 from Nat.le_of_ble_eq_true rfl) (cats_le (Nat.le_of_ble_eq_true rfl)) (by decide +kernel)
theorem d96_14 : decode (mt 96).2.1 14 = .ok (.ifCond .eq 7, 3) := by decide +kernel
theorem s96_14 {ls : LV} {st : List AV} {m : MM} {a : Int32} : go 96 14 ls (.inl a :: st) m = if a = 0 then go 96 21 ls st m else go 96 17 ls st m := e_if (t := 21) (b := hc .eq a 0) d96_14 (Or.inl rfl) (by simp only [xi, pI, jm_some (t := 21) (show ((14 : Nat) : Int) + 7 = ((21 : Nat) : Int) by decide), Option.bind_some]) (by simp [hc])
theorem d96_17 : decode (mt 96).2.1 17 = .ok (.iconst 1, 1) := by decide +kernel
theorem s96_17 {ls : LV} {st : List AV} {m : MM} : go 96 17 ls st m = go 96 18 ls (.inl 1 :: st) m := e_1 d96_17 (Or.inl rfl) rfl
theorem d96_18 : decode (mt 96).2.1 18 = .ok (.goto 4, 3) := by decide +kernel
theorem s96_18 {ls : LV} {st : List AV} {m : MM} : go 96 18 ls st m = go 96 22 ls st m := e_1 d96_18 (Or.inl rfl) (by rw [xi, jm_some (t := 22) (by decide)]; rfl)
theorem d96_21 : decode (mt 96).2.1 21 = .ok (.iconst 0, 1) := by decide +kernel
theorem s96_21 {ls : LV} {st : List AV} {m : MM} : go 96 21 ls st m = go 96 22 ls (.inl 0 :: st) m := e_1 d96_21 (Or.inl rfl) rfl
theorem d96_22 : decode (mt 96).2.1 22 = .ok (.ireturn, 1) := by decide +kernel
theorem s96_22b0 {ls : LV} {m : MM} : go 96 22 ls [.inl 0] m = some (some (.inl 0), m) := e_bool d96_22 (by decide +kernel) (by decide)
theorem s96_22b1 {ls : LV} {m : MM} : go 96 22 ls [.inl 1] m = some (some (.inl 1), m) := e_bool d96_22 (by decide +kernel) (by decide)
/-! X6_rankInRow: 97 -/
theorem d97_0 : decode (mt 97).2.1 0 = .ok (.iconst 0, 1) := by decide +kernel
theorem s97_0 {ls : LV} {st : List AV} {m : MM} : go 97 0 ls st m = go 97 1 ls (.inl 0 :: st) m := e_1 d97_0 (Or.inl rfl) rfl
theorem d97_1 : decode (mt 97).2.1 1 = .ok (.istore 4, 2) := by decide +kernel
theorem s97_1i {a0 a1 a2 a4 a5 : Option AV} {z : Int32} {st : List AV} {m : MM} {x : Int32} : go 97 1 [a0, a1, a2, some (.inl z), a4, a5] (.inl x :: st) m = go 97 3 [a0, a1, a2, some (.inl z), some (.inl x), a5] st m := e_1 d97_1 (Or.inl rfl) rfl
theorem s97_1r {a0 a1 a2 a4 a5 : Option AV} {z : Nat × Option Nat} {st : List AV} {m : MM} {x : Int32} : go 97 1 [a0, a1, a2, some (.inr (.inr z)), a4, a5] (.inl x :: st) m = go 97 3 [a0, a1, a2, some (.inr (.inr z)), some (.inl x), a5] st m := e_1 d97_1 (Or.inl rfl) rfl
theorem s97_1n {a0 a1 a2 a4 a5 : Option AV} {st : List AV} {m : MM} {x : Int32} : go 97 1 [a0, a1, a2, none, a4, a5] (.inl x :: st) m = go 97 3 [a0, a1, a2, none, some (.inl x), a5] st m := e_1 d97_1 (Or.inl rfl) rfl
theorem d97_3 : decode (mt 97).2.1 3 = .ok (.iconst 0, 1) := by decide +kernel
theorem s97_3 {ls : LV} {st : List AV} {m : MM} : go 97 3 ls st m = go 97 4 ls (.inl 0 :: st) m := e_1 d97_3 (Or.inl rfl) rfl
theorem d97_4 : decode (mt 97).2.1 4 = .ok (.istore 5, 2) := by decide +kernel
theorem s97_4i {a0 a1 a2 a3 a5 : Option AV} {z : Int32} {st : List AV} {m : MM} {x : Int32} : go 97 4 [a0, a1, a2, a3, some (.inl z), a5] (.inl x :: st) m = go 97 6 [a0, a1, a2, a3, some (.inl z), some (.inl x)] st m := e_1 d97_4 (Or.inl rfl) rfl
theorem s97_4r {a0 a1 a2 a3 a5 : Option AV} {z : Nat × Option Nat} {st : List AV} {m : MM} {x : Int32} : go 97 4 [a0, a1, a2, a3, some (.inr (.inr z)), a5] (.inl x :: st) m = go 97 6 [a0, a1, a2, a3, some (.inr (.inr z)), some (.inl x)] st m := e_1 d97_4 (Or.inl rfl) rfl
theorem s97_4n {a0 a1 a2 a3 a5 : Option AV} {st : List AV} {m : MM} {x : Int32} : go 97 4 [a0, a1, a2, a3, none, a5] (.inl x :: st) m = go 97 6 [a0, a1, a2, a3, none, some (.inl x)] st m := e_1 d97_4 (Or.inl rfl) rfl
theorem d97_6 : decode (mt 97).2.1 6 = .ok (.iload 5, 2) := by decide +kernel
theorem s97_6 {a0 a1 a2 a3 a4 : Option AV} {st : List AV} {m : MM} {x : Int32} : go 97 6 [a0, a1, a2, a3, a4, some (.inl x)] st m = go 97 8 [a0, a1, a2, a3, a4, some (.inl x)] (.inl x :: st) m := e_1 d97_6 (Or.inl rfl) rfl
theorem d97_8 : decode (mt 97).2.1 8 = .ok (.aload_n 0, 1) := by decide +kernel
theorem s97_8 {a1 a2 a3 a4 a5 : Option AV} {st : List AV} {m : MM} {x : Nat × Option Nat} : go 97 8 [some (.inr (.inr x)), a1, a2, a3, a4, a5] st m = go 97 9 [some (.inr (.inr x)), a1, a2, a3, a4, a5] (.inr (.inr x) :: st) m := e_1 d97_8 (Or.inl rfl) rfl
theorem d97_9 : decode (mt 97).2.1 9 = .ok (.getfield 52, 3) := by decide +kernel
theorem s97_9 {ls : LV} {st : List AV} {m : MM} {n : Nat} : go 97 9 ls (.inr (.inr (7, some n)) :: st) m = go 97 12 ls (.inl (mI m 7 n 1) :: st) m := e_1 d97_9 (Or.inl rfl) (by rw [xi, pA, show lk fdL (mt 97).2.2.1 52 = some (7, 1) by decide +kernel]; rfl)
theorem d97_12 : decode (mt 97).2.1 12 = .ok (.if_icmp .ge 51, 3) := by decide +kernel
theorem s97_12 {ls : LV} {st : List AV} {m : MM} {a b : Int32} : go 97 12 ls (.inl b :: .inl a :: st) m = if b ≤ a then go 97 63 ls st m else go 97 15 ls st m := e_if (t := 63) (b := hc .ge a b) d97_12 (Or.inl rfl) (by simp only [xi, pI, jm_some (t := 63) (show ((12 : Nat) : Int) + 51 = ((63 : Nat) : Int) by decide), Option.bind_some]) (by simp [hc])
theorem d97_15 : decode (mt 97).2.1 15 = .ok (.iload 4, 2) := by decide +kernel
theorem s97_15 {a0 a1 a2 a3 a5 : Option AV} {st : List AV} {m : MM} {x : Int32} : go 97 15 [a0, a1, a2, a3, some (.inl x), a5] st m = go 97 17 [a0, a1, a2, a3, some (.inl x), a5] (.inl x :: st) m := e_1 d97_15 (Or.inl rfl) rfl
theorem d97_17 : decode (mt 97).2.1 17 = .ok (.aload_n 0, 1) := by decide +kernel
theorem s97_17 {a1 a2 a3 a4 a5 : Option AV} {st : List AV} {m : MM} {x : Nat × Option Nat} : go 97 17 [some (.inr (.inr x)), a1, a2, a3, a4, a5] st m = go 97 18 [some (.inr (.inr x)), a1, a2, a3, a4, a5] (.inr (.inr x) :: st) m := e_1 d97_17 (Or.inl rfl) rfl
theorem d97_18 : decode (mt 97).2.1 18 = .ok (.getfield 11, 3) := by decide +kernel
theorem s97_18 {ls : LV} {st : List AV} {m : MM} {n : Nat} : go 97 18 ls (.inr (.inr (7, some n)) :: st) m = go 97 21 ls (.inr (.inr (16, mR m 7 n 0)) :: st) m := e_1 d97_18 (Or.inl rfl) (by rw [xi, pA, show lk fdL (mt 97).2.2.1 11 = some (7, 0) by decide +kernel]; rfl)
theorem d97_21 : decode (mt 97).2.1 21 = .ok (.iload 5, 2) := by decide +kernel
theorem s97_21 {a0 a1 a2 a3 a4 : Option AV} {st : List AV} {m : MM} {x : Int32} : go 97 21 [a0, a1, a2, a3, a4, some (.inl x)] st m = go 97 23 [a0, a1, a2, a3, a4, some (.inl x)] (.inl x :: st) m := e_1 d97_21 (Or.inl rfl) rfl
theorem d97_23 : decode (mt 97).2.1 23 = .ok (.aaload, 1) := by decide +kernel
theorem s97_23 {ls : LV} {st : List AV} {m : MM} {n : Nat} {i : Int32} : go 97 23 ls (.inl i :: .inr (.inr (16, some n)) :: st) m = ixk (ix i (mN m 16 n)) (fun j => go 97 24 ls (.inr (.inr (6, mR m 16 n j)) :: st) m) := e_ald d97_23 (fun j hj => by simp only [xi, pI, pA, hj, Option.bind_some]; rfl) (fun hj => by simp only [xi, pI, pA, hj, Option.bind_none])
theorem d97_24 : decode (mt 97).2.1 24 = .ok (.aload_n 2, 1) := by decide +kernel
theorem s97_24 {a0 a1 a3 a4 a5 : Option AV} {st : List AV} {m : MM} {x : Nat × Option Nat} : go 97 24 [a0, a1, some (.inr (.inr x)), a3, a4, a5] st m = go 97 25 [a0, a1, some (.inr (.inr x)), a3, a4, a5] (.inr (.inr x) :: st) m := e_1 d97_24 (Or.inl rfl) rfl
theorem d97_25 : decode (mt 97).2.1 25 = .ok (.iload_n 3, 1) := by decide +kernel
theorem s97_25 {a0 a1 a2 a4 a5 : Option AV} {st : List AV} {m : MM} {x : Int32} : go 97 25 [a0, a1, a2, some (.inl x), a4, a5] st m = go 97 26 [a0, a1, a2, some (.inl x), a4, a5] (.inl x :: st) m := e_1 d97_25 (Or.inl rfl) rfl
theorem d97_26 : decode (mt 97).2.1 26 = .ok (.invokestatic 376, 3) := by decide +kernel
theorem s97_26 {ls : LV} {m : MM} {x0 : Nat × Option Nat} {x1 : Nat × Option Nat} {x2 : Int32} {w0 : AV} : go 97 26 ls [.inl x2, .inr (.inr x1), .inr (.inr x0), w0] m = bd (go 96 0 [some (.inr (.inr x0)), some (.inr (.inr x1)), some (.inl x2)] [] m) (fun v m2 => go 97 29 ls (v.toList ++ [w0]) m2) := e_stat (y1 := 96) (na := 3) (as := [.inr (.inr x0), .inr (.inr x1), .inl x2]) (rest := [w0]) d97_26 (by decide +kernel) rfl (by decide +kernel) (show (ent [.inr (.inr x0), .inr (.inr x1), .inl x2]).length ≤ (mt 96).2.2.2.1 from Nat.le_of_ble_eq_true rfl) (cats_le (Nat.le_of_ble_eq_true rfl)) (by decide +kernel)
theorem d97_29 : decode (mt 97).2.1 29 = .ok (.ifCond .eq 24, 3) := by decide +kernel
theorem s97_29 {ls : LV} {st : List AV} {m : MM} {a : Int32} : go 97 29 ls (.inl a :: st) m = if a = 0 then go 97 53 ls st m else go 97 32 ls st m := e_if (t := 53) (b := hc .eq a 0) d97_29 (Or.inl rfl) (by simp only [xi, pI, jm_some (t := 53) (show ((29 : Nat) : Int) + 24 = ((53 : Nat) : Int) by decide), Option.bind_some]) (by simp [hc])
theorem d97_32 : decode (mt 97).2.1 32 = .ok (.aload_n 0, 1) := by decide +kernel
theorem s97_32 {a1 a2 a3 a4 a5 : Option AV} {st : List AV} {m : MM} {x : Nat × Option Nat} : go 97 32 [some (.inr (.inr x)), a1, a2, a3, a4, a5] st m = go 97 33 [some (.inr (.inr x)), a1, a2, a3, a4, a5] (.inr (.inr x) :: st) m := e_1 d97_32 (Or.inl rfl) rfl
theorem d97_33 : decode (mt 97).2.1 33 = .ok (.getfield 11, 3) := by decide +kernel
theorem s97_33 {ls : LV} {st : List AV} {m : MM} {n : Nat} : go 97 33 ls (.inr (.inr (7, some n)) :: st) m = go 97 36 ls (.inr (.inr (16, mR m 7 n 0)) :: st) m := e_1 d97_33 (Or.inl rfl) (by rw [xi, pA, show lk fdL (mt 97).2.2.1 11 = some (7, 0) by decide +kernel]; rfl)
theorem d97_36 : decode (mt 97).2.1 36 = .ok (.iload 5, 2) := by decide +kernel
theorem s97_36 {a0 a1 a2 a3 a4 : Option AV} {st : List AV} {m : MM} {x : Int32} : go 97 36 [a0, a1, a2, a3, a4, some (.inl x)] st m = go 97 38 [a0, a1, a2, a3, a4, some (.inl x)] (.inl x :: st) m := e_1 d97_36 (Or.inl rfl) rfl
theorem d97_38 : decode (mt 97).2.1 38 = .ok (.aaload, 1) := by decide +kernel
theorem s97_38 {ls : LV} {st : List AV} {m : MM} {n : Nat} {i : Int32} : go 97 38 ls (.inl i :: .inr (.inr (16, some n)) :: st) m = ixk (ix i (mN m 16 n)) (fun j => go 97 39 ls (.inr (.inr (6, mR m 16 n j)) :: st) m) := e_ald d97_38 (fun j hj => by simp only [xi, pI, pA, hj, Option.bind_some]; rfl) (fun hj => by simp only [xi, pI, pA, hj, Option.bind_none])
theorem d97_39 : decode (mt 97).2.1 39 = .ok (.getfield 58, 3) := by decide +kernel
theorem s97_39 {ls : LV} {st : List AV} {m : MM} {n : Nat} : go 97 39 ls (.inr (.inr (6, some n)) :: st) m = go 97 42 ls (.inl (mI m 6 n 1) :: st) m := e_1 d97_39 (Or.inl rfl) (by rw [xi, pA, show lk fdL (mt 97).2.2.1 58 = some (6, 1) by decide +kernel]; rfl)
theorem d97_42 : decode (mt 97).2.1 42 = .ok (.aload_n 1, 1) := by decide +kernel
theorem s97_42 {a0 a2 a3 a4 a5 : Option AV} {st : List AV} {m : MM} {x : Nat × Option Nat} : go 97 42 [a0, some (.inr (.inr x)), a2, a3, a4, a5] st m = go 97 43 [a0, some (.inr (.inr x)), a2, a3, a4, a5] (.inr (.inr x) :: st) m := e_1 d97_42 (Or.inl rfl) rfl
theorem d97_43 : decode (mt 97).2.1 43 = .ok (.getfield 58, 3) := by decide +kernel
theorem s97_43 {ls : LV} {st : List AV} {m : MM} {n : Nat} : go 97 43 ls (.inr (.inr (6, some n)) :: st) m = go 97 46 ls (.inl (mI m 6 n 1) :: st) m := e_1 d97_43 (Or.inl rfl) (by rw [xi, pA, show lk fdL (mt 97).2.2.1 58 = some (6, 1) by decide +kernel]; rfl)
theorem d97_46 : decode (mt 97).2.1 46 = .ok (.if_icmp .ge 7, 3) := by decide +kernel
theorem s97_46 {ls : LV} {st : List AV} {m : MM} {a b : Int32} : go 97 46 ls (.inl b :: .inl a :: st) m = if b ≤ a then go 97 53 ls st m else go 97 49 ls st m := e_if (t := 53) (b := hc .ge a b) d97_46 (Or.inl rfl) (by simp only [xi, pI, jm_some (t := 53) (show ((46 : Nat) : Int) + 7 = ((53 : Nat) : Int) by decide), Option.bind_some]) (by simp [hc])
theorem d97_49 : decode (mt 97).2.1 49 = .ok (.iconst 1, 1) := by decide +kernel
theorem s97_49 {ls : LV} {st : List AV} {m : MM} : go 97 49 ls st m = go 97 50 ls (.inl 1 :: st) m := e_1 d97_49 (Or.inl rfl) rfl
theorem d97_50 : decode (mt 97).2.1 50 = .ok (.goto 4, 3) := by decide +kernel
theorem s97_50 {ls : LV} {st : List AV} {m : MM} : go 97 50 ls st m = go 97 54 ls st m := e_1 d97_50 (Or.inl rfl) (by rw [xi, jm_some (t := 54) (by decide)]; rfl)
theorem d97_53 : decode (mt 97).2.1 53 = .ok (.iconst 0, 1) := by decide +kernel
theorem s97_53 {ls : LV} {st : List AV} {m : MM} : go 97 53 ls st m = go 97 54 ls (.inl 0 :: st) m := e_1 d97_53 (Or.inl rfl) rfl
theorem d97_54 : decode (mt 97).2.1 54 = .ok (.iadd, 1) := by decide +kernel
theorem s97_54 {ls : LV} {st : List AV} {m : MM} {a b : Int32} : go 97 54 ls (.inl b :: .inl a :: st) m = go 97 55 ls (.inl (a + b) :: st) m := e_1 d97_54 (Or.inl rfl) rfl
theorem d97_55 : decode (mt 97).2.1 55 = .ok (.istore 4, 2) := by decide +kernel
theorem s97_55i {a0 a1 a2 a4 a5 : Option AV} {z : Int32} {st : List AV} {m : MM} {x : Int32} : go 97 55 [a0, a1, a2, some (.inl z), a4, a5] (.inl x :: st) m = go 97 57 [a0, a1, a2, some (.inl z), some (.inl x), a5] st m := e_1 d97_55 (Or.inl rfl) rfl
theorem s97_55r {a0 a1 a2 a4 a5 : Option AV} {z : Nat × Option Nat} {st : List AV} {m : MM} {x : Int32} : go 97 55 [a0, a1, a2, some (.inr (.inr z)), a4, a5] (.inl x :: st) m = go 97 57 [a0, a1, a2, some (.inr (.inr z)), some (.inl x), a5] st m := e_1 d97_55 (Or.inl rfl) rfl
theorem s97_55n {a0 a1 a2 a4 a5 : Option AV} {st : List AV} {m : MM} {x : Int32} : go 97 55 [a0, a1, a2, none, a4, a5] (.inl x :: st) m = go 97 57 [a0, a1, a2, none, some (.inl x), a5] st m := e_1 d97_55 (Or.inl rfl) rfl
theorem d97_57 : decode (mt 97).2.1 57 = .ok (.iinc 5 1, 3) := by decide +kernel
theorem s97_57i {a0 a1 a2 a3 : Option AV} {z : Int32} {st : List AV} {m : MM} {x : Int32} : go 97 57 [a0, a1, a2, a3, some (.inl z), some (.inl x)] st m = go 97 60 [a0, a1, a2, a3, some (.inl z), some (.inl (x + 1))] st m := e_1 d97_57 (Or.inl rfl) rfl
theorem s97_57r {a0 a1 a2 a3 : Option AV} {z : Nat × Option Nat} {st : List AV} {m : MM} {x : Int32} : go 97 57 [a0, a1, a2, a3, some (.inr (.inr z)), some (.inl x)] st m = go 97 60 [a0, a1, a2, a3, some (.inr (.inr z)), some (.inl (x + 1))] st m := e_1 d97_57 (Or.inl rfl) rfl
theorem s97_57n {a0 a1 a2 a3 : Option AV} {st : List AV} {m : MM} {x : Int32} : go 97 57 [a0, a1, a2, a3, none, some (.inl x)] st m = go 97 60 [a0, a1, a2, a3, none, some (.inl (x + 1))] st m := e_1 d97_57 (Or.inl rfl) rfl
theorem d97_60 : decode (mt 97).2.1 60 = .ok (.goto (-54), 3) := by decide +kernel
theorem s97_60 {ls : LV} {st : List AV} {m : MM} : go 97 60 ls st m = go 97 6 ls st m := e_1 d97_60 (Or.inl rfl) (by rw [xi, jm_some (t := 6) (by decide)]; rfl)
theorem d97_63 : decode (mt 97).2.1 63 = .ok (.iload 4, 2) := by decide +kernel
theorem s97_63 {a0 a1 a2 a3 a5 : Option AV} {st : List AV} {m : MM} {x : Int32} : go 97 63 [a0, a1, a2, a3, some (.inl x), a5] st m = go 97 65 [a0, a1, a2, a3, some (.inl x), a5] (.inl x :: st) m := e_1 d97_63 (Or.inl rfl) rfl
theorem d97_65 : decode (mt 97).2.1 65 = .ok (.ireturn, 1) := by decide +kernel
theorem s97_65 {ls : LV} {m : MM} {x : Int32} : go 97 65 ls [.inl x] m = some (some (.inl x), m) := e_int d97_65 (by decide +kernel)
/-! X6_nextInRow: 98 -/
theorem d98_0 : decode (mt 98).2.1 0 = .ok (.aconst_null, 1) := by decide +kernel
theorem s98_0 {ls : LV} {st : List AV} {m : MM} : go 98 0 ls st m = go 98 1 ls (.inr (.inr (0, none)) :: st) m := e_1 d98_0 (Or.inl rfl) rfl
theorem d98_1 : decode (mt 98).2.1 1 = .ok (.astore 4, 2) := by decide +kernel
theorem s98_1i {a0 a1 a2 a4 a5 a6 : Option AV} {z : Int32} {st : List AV} {m : MM} {x : Nat × Option Nat} : go 98 1 [a0, a1, a2, some (.inl z), a4, a5, a6] (.inr (.inr x) :: st) m = go 98 3 [a0, a1, a2, some (.inl z), some (.inr (.inr x)), a5, a6] st m := e_1 d98_1 (Or.inl rfl) rfl
theorem s98_1r {a0 a1 a2 a4 a5 a6 : Option AV} {z : Nat × Option Nat} {st : List AV} {m : MM} {x : Nat × Option Nat} : go 98 1 [a0, a1, a2, some (.inr (.inr z)), a4, a5, a6] (.inr (.inr x) :: st) m = go 98 3 [a0, a1, a2, some (.inr (.inr z)), some (.inr (.inr x)), a5, a6] st m := e_1 d98_1 (Or.inl rfl) rfl
theorem s98_1n {a0 a1 a2 a4 a5 a6 : Option AV} {st : List AV} {m : MM} {x : Nat × Option Nat} : go 98 1 [a0, a1, a2, none, a4, a5, a6] (.inr (.inr x) :: st) m = go 98 3 [a0, a1, a2, none, some (.inr (.inr x)), a5, a6] st m := e_1 d98_1 (Or.inl rfl) rfl
theorem d98_3 : decode (mt 98).2.1 3 = .ok (.iconst 0, 1) := by decide +kernel
theorem s98_3 {ls : LV} {st : List AV} {m : MM} : go 98 3 ls st m = go 98 4 ls (.inl 0 :: st) m := e_1 d98_3 (Or.inl rfl) rfl
theorem d98_4 : decode (mt 98).2.1 4 = .ok (.istore 5, 2) := by decide +kernel
theorem s98_4i {a0 a1 a2 a3 a5 a6 : Option AV} {z : Int32} {st : List AV} {m : MM} {x : Int32} : go 98 4 [a0, a1, a2, a3, some (.inl z), a5, a6] (.inl x :: st) m = go 98 6 [a0, a1, a2, a3, some (.inl z), some (.inl x), a6] st m := e_1 d98_4 (Or.inl rfl) rfl
theorem s98_4r {a0 a1 a2 a3 a5 a6 : Option AV} {z : Nat × Option Nat} {st : List AV} {m : MM} {x : Int32} : go 98 4 [a0, a1, a2, a3, some (.inr (.inr z)), a5, a6] (.inl x :: st) m = go 98 6 [a0, a1, a2, a3, some (.inr (.inr z)), some (.inl x), a6] st m := e_1 d98_4 (Or.inl rfl) rfl
theorem s98_4n {a0 a1 a2 a3 a5 a6 : Option AV} {st : List AV} {m : MM} {x : Int32} : go 98 4 [a0, a1, a2, a3, none, a5, a6] (.inl x :: st) m = go 98 6 [a0, a1, a2, a3, none, some (.inl x), a6] st m := e_1 d98_4 (Or.inl rfl) rfl
theorem d98_6 : decode (mt 98).2.1 6 = .ok (.iload 5, 2) := by decide +kernel
theorem s98_6 {a0 a1 a2 a3 a4 a6 : Option AV} {st : List AV} {m : MM} {x : Int32} : go 98 6 [a0, a1, a2, a3, a4, some (.inl x), a6] st m = go 98 8 [a0, a1, a2, a3, a4, some (.inl x), a6] (.inl x :: st) m := e_1 d98_6 (Or.inl rfl) rfl
theorem d98_8 : decode (mt 98).2.1 8 = .ok (.aload_n 0, 1) := by decide +kernel
theorem s98_8 {a1 a2 a3 a4 a5 a6 : Option AV} {st : List AV} {m : MM} {x : Nat × Option Nat} : go 98 8 [some (.inr (.inr x)), a1, a2, a3, a4, a5, a6] st m = go 98 9 [some (.inr (.inr x)), a1, a2, a3, a4, a5, a6] (.inr (.inr x) :: st) m := e_1 d98_8 (Or.inl rfl) rfl
theorem d98_9 : decode (mt 98).2.1 9 = .ok (.getfield 52, 3) := by decide +kernel
theorem s98_9 {ls : LV} {st : List AV} {m : MM} {n : Nat} : go 98 9 ls (.inr (.inr (7, some n)) :: st) m = go 98 12 ls (.inl (mI m 7 n 1) :: st) m := e_1 d98_9 (Or.inl rfl) (by rw [xi, pA, show lk fdL (mt 98).2.2.1 52 = some (7, 1) by decide +kernel]; rfl)
theorem d98_12 : decode (mt 98).2.1 12 = .ok (.if_icmp .ge 58, 3) := by decide +kernel
theorem s98_12 {ls : LV} {st : List AV} {m : MM} {a b : Int32} : go 98 12 ls (.inl b :: .inl a :: st) m = if b ≤ a then go 98 70 ls st m else go 98 15 ls st m := e_if (t := 70) (b := hc .ge a b) d98_12 (Or.inl rfl) (by simp only [xi, pI, jm_some (t := 70) (show ((12 : Nat) : Int) + 58 = ((70 : Nat) : Int) by decide), Option.bind_some]) (by simp [hc])
theorem d98_15 : decode (mt 98).2.1 15 = .ok (.aload_n 0, 1) := by decide +kernel
theorem s98_15 {a1 a2 a3 a4 a5 a6 : Option AV} {st : List AV} {m : MM} {x : Nat × Option Nat} : go 98 15 [some (.inr (.inr x)), a1, a2, a3, a4, a5, a6] st m = go 98 16 [some (.inr (.inr x)), a1, a2, a3, a4, a5, a6] (.inr (.inr x) :: st) m := e_1 d98_15 (Or.inl rfl) rfl
theorem d98_16 : decode (mt 98).2.1 16 = .ok (.getfield 11, 3) := by decide +kernel
theorem s98_16 {ls : LV} {st : List AV} {m : MM} {n : Nat} : go 98 16 ls (.inr (.inr (7, some n)) :: st) m = go 98 19 ls (.inr (.inr (16, mR m 7 n 0)) :: st) m := e_1 d98_16 (Or.inl rfl) (by rw [xi, pA, show lk fdL (mt 98).2.2.1 11 = some (7, 0) by decide +kernel]; rfl)
theorem d98_19 : decode (mt 98).2.1 19 = .ok (.iload 5, 2) := by decide +kernel
theorem s98_19 {a0 a1 a2 a3 a4 a6 : Option AV} {st : List AV} {m : MM} {x : Int32} : go 98 19 [a0, a1, a2, a3, a4, some (.inl x), a6] st m = go 98 21 [a0, a1, a2, a3, a4, some (.inl x), a6] (.inl x :: st) m := e_1 d98_19 (Or.inl rfl) rfl
theorem d98_21 : decode (mt 98).2.1 21 = .ok (.aaload, 1) := by decide +kernel
theorem s98_21 {ls : LV} {st : List AV} {m : MM} {n : Nat} {i : Int32} : go 98 21 ls (.inl i :: .inr (.inr (16, some n)) :: st) m = ixk (ix i (mN m 16 n)) (fun j => go 98 22 ls (.inr (.inr (6, mR m 16 n j)) :: st) m) := e_ald d98_21 (fun j hj => by simp only [xi, pI, pA, hj, Option.bind_some]; rfl) (fun hj => by simp only [xi, pI, pA, hj, Option.bind_none])
theorem d98_22 : decode (mt 98).2.1 22 = .ok (.astore 6, 2) := by decide +kernel
theorem s98_22i {a0 a1 a2 a3 a4 a6 : Option AV} {z : Int32} {st : List AV} {m : MM} {x : Nat × Option Nat} : go 98 22 [a0, a1, a2, a3, a4, some (.inl z), a6] (.inr (.inr x) :: st) m = go 98 24 [a0, a1, a2, a3, a4, some (.inl z), some (.inr (.inr x))] st m := e_1 d98_22 (Or.inl rfl) rfl
theorem s98_22r {a0 a1 a2 a3 a4 a6 : Option AV} {z : Nat × Option Nat} {st : List AV} {m : MM} {x : Nat × Option Nat} : go 98 22 [a0, a1, a2, a3, a4, some (.inr (.inr z)), a6] (.inr (.inr x) :: st) m = go 98 24 [a0, a1, a2, a3, a4, some (.inr (.inr z)), some (.inr (.inr x))] st m := e_1 d98_22 (Or.inl rfl) rfl
theorem s98_22n {a0 a1 a2 a3 a4 a6 : Option AV} {st : List AV} {m : MM} {x : Nat × Option Nat} : go 98 22 [a0, a1, a2, a3, a4, none, a6] (.inr (.inr x) :: st) m = go 98 24 [a0, a1, a2, a3, a4, none, some (.inr (.inr x))] st m := e_1 d98_22 (Or.inl rfl) rfl
theorem d98_24 : decode (mt 98).2.1 24 = .ok (.aload 6, 2) := by decide +kernel
theorem s98_24 {a0 a1 a2 a3 a4 a5 : Option AV} {st : List AV} {m : MM} {x : Nat × Option Nat} : go 98 24 [a0, a1, a2, a3, a4, a5, some (.inr (.inr x))] st m = go 98 26 [a0, a1, a2, a3, a4, a5, some (.inr (.inr x))] (.inr (.inr x) :: st) m := e_1 d98_24 (Or.inl rfl) rfl
theorem d98_26 : decode (mt 98).2.1 26 = .ok (.aload_n 1, 1) := by decide +kernel
theorem s98_26 {a0 a2 a3 a4 a5 a6 : Option AV} {st : List AV} {m : MM} {x : Nat × Option Nat} : go 98 26 [a0, some (.inr (.inr x)), a2, a3, a4, a5, a6] st m = go 98 27 [a0, some (.inr (.inr x)), a2, a3, a4, a5, a6] (.inr (.inr x) :: st) m := e_1 d98_26 (Or.inl rfl) rfl
theorem d98_27 : decode (mt 98).2.1 27 = .ok (.iload_n 2, 1) := by decide +kernel
theorem s98_27 {a0 a1 a3 a4 a5 a6 : Option AV} {st : List AV} {m : MM} {x : Int32} : go 98 27 [a0, a1, some (.inl x), a3, a4, a5, a6] st m = go 98 28 [a0, a1, some (.inl x), a3, a4, a5, a6] (.inl x :: st) m := e_1 d98_27 (Or.inl rfl) rfl
theorem d98_28 : decode (mt 98).2.1 28 = .ok (.invokestatic 376, 3) := by decide +kernel
theorem s98_28 {ls : LV} {m : MM} {x0 : Nat × Option Nat} {x1 : Nat × Option Nat} {x2 : Int32} : go 98 28 ls [.inl x2, .inr (.inr x1), .inr (.inr x0)] m = bd (go 96 0 [some (.inr (.inr x0)), some (.inr (.inr x1)), some (.inl x2)] [] m) (fun v m2 => go 98 31 ls (v.toList ++ []) m2) := e_stat (y1 := 96) (na := 3) (as := [.inr (.inr x0), .inr (.inr x1), .inl x2]) (rest := []) d98_28 (by decide +kernel) rfl (by decide +kernel) (show (ent [.inr (.inr x0), .inr (.inr x1), .inl x2]).length ≤ (mt 96).2.2.2.1 from Nat.le_of_ble_eq_true rfl) (cats_le (Nat.le_of_ble_eq_true rfl)) (by decide +kernel)
theorem d98_31 : decode (mt 98).2.1 31 = .ok (.ifCond .eq 33, 3) := by decide +kernel
theorem s98_31 {ls : LV} {st : List AV} {m : MM} {a : Int32} : go 98 31 ls (.inl a :: st) m = if a = 0 then go 98 64 ls st m else go 98 34 ls st m := e_if (t := 64) (b := hc .eq a 0) d98_31 (Or.inl rfl) (by simp only [xi, pI, jm_some (t := 64) (show ((31 : Nat) : Int) + 33 = ((64 : Nat) : Int) by decide), Option.bind_some]) (by simp [hc])
theorem d98_34 : decode (mt 98).2.1 34 = .ok (.aload 6, 2) := by decide +kernel
theorem s98_34 {a0 a1 a2 a3 a4 a5 : Option AV} {st : List AV} {m : MM} {x : Nat × Option Nat} : go 98 34 [a0, a1, a2, a3, a4, a5, some (.inr (.inr x))] st m = go 98 36 [a0, a1, a2, a3, a4, a5, some (.inr (.inr x))] (.inr (.inr x) :: st) m := e_1 d98_34 (Or.inl rfl) rfl
theorem d98_36 : decode (mt 98).2.1 36 = .ok (.aload_n 1, 1) := by decide +kernel
theorem s98_36 {a0 a2 a3 a4 a5 a6 : Option AV} {st : List AV} {m : MM} {x : Nat × Option Nat} : go 98 36 [a0, some (.inr (.inr x)), a2, a3, a4, a5, a6] st m = go 98 37 [a0, some (.inr (.inr x)), a2, a3, a4, a5, a6] (.inr (.inr x) :: st) m := e_1 d98_36 (Or.inl rfl) rfl
theorem d98_37 : decode (mt 98).2.1 37 = .ok (.iload_n 3, 1) := by decide +kernel
theorem s98_37 {a0 a1 a2 a4 a5 a6 : Option AV} {st : List AV} {m : MM} {x : Int32} : go 98 37 [a0, a1, a2, some (.inl x), a4, a5, a6] st m = go 98 38 [a0, a1, a2, some (.inl x), a4, a5, a6] (.inl x :: st) m := e_1 d98_37 (Or.inl rfl) rfl
theorem d98_38 : decode (mt 98).2.1 38 = .ok (.invokevirtual 404, 3) := by decide +kernel
theorem s98_38 {ls : LV} {m : MM} {x0 : Nat × Option Nat} {x1 : Int32} {n : Nat} : go 98 38 ls [.inl x1, .inr (.inr x0), .inr (.inr (6, some n))] m = bd (go 25 0 [some (.inr (.inr (6, some n))), some (.inr (.inr x0)), some (.inl x1)] [] m) (fun v m2 => go 98 41 ls (v.toList ++ []) m2) := e_virt (y1 := 25) (na := 2) (as := [.inr (.inr x0), .inl x1]) (rest := []) d98_38 (by decide +kernel) rfl (by decide +kernel) (show (ent [.inr (.inr (6, some n)), .inr (.inr x0), .inl x1]).length ≤ (mt 25).2.2.2.1 from Nat.le_of_ble_eq_true rfl) (cats_le (Nat.le_of_ble_eq_true rfl)) (by decide +kernel)
theorem d98_41 : decode (mt 98).2.1 41 = .ok (.ifCond .eq 23, 3) := by decide +kernel
theorem s98_41 {ls : LV} {st : List AV} {m : MM} {a : Int32} : go 98 41 ls (.inl a :: st) m = if a = 0 then go 98 64 ls st m else go 98 44 ls st m := e_if (t := 64) (b := hc .eq a 0) d98_41 (Or.inl rfl) (by simp only [xi, pI, jm_some (t := 64) (show ((41 : Nat) : Int) + 23 = ((64 : Nat) : Int) by decide), Option.bind_some]) (by simp [hc])
theorem d98_44 : decode (mt 98).2.1 44 = .ok (.aload 4, 2) := by decide +kernel
theorem s98_44 {a0 a1 a2 a3 a5 a6 : Option AV} {st : List AV} {m : MM} {x : Nat × Option Nat} : go 98 44 [a0, a1, a2, a3, some (.inr (.inr x)), a5, a6] st m = go 98 46 [a0, a1, a2, a3, some (.inr (.inr x)), a5, a6] (.inr (.inr x) :: st) m := e_1 d98_44 (Or.inl rfl) rfl
theorem d98_46 : decode (mt 98).2.1 46 = .ok (.ifnull 14, 3) := by decide +kernel
theorem s98_46n {u : Nat} {ls : LV} {st : List AV} {m : MM} : go 98 46 ls (.inr (.inr (u, none)) :: st) m = go 98 60 ls st m := e_1 d98_46 (Or.inl rfl) (by rw [xi, jm_some (t := 60) (by decide)]; rfl)
theorem s98_46s {u n : Nat} {ls : LV} {st : List AV} {m : MM} : go 98 46 ls (.inr (.inr (u, some n)) :: st) m = go 98 49 ls st m := e_1 d98_46 (Or.inl rfl) (by rw [xi, jm_some (t := 60) (by decide)]; rfl)
theorem d98_49 : decode (mt 98).2.1 49 = .ok (.aload 4, 2) := by decide +kernel
theorem s98_49 {a0 a1 a2 a3 a5 a6 : Option AV} {st : List AV} {m : MM} {x : Nat × Option Nat} : go 98 49 [a0, a1, a2, a3, some (.inr (.inr x)), a5, a6] st m = go 98 51 [a0, a1, a2, a3, some (.inr (.inr x)), a5, a6] (.inr (.inr x) :: st) m := e_1 d98_49 (Or.inl rfl) rfl
theorem d98_51 : decode (mt 98).2.1 51 = .ok (.aload 6, 2) := by decide +kernel
theorem s98_51 {a0 a1 a2 a3 a4 a5 : Option AV} {st : List AV} {m : MM} {x : Nat × Option Nat} : go 98 51 [a0, a1, a2, a3, a4, a5, some (.inr (.inr x))] st m = go 98 53 [a0, a1, a2, a3, a4, a5, some (.inr (.inr x))] (.inr (.inr x) :: st) m := e_1 d98_51 (Or.inl rfl) rfl
theorem d98_53 : decode (mt 98).2.1 53 = .ok (.iload_n 3, 1) := by decide +kernel
theorem s98_53 {a0 a1 a2 a4 a5 a6 : Option AV} {st : List AV} {m : MM} {x : Int32} : go 98 53 [a0, a1, a2, some (.inl x), a4, a5, a6] st m = go 98 54 [a0, a1, a2, some (.inl x), a4, a5, a6] (.inl x :: st) m := e_1 d98_53 (Or.inl rfl) rfl
theorem d98_54 : decode (mt 98).2.1 54 = .ok (.invokevirtual 404, 3) := by decide +kernel
theorem s98_54 {ls : LV} {m : MM} {x0 : Nat × Option Nat} {x1 : Int32} {n : Nat} : go 98 54 ls [.inl x1, .inr (.inr x0), .inr (.inr (6, some n))] m = bd (go 25 0 [some (.inr (.inr (6, some n))), some (.inr (.inr x0)), some (.inl x1)] [] m) (fun v m2 => go 98 57 ls (v.toList ++ []) m2) := e_virt (y1 := 25) (na := 2) (as := [.inr (.inr x0), .inl x1]) (rest := []) d98_54 (by decide +kernel) rfl (by decide +kernel) (show (ent [.inr (.inr (6, some n)), .inr (.inr x0), .inl x1]).length ≤ (mt 25).2.2.2.1 from Nat.le_of_ble_eq_true rfl) (cats_le (Nat.le_of_ble_eq_true rfl)) (by decide +kernel)
theorem d98_57 : decode (mt 98).2.1 57 = .ok (.ifCond .eq 7, 3) := by decide +kernel
theorem s98_57 {ls : LV} {st : List AV} {m : MM} {a : Int32} : go 98 57 ls (.inl a :: st) m = if a = 0 then go 98 64 ls st m else go 98 60 ls st m := e_if (t := 64) (b := hc .eq a 0) d98_57 (Or.inl rfl) (by simp only [xi, pI, jm_some (t := 64) (show ((57 : Nat) : Int) + 7 = ((64 : Nat) : Int) by decide), Option.bind_some]) (by simp [hc])
theorem d98_60 : decode (mt 98).2.1 60 = .ok (.aload 6, 2) := by decide +kernel
theorem s98_60 {a0 a1 a2 a3 a4 a5 : Option AV} {st : List AV} {m : MM} {x : Nat × Option Nat} : go 98 60 [a0, a1, a2, a3, a4, a5, some (.inr (.inr x))] st m = go 98 62 [a0, a1, a2, a3, a4, a5, some (.inr (.inr x))] (.inr (.inr x) :: st) m := e_1 d98_60 (Or.inl rfl) rfl
theorem d98_62 : decode (mt 98).2.1 62 = .ok (.astore 4, 2) := by decide +kernel
theorem s98_62i {a0 a1 a2 a4 a5 a6 : Option AV} {z : Int32} {st : List AV} {m : MM} {x : Nat × Option Nat} : go 98 62 [a0, a1, a2, some (.inl z), a4, a5, a6] (.inr (.inr x) :: st) m = go 98 64 [a0, a1, a2, some (.inl z), some (.inr (.inr x)), a5, a6] st m := e_1 d98_62 (Or.inl rfl) rfl
theorem s98_62r {a0 a1 a2 a4 a5 a6 : Option AV} {z : Nat × Option Nat} {st : List AV} {m : MM} {x : Nat × Option Nat} : go 98 62 [a0, a1, a2, some (.inr (.inr z)), a4, a5, a6] (.inr (.inr x) :: st) m = go 98 64 [a0, a1, a2, some (.inr (.inr z)), some (.inr (.inr x)), a5, a6] st m := e_1 d98_62 (Or.inl rfl) rfl
theorem s98_62n {a0 a1 a2 a4 a5 a6 : Option AV} {st : List AV} {m : MM} {x : Nat × Option Nat} : go 98 62 [a0, a1, a2, none, a4, a5, a6] (.inr (.inr x) :: st) m = go 98 64 [a0, a1, a2, none, some (.inr (.inr x)), a5, a6] st m := e_1 d98_62 (Or.inl rfl) rfl
theorem d98_64 : decode (mt 98).2.1 64 = .ok (.iinc 5 1, 3) := by decide +kernel
theorem s98_64i {a0 a1 a2 a3 a6 : Option AV} {z : Int32} {st : List AV} {m : MM} {x : Int32} : go 98 64 [a0, a1, a2, a3, some (.inl z), some (.inl x), a6] st m = go 98 67 [a0, a1, a2, a3, some (.inl z), some (.inl (x + 1)), a6] st m := e_1 d98_64 (Or.inl rfl) rfl
theorem s98_64r {a0 a1 a2 a3 a6 : Option AV} {z : Nat × Option Nat} {st : List AV} {m : MM} {x : Int32} : go 98 64 [a0, a1, a2, a3, some (.inr (.inr z)), some (.inl x), a6] st m = go 98 67 [a0, a1, a2, a3, some (.inr (.inr z)), some (.inl (x + 1)), a6] st m := e_1 d98_64 (Or.inl rfl) rfl
theorem s98_64n {a0 a1 a2 a3 a6 : Option AV} {st : List AV} {m : MM} {x : Int32} : go 98 64 [a0, a1, a2, a3, none, some (.inl x), a6] st m = go 98 67 [a0, a1, a2, a3, none, some (.inl (x + 1)), a6] st m := e_1 d98_64 (Or.inl rfl) rfl
theorem d98_67 : decode (mt 98).2.1 67 = .ok (.goto (-61), 3) := by decide +kernel
theorem s98_67 {ls : LV} {st : List AV} {m : MM} : go 98 67 ls st m = go 98 6 ls st m := e_1 d98_67 (Or.inl rfl) (by rw [xi, jm_some (t := 6) (by decide)]; rfl)
theorem d98_70 : decode (mt 98).2.1 70 = .ok (.aload 4, 2) := by decide +kernel
theorem s98_70 {a0 a1 a2 a3 a5 a6 : Option AV} {st : List AV} {m : MM} {x : Nat × Option Nat} : go 98 70 [a0, a1, a2, a3, some (.inr (.inr x)), a5, a6] st m = go 98 72 [a0, a1, a2, a3, some (.inr (.inr x)), a5, a6] (.inr (.inr x) :: st) m := e_1 d98_70 (Or.inl rfl) rfl
theorem d98_72 : decode (mt 98).2.1 72 = .ok (.areturn, 1) := by decide +kernel
theorem s98_72 {ls : LV} {m : MM} {x : Nat × Option Nat} : go 98 72 ls [.inr (.inr x)] m = some (some (.inr (.inr x)), m) := e_ref d98_72 rfl
/-! X6_isAlone: 99 -/
theorem d99_0 : decode (mt 99).2.1 0 = .ok (.aload_n 0, 1) := by decide +kernel
theorem s99_0 {a1 a2 : Option AV} {st : List AV} {m : MM} {x : Nat × Option Nat} : go 99 0 [some (.inr (.inr x)), a1, a2] st m = go 99 1 [some (.inr (.inr x)), a1, a2] (.inr (.inr x) :: st) m := e_1 d99_0 (Or.inl rfl) rfl
theorem d99_1 : decode (mt 99).2.1 1 = .ok (.aload_n 1, 1) := by decide +kernel
theorem s99_1 {a0 a2 : Option AV} {st : List AV} {m : MM} {x : Nat × Option Nat} : go 99 1 [a0, some (.inr (.inr x)), a2] st m = go 99 2 [a0, some (.inr (.inr x)), a2] (.inr (.inr x) :: st) m := e_1 d99_1 (Or.inl rfl) rfl
theorem d99_2 : decode (mt 99).2.1 2 = .ok (.iload_n 2, 1) := by decide +kernel
theorem s99_2 {a0 a1 : Option AV} {st : List AV} {m : MM} {x : Int32} : go 99 2 [a0, a1, some (.inl x)] st m = go 99 3 [a0, a1, some (.inl x)] (.inl x :: st) m := e_1 d99_2 (Or.inl rfl) rfl
theorem d99_3 : decode (mt 99).2.1 3 = .ok (.iconst 0, 1) := by decide +kernel
theorem s99_3 {ls : LV} {st : List AV} {m : MM} : go 99 3 ls st m = go 99 4 ls (.inl 0 :: st) m := e_1 d99_3 (Or.inl rfl) rfl
theorem d99_4 : decode (mt 99).2.1 4 = .ok (.invokevirtual 407, 3) := by decide +kernel
theorem s99_4 {ls : LV} {m : MM} {x0 : Nat × Option Nat} {x1 : Int32} {x2 : Int32} {n : Nat} : go 99 4 ls [.inl x2, .inl x1, .inr (.inr x0), .inr (.inr (7, some n))] m = bd (go 98 0 [some (.inr (.inr (7, some n))), some (.inr (.inr x0)), some (.inl x1), some (.inl x2), none, none, none] [] m) (fun v m2 => go 99 7 ls (v.toList ++ []) m2) := e_virt (y1 := 98) (na := 3) (as := [.inr (.inr x0), .inl x1, .inl x2]) (rest := []) d99_4 (by decide +kernel) rfl (by decide +kernel) (show (ent [.inr (.inr (7, some n)), .inr (.inr x0), .inl x1, .inl x2]).length ≤ (mt 98).2.2.2.1 from Nat.le_of_ble_eq_true rfl) (cats_le (Nat.le_of_ble_eq_true rfl)) (by decide +kernel)
theorem d99_7 : decode (mt 99).2.1 7 = .ok (.ifnonnull 17, 3) := by decide +kernel
theorem s99_7n {u : Nat} {ls : LV} {st : List AV} {m : MM} : go 99 7 ls (.inr (.inr (u, none)) :: st) m = go 99 10 ls st m := e_1 d99_7 (Or.inl rfl) (by rw [xi, jm_some (t := 24) (by decide)]; rfl)
theorem s99_7s {u n : Nat} {ls : LV} {st : List AV} {m : MM} : go 99 7 ls (.inr (.inr (u, some n)) :: st) m = go 99 24 ls st m := e_1 d99_7 (Or.inl rfl) (by rw [xi, jm_some (t := 24) (by decide)]; rfl)
theorem d99_10 : decode (mt 99).2.1 10 = .ok (.aload_n 0, 1) := by decide +kernel
theorem s99_10 {a1 a2 : Option AV} {st : List AV} {m : MM} {x : Nat × Option Nat} : go 99 10 [some (.inr (.inr x)), a1, a2] st m = go 99 11 [some (.inr (.inr x)), a1, a2] (.inr (.inr x) :: st) m := e_1 d99_10 (Or.inl rfl) rfl
theorem d99_11 : decode (mt 99).2.1 11 = .ok (.aload_n 1, 1) := by decide +kernel
theorem s99_11 {a0 a2 : Option AV} {st : List AV} {m : MM} {x : Nat × Option Nat} : go 99 11 [a0, some (.inr (.inr x)), a2] st m = go 99 12 [a0, some (.inr (.inr x)), a2] (.inr (.inr x) :: st) m := e_1 d99_11 (Or.inl rfl) rfl
theorem d99_12 : decode (mt 99).2.1 12 = .ok (.iload_n 2, 1) := by decide +kernel
theorem s99_12 {a0 a1 : Option AV} {st : List AV} {m : MM} {x : Int32} : go 99 12 [a0, a1, some (.inl x)] st m = go 99 13 [a0, a1, some (.inl x)] (.inl x :: st) m := e_1 d99_12 (Or.inl rfl) rfl
theorem d99_13 : decode (mt 99).2.1 13 = .ok (.iconst 1, 1) := by decide +kernel
theorem s99_13 {ls : LV} {st : List AV} {m : MM} : go 99 13 ls st m = go 99 14 ls (.inl 1 :: st) m := e_1 d99_13 (Or.inl rfl) rfl
theorem d99_14 : decode (mt 99).2.1 14 = .ok (.invokevirtual 407, 3) := by decide +kernel
theorem s99_14 {ls : LV} {m : MM} {x0 : Nat × Option Nat} {x1 : Int32} {x2 : Int32} {n : Nat} : go 99 14 ls [.inl x2, .inl x1, .inr (.inr x0), .inr (.inr (7, some n))] m = bd (go 98 0 [some (.inr (.inr (7, some n))), some (.inr (.inr x0)), some (.inl x1), some (.inl x2), none, none, none] [] m) (fun v m2 => go 99 17 ls (v.toList ++ []) m2) := e_virt (y1 := 98) (na := 3) (as := [.inr (.inr x0), .inl x1, .inl x2]) (rest := []) d99_14 (by decide +kernel) rfl (by decide +kernel) (show (ent [.inr (.inr (7, some n)), .inr (.inr x0), .inl x1, .inl x2]).length ≤ (mt 98).2.2.2.1 from Nat.le_of_ble_eq_true rfl) (cats_le (Nat.le_of_ble_eq_true rfl)) (by decide +kernel)
theorem d99_17 : decode (mt 99).2.1 17 = .ok (.ifnonnull 7, 3) := by decide +kernel
theorem s99_17n {u : Nat} {ls : LV} {st : List AV} {m : MM} : go 99 17 ls (.inr (.inr (u, none)) :: st) m = go 99 20 ls st m := e_1 d99_17 (Or.inl rfl) (by rw [xi, jm_some (t := 24) (by decide)]; rfl)
theorem s99_17s {u n : Nat} {ls : LV} {st : List AV} {m : MM} : go 99 17 ls (.inr (.inr (u, some n)) :: st) m = go 99 24 ls st m := e_1 d99_17 (Or.inl rfl) (by rw [xi, jm_some (t := 24) (by decide)]; rfl)
theorem d99_20 : decode (mt 99).2.1 20 = .ok (.iconst 1, 1) := by decide +kernel
theorem s99_20 {ls : LV} {st : List AV} {m : MM} : go 99 20 ls st m = go 99 21 ls (.inl 1 :: st) m := e_1 d99_20 (Or.inl rfl) rfl
theorem d99_21 : decode (mt 99).2.1 21 = .ok (.goto 4, 3) := by decide +kernel
theorem s99_21 {ls : LV} {st : List AV} {m : MM} : go 99 21 ls st m = go 99 25 ls st m := e_1 d99_21 (Or.inl rfl) (by rw [xi, jm_some (t := 25) (by decide)]; rfl)
theorem d99_24 : decode (mt 99).2.1 24 = .ok (.iconst 0, 1) := by decide +kernel
theorem s99_24 {ls : LV} {st : List AV} {m : MM} : go 99 24 ls st m = go 99 25 ls (.inl 0 :: st) m := e_1 d99_24 (Or.inl rfl) rfl
theorem d99_25 : decode (mt 99).2.1 25 = .ok (.ireturn, 1) := by decide +kernel
theorem s99_25b0 {ls : LV} {m : MM} : go 99 25 ls [.inl 0] m = some (some (.inl 0), m) := e_bool d99_25 (by decide +kernel) (by decide)
theorem s99_25b1 {ls : LV} {m : MM} : go 99 25 ls [.inl 1] m = some (some (.inl 1), m) := e_bool d99_25 (by decide +kernel) (by decide)
/-! X6_faultAt: 100 -/
theorem d100_0 : decode (mt 100).2.1 0 = .ok (.iload_n 2, 1) := by decide +kernel
theorem s100_0 {a0 a1 a3 : Option AV} {st : List AV} {m : MM} {x : Int32} : go 100 0 [a0, a1, some (.inl x), a3] st m = go 100 1 [a0, a1, some (.inl x), a3] (.inl x :: st) m := e_1 d100_0 (Or.inl rfl) rfl
theorem d100_1 : decode (mt 100).2.1 1 = .ok (.ifCond .eq 14, 3) := by decide +kernel
theorem s100_1 {ls : LV} {st : List AV} {m : MM} {a : Int32} : go 100 1 ls (.inl a :: st) m = if a = 0 then go 100 15 ls st m else go 100 4 ls st m := e_if (t := 15) (b := hc .eq a 0) d100_1 (Or.inl rfl) (by simp only [xi, pI, jm_some (t := 15) (show ((1 : Nat) : Int) + 14 = ((15 : Nat) : Int) by decide), Option.bind_some]) (by simp [hc])
theorem d100_4 : decode (mt 100).2.1 4 = .ok (.aload_n 0, 1) := by decide +kernel
theorem s100_4 {a1 a2 a3 : Option AV} {st : List AV} {m : MM} {x : Nat × Option Nat} : go 100 4 [some (.inr (.inr x)), a1, a2, a3] st m = go 100 5 [some (.inr (.inr x)), a1, a2, a3] (.inr (.inr x) :: st) m := e_1 d100_4 (Or.inl rfl) rfl
theorem d100_5 : decode (mt 100).2.1 5 = .ok (.aload_n 1, 1) := by decide +kernel
theorem s100_5 {a0 a2 a3 : Option AV} {st : List AV} {m : MM} {x : Nat × Option Nat} : go 100 5 [a0, some (.inr (.inr x)), a2, a3] st m = go 100 6 [a0, some (.inr (.inr x)), a2, a3] (.inr (.inr x) :: st) m := e_1 d100_5 (Or.inl rfl) rfl
theorem d100_6 : decode (mt 100).2.1 6 = .ok (.iload_n 2, 1) := by decide +kernel
theorem s100_6 {a0 a1 a3 : Option AV} {st : List AV} {m : MM} {x : Int32} : go 100 6 [a0, a1, some (.inl x), a3] st m = go 100 7 [a0, a1, some (.inl x), a3] (.inl x :: st) m := e_1 d100_6 (Or.inl rfl) rfl
theorem d100_7 : decode (mt 100).2.1 7 = .ok (.iconst 1, 1) := by decide +kernel
theorem s100_7 {ls : LV} {st : List AV} {m : MM} : go 100 7 ls st m = go 100 8 ls (.inl 1 :: st) m := e_1 d100_7 (Or.inl rfl) rfl
theorem d100_8 : decode (mt 100).2.1 8 = .ok (.isub, 1) := by decide +kernel
theorem s100_8 {ls : LV} {st : List AV} {m : MM} {a b : Int32} : go 100 8 ls (.inl b :: .inl a :: st) m = go 100 9 ls (.inl (a - b) :: st) m := e_1 d100_8 (Or.inl rfl) rfl
theorem d100_9 : decode (mt 100).2.1 9 = .ok (.invokevirtual 411, 3) := by decide +kernel
theorem s100_9 {ls : LV} {m : MM} {x0 : Nat × Option Nat} {x1 : Int32} {n : Nat} : go 100 9 ls [.inl x1, .inr (.inr x0), .inr (.inr (7, some n))] m = bd (go 99 0 [some (.inr (.inr (7, some n))), some (.inr (.inr x0)), some (.inl x1)] [] m) (fun v m2 => go 100 12 ls (v.toList ++ []) m2) := e_virt (y1 := 99) (na := 2) (as := [.inr (.inr x0), .inl x1]) (rest := []) d100_9 (by decide +kernel) rfl (by decide +kernel) (show (ent [.inr (.inr (7, some n)), .inr (.inr x0), .inl x1]).length ≤ (mt 99).2.2.2.1 from Nat.le_of_ble_eq_true rfl) (cats_le (Nat.le_of_ble_eq_true rfl)) (by decide +kernel)
theorem d100_12 : decode (mt 100).2.1 12 = .ok (.ifCond .ne 7, 3) := by decide +kernel
theorem s100_12 {ls : LV} {st : List AV} {m : MM} {a : Int32} : go 100 12 ls (.inl a :: st) m = if ¬ a = 0 then go 100 19 ls st m else go 100 15 ls st m := e_if (t := 19) (b := hc .ne a 0) d100_12 (Or.inl rfl) (by simp only [xi, pI, jm_some (t := 19) (show ((12 : Nat) : Int) + 7 = ((19 : Nat) : Int) by decide), Option.bind_some]) (by simp [hc])
theorem d100_15 : decode (mt 100).2.1 15 = .ok (.iconst 1, 1) := by decide +kernel
theorem s100_15 {ls : LV} {st : List AV} {m : MM} : go 100 15 ls st m = go 100 16 ls (.inl 1 :: st) m := e_1 d100_15 (Or.inl rfl) rfl
theorem d100_16 : decode (mt 100).2.1 16 = .ok (.goto 4, 3) := by decide +kernel
theorem s100_16 {ls : LV} {st : List AV} {m : MM} : go 100 16 ls st m = go 100 20 ls st m := e_1 d100_16 (Or.inl rfl) (by rw [xi, jm_some (t := 20) (by decide)]; rfl)
theorem d100_19 : decode (mt 100).2.1 19 = .ok (.iconst 0, 1) := by decide +kernel
theorem s100_19 {ls : LV} {st : List AV} {m : MM} : go 100 19 ls st m = go 100 20 ls (.inl 0 :: st) m := e_1 d100_19 (Or.inl rfl) rfl
theorem d100_20 : decode (mt 100).2.1 20 = .ok (.istore_n 3, 1) := by decide +kernel
theorem s100_20i {a0 a1 a3 : Option AV} {z : Int32} {st : List AV} {m : MM} {x : Int32} : go 100 20 [a0, a1, some (.inl z), a3] (.inl x :: st) m = go 100 21 [a0, a1, some (.inl z), some (.inl x)] st m := e_1 d100_20 (Or.inl rfl) rfl
theorem s100_20r {a0 a1 a3 : Option AV} {z : Nat × Option Nat} {st : List AV} {m : MM} {x : Int32} : go 100 20 [a0, a1, some (.inr (.inr z)), a3] (.inl x :: st) m = go 100 21 [a0, a1, some (.inr (.inr z)), some (.inl x)] st m := e_1 d100_20 (Or.inl rfl) rfl
theorem s100_20n {a0 a1 a3 : Option AV} {st : List AV} {m : MM} {x : Int32} : go 100 20 [a0, a1, none, a3] (.inl x :: st) m = go 100 21 [a0, a1, none, some (.inl x)] st m := e_1 d100_20 (Or.inl rfl) rfl
theorem d100_21 : decode (mt 100).2.1 21 = .ok (.iload_n 3, 1) := by decide +kernel
theorem s100_21 {a0 a1 a2 : Option AV} {st : List AV} {m : MM} {x : Int32} : go 100 21 [a0, a1, a2, some (.inl x)] st m = go 100 22 [a0, a1, a2, some (.inl x)] (.inl x :: st) m := e_1 d100_21 (Or.inl rfl) rfl
theorem d100_22 : decode (mt 100).2.1 22 = .ok (.aload_n 1, 1) := by decide +kernel
theorem s100_22 {a0 a2 a3 : Option AV} {st : List AV} {m : MM} {x : Nat × Option Nat} : go 100 22 [a0, some (.inr (.inr x)), a2, a3] st m = go 100 23 [a0, some (.inr (.inr x)), a2, a3] (.inr (.inr x) :: st) m := e_1 d100_22 (Or.inl rfl) rfl
theorem d100_23 : decode (mt 100).2.1 23 = .ok (.iload_n 2, 1) := by decide +kernel
theorem s100_23 {a0 a1 a3 : Option AV} {st : List AV} {m : MM} {x : Int32} : go 100 23 [a0, a1, some (.inl x), a3] st m = go 100 24 [a0, a1, some (.inl x), a3] (.inl x :: st) m := e_1 d100_23 (Or.inl rfl) rfl
theorem d100_24 : decode (mt 100).2.1 24 = .ok (.invokevirtual 350, 3) := by decide +kernel
theorem s100_24 {ls : LV} {m : MM} {x0 : Int32} {w0 : AV} {n : Nat} : go 100 24 ls [.inl x0, .inr (.inr (6, some n)), w0] m = bd (go 26 0 [some (.inr (.inr (6, some n))), some (.inl x0)] [] m) (fun v m2 => go 100 27 ls (v.toList ++ [w0]) m2) := e_virt (y1 := 26) (na := 1) (as := [.inl x0]) (rest := [w0]) d100_24 (by decide +kernel) rfl (by decide +kernel) (show (ent [.inr (.inr (6, some n)), .inl x0]).length ≤ (mt 26).2.2.2.1 from Nat.le_of_ble_eq_true rfl) (cats_le (Nat.le_of_ble_eq_true rfl)) (by decide +kernel)
theorem d100_27 : decode (mt 100).2.1 27 = .ok (.if_icmp .eq 5, 3) := by decide +kernel
theorem s100_27 {ls : LV} {st : List AV} {m : MM} {a b : Int32} : go 100 27 ls (.inl b :: .inl a :: st) m = if a = b then go 100 32 ls st m else go 100 30 ls st m := e_if (t := 32) (b := hc .eq a b) d100_27 (Or.inl rfl) (by simp only [xi, pI, jm_some (t := 32) (show ((27 : Nat) : Int) + 5 = ((32 : Nat) : Int) by decide), Option.bind_some]) (by simp [hc])
theorem d100_30 : decode (mt 100).2.1 30 = .ok (.iconst 2, 1) := by decide +kernel
theorem s100_30 {ls : LV} {st : List AV} {m : MM} : go 100 30 ls st m = go 100 31 ls (.inl 2 :: st) m := e_1 d100_30 (Or.inl rfl) rfl
theorem d100_31 : decode (mt 100).2.1 31 = .ok (.ireturn, 1) := by decide +kernel
theorem s100_31 {ls : LV} {m : MM} {x : Int32} : go 100 31 ls [.inl x] m = some (some (.inl x), m) := e_int d100_31 (by decide +kernel)
theorem d100_32 : decode (mt 100).2.1 32 = .ok (.iload_n 3, 1) := by decide +kernel
theorem s100_32 {a0 a1 a2 : Option AV} {st : List AV} {m : MM} {x : Int32} : go 100 32 [a0, a1, a2, some (.inl x)] st m = go 100 33 [a0, a1, a2, some (.inl x)] (.inl x :: st) m := e_1 d100_32 (Or.inl rfl) rfl
theorem d100_33 : decode (mt 100).2.1 33 = .ok (.ifCond .ne 6, 3) := by decide +kernel
theorem s100_33 {ls : LV} {st : List AV} {m : MM} {a : Int32} : go 100 33 ls (.inl a :: st) m = if ¬ a = 0 then go 100 39 ls st m else go 100 36 ls st m := e_if (t := 39) (b := hc .ne a 0) d100_33 (Or.inl rfl) (by simp only [xi, pI, jm_some (t := 39) (show ((33 : Nat) : Int) + 6 = ((39 : Nat) : Int) by decide), Option.bind_some]) (by simp [hc])
theorem d100_36 : decode (mt 100).2.1 36 = .ok (.bipush (-4), 2) := by decide +kernel
theorem s100_36 {ls : LV} {st : List AV} {m : MM} : go 100 36 ls st m = go 100 38 ls (.inl (-4) :: st) m := e_1 d100_36 (Or.inl rfl) rfl
theorem d100_38 : decode (mt 100).2.1 38 = .ok (.ireturn, 1) := by decide +kernel
theorem s100_38 {ls : LV} {m : MM} {x : Int32} : go 100 38 ls [.inl x] m = some (some (.inl x), m) := e_int d100_38 (by decide +kernel)
theorem d100_39 : decode (mt 100).2.1 39 = .ok (.aload_n 1, 1) := by decide +kernel
theorem s100_39 {a0 a2 a3 : Option AV} {st : List AV} {m : MM} {x : Nat × Option Nat} : go 100 39 [a0, some (.inr (.inr x)), a2, a3] st m = go 100 40 [a0, some (.inr (.inr x)), a2, a3] (.inr (.inr x) :: st) m := e_1 d100_39 (Or.inl rfl) rfl
theorem d100_40 : decode (mt 100).2.1 40 = .ok (.iload_n 2, 1) := by decide +kernel
theorem s100_40 {a0 a1 a3 : Option AV} {st : List AV} {m : MM} {x : Int32} : go 100 40 [a0, a1, some (.inl x), a3] st m = go 100 41 [a0, a1, some (.inl x), a3] (.inl x :: st) m := e_1 d100_40 (Or.inl rfl) rfl
theorem d100_41 : decode (mt 100).2.1 41 = .ok (.iconst 0, 1) := by decide +kernel
theorem s100_41 {ls : LV} {st : List AV} {m : MM} : go 100 41 ls st m = go 100 42 ls (.inl 0 :: st) m := e_1 d100_41 (Or.inl rfl) rfl
theorem d100_42 : decode (mt 100).2.1 42 = .ok (.invokevirtual 109, 3) := by decide +kernel
theorem s100_42 {ls : LV} {m : MM} {x0 : Int32} {x1 : Int32} {n : Nat} : go 100 42 ls [.inl x1, .inl x0, .inr (.inr (6, some n))] m = bd (go 27 0 [some (.inr (.inr (6, some n))), some (.inl x0), some (.inl x1)] [] m) (fun v m2 => go 100 45 ls (v.toList ++ []) m2) := e_virt (y1 := 27) (na := 2) (as := [.inl x0, .inl x1]) (rest := []) d100_42 (by decide +kernel) rfl (by decide +kernel) (show (ent [.inr (.inr (6, some n)), .inl x0, .inl x1]).length ≤ (mt 27).2.2.2.1 from Nat.le_of_ble_eq_true rfl) (cats_le (Nat.le_of_ble_eq_true rfl)) (by decide +kernel)
theorem d100_45 : decode (mt 100).2.1 45 = .ok (.aload_n 0, 1) := by decide +kernel
theorem s100_45 {a1 a2 a3 : Option AV} {st : List AV} {m : MM} {x : Nat × Option Nat} : go 100 45 [some (.inr (.inr x)), a1, a2, a3] st m = go 100 46 [some (.inr (.inr x)), a1, a2, a3] (.inr (.inr x) :: st) m := e_1 d100_45 (Or.inl rfl) rfl
theorem d100_46 : decode (mt 100).2.1 46 = .ok (.aload_n 1, 1) := by decide +kernel
theorem s100_46 {a0 a2 a3 : Option AV} {st : List AV} {m : MM} {x : Nat × Option Nat} : go 100 46 [a0, some (.inr (.inr x)), a2, a3] st m = go 100 47 [a0, some (.inr (.inr x)), a2, a3] (.inr (.inr x) :: st) m := e_1 d100_46 (Or.inl rfl) rfl
theorem d100_47 : decode (mt 100).2.1 47 = .ok (.iload_n 2, 1) := by decide +kernel
theorem s100_47 {a0 a1 a3 : Option AV} {st : List AV} {m : MM} {x : Int32} : go 100 47 [a0, a1, some (.inl x), a3] st m = go 100 48 [a0, a1, some (.inl x), a3] (.inl x :: st) m := e_1 d100_47 (Or.inl rfl) rfl
theorem d100_48 : decode (mt 100).2.1 48 = .ok (.iconst 0, 1) := by decide +kernel
theorem s100_48 {ls : LV} {st : List AV} {m : MM} : go 100 48 ls st m = go 100 49 ls (.inl 0 :: st) m := e_1 d100_48 (Or.inl rfl) rfl
theorem d100_49 : decode (mt 100).2.1 49 = .ok (.invokevirtual 407, 3) := by decide +kernel
theorem s100_49 {ls : LV} {m : MM} {x0 : Nat × Option Nat} {x1 : Int32} {x2 : Int32} {w0 : AV} {n : Nat} : go 100 49 ls [.inl x2, .inl x1, .inr (.inr x0), .inr (.inr (7, some n)), w0] m = bd (go 98 0 [some (.inr (.inr (7, some n))), some (.inr (.inr x0)), some (.inl x1), some (.inl x2), none, none, none] [] m) (fun v m2 => go 100 52 ls (v.toList ++ [w0]) m2) := e_virt (y1 := 98) (na := 3) (as := [.inr (.inr x0), .inl x1, .inl x2]) (rest := [w0]) d100_49 (by decide +kernel) rfl (by decide +kernel) (show (ent [.inr (.inr (7, some n)), .inr (.inr x0), .inl x1, .inl x2]).length ≤ (mt 98).2.2.2.1 from Nat.le_of_ble_eq_true rfl) (cats_le (Nat.le_of_ble_eq_true rfl)) (by decide +kernel)
theorem d100_52 : decode (mt 100).2.1 52 = .ok (.if_acmp .eq 5, 3) := by decide +kernel
theorem s100_52 {u v : Nat} {p q : Option Nat} {ls : LV} {st : List AV} {m : MM} : go 100 52 ls (.inr (.inr (v, q)) :: .inr (.inr (u, p)) :: st) m = if ra (u, p) (v, q) = true then go 100 57 ls st m else go 100 55 ls st m := by
  rw [go_eq d100_52 (Or.inl rfl)]
  simp only [xi, pR, jm_some (t := 57) (show ((52 : Nat) : Int) + 5 = ((57 : Nat) : Int) by decide), Option.bind_some, fi]
  split <;> rfl
theorem d100_55 : decode (mt 100).2.1 55 = .ok (.iconst 0, 1) := by decide +kernel
theorem s100_55 {ls : LV} {st : List AV} {m : MM} : go 100 55 ls st m = go 100 56 ls (.inl 0 :: st) m := e_1 d100_55 (Or.inl rfl) rfl
theorem d100_56 : decode (mt 100).2.1 56 = .ok (.ireturn, 1) := by decide +kernel
theorem s100_56 {ls : LV} {m : MM} {x : Int32} : go 100 56 ls [.inl x] m = some (some (.inl x), m) := e_int d100_56 (by decide +kernel)
theorem d100_57 : decode (mt 100).2.1 57 = .ok (.aload_n 1, 1) := by decide +kernel
theorem s100_57 {a0 a2 a3 : Option AV} {st : List AV} {m : MM} {x : Nat × Option Nat} : go 100 57 [a0, some (.inr (.inr x)), a2, a3] st m = go 100 58 [a0, some (.inr (.inr x)), a2, a3] (.inr (.inr x) :: st) m := e_1 d100_57 (Or.inl rfl) rfl
theorem d100_58 : decode (mt 100).2.1 58 = .ok (.iload_n 2, 1) := by decide +kernel
theorem s100_58 {a0 a1 a3 : Option AV} {st : List AV} {m : MM} {x : Int32} : go 100 58 [a0, a1, some (.inl x), a3] st m = go 100 59 [a0, a1, some (.inl x), a3] (.inl x :: st) m := e_1 d100_58 (Or.inl rfl) rfl
theorem d100_59 : decode (mt 100).2.1 59 = .ok (.iconst 1, 1) := by decide +kernel
theorem s100_59 {ls : LV} {st : List AV} {m : MM} : go 100 59 ls st m = go 100 60 ls (.inl 1 :: st) m := e_1 d100_59 (Or.inl rfl) rfl
theorem d100_60 : decode (mt 100).2.1 60 = .ok (.invokevirtual 109, 3) := by decide +kernel
theorem s100_60 {ls : LV} {m : MM} {x0 : Int32} {x1 : Int32} {n : Nat} : go 100 60 ls [.inl x1, .inl x0, .inr (.inr (6, some n))] m = bd (go 27 0 [some (.inr (.inr (6, some n))), some (.inl x0), some (.inl x1)] [] m) (fun v m2 => go 100 63 ls (v.toList ++ []) m2) := e_virt (y1 := 27) (na := 2) (as := [.inl x0, .inl x1]) (rest := []) d100_60 (by decide +kernel) rfl (by decide +kernel) (show (ent [.inr (.inr (6, some n)), .inl x0, .inl x1]).length ≤ (mt 27).2.2.2.1 from Nat.le_of_ble_eq_true rfl) (cats_le (Nat.le_of_ble_eq_true rfl)) (by decide +kernel)
theorem d100_63 : decode (mt 100).2.1 63 = .ok (.aload_n 0, 1) := by decide +kernel
theorem s100_63 {a1 a2 a3 : Option AV} {st : List AV} {m : MM} {x : Nat × Option Nat} : go 100 63 [some (.inr (.inr x)), a1, a2, a3] st m = go 100 64 [some (.inr (.inr x)), a1, a2, a3] (.inr (.inr x) :: st) m := e_1 d100_63 (Or.inl rfl) rfl
theorem d100_64 : decode (mt 100).2.1 64 = .ok (.aload_n 1, 1) := by decide +kernel
theorem s100_64 {a0 a2 a3 : Option AV} {st : List AV} {m : MM} {x : Nat × Option Nat} : go 100 64 [a0, some (.inr (.inr x)), a2, a3] st m = go 100 65 [a0, some (.inr (.inr x)), a2, a3] (.inr (.inr x) :: st) m := e_1 d100_64 (Or.inl rfl) rfl
theorem d100_65 : decode (mt 100).2.1 65 = .ok (.iload_n 2, 1) := by decide +kernel
theorem s100_65 {a0 a1 a3 : Option AV} {st : List AV} {m : MM} {x : Int32} : go 100 65 [a0, a1, some (.inl x), a3] st m = go 100 66 [a0, a1, some (.inl x), a3] (.inl x :: st) m := e_1 d100_65 (Or.inl rfl) rfl
theorem d100_66 : decode (mt 100).2.1 66 = .ok (.iconst 1, 1) := by decide +kernel
theorem s100_66 {ls : LV} {st : List AV} {m : MM} : go 100 66 ls st m = go 100 67 ls (.inl 1 :: st) m := e_1 d100_66 (Or.inl rfl) rfl
theorem d100_67 : decode (mt 100).2.1 67 = .ok (.invokevirtual 407, 3) := by decide +kernel
theorem s100_67 {ls : LV} {m : MM} {x0 : Nat × Option Nat} {x1 : Int32} {x2 : Int32} {w0 : AV} {n : Nat} : go 100 67 ls [.inl x2, .inl x1, .inr (.inr x0), .inr (.inr (7, some n)), w0] m = bd (go 98 0 [some (.inr (.inr (7, some n))), some (.inr (.inr x0)), some (.inl x1), some (.inl x2), none, none, none] [] m) (fun v m2 => go 100 70 ls (v.toList ++ [w0]) m2) := e_virt (y1 := 98) (na := 3) (as := [.inr (.inr x0), .inl x1, .inl x2]) (rest := [w0]) d100_67 (by decide +kernel) rfl (by decide +kernel) (show (ent [.inr (.inr (7, some n)), .inr (.inr x0), .inl x1, .inl x2]).length ≤ (mt 98).2.2.2.1 from Nat.le_of_ble_eq_true rfl) (cats_le (Nat.le_of_ble_eq_true rfl)) (by decide +kernel)
theorem d100_70 : decode (mt 100).2.1 70 = .ok (.if_acmp .eq 7, 3) := by decide +kernel
theorem s100_70 {u v : Nat} {p q : Option Nat} {ls : LV} {st : List AV} {m : MM} : go 100 70 ls (.inr (.inr (v, q)) :: .inr (.inr (u, p)) :: st) m = if ra (u, p) (v, q) = true then go 100 77 ls st m else go 100 73 ls st m := by
  rw [go_eq d100_70 (Or.inl rfl)]
  simp only [xi, pR, jm_some (t := 77) (show ((70 : Nat) : Int) + 7 = ((77 : Nat) : Int) by decide), Option.bind_some, fi]
  split <;> rfl
theorem d100_73 : decode (mt 100).2.1 73 = .ok (.iconst 1, 1) := by decide +kernel
theorem s100_73 {ls : LV} {st : List AV} {m : MM} : go 100 73 ls st m = go 100 74 ls (.inl 1 :: st) m := e_1 d100_73 (Or.inl rfl) rfl
theorem d100_74 : decode (mt 100).2.1 74 = .ok (.goto 5, 3) := by decide +kernel
theorem s100_74 {ls : LV} {st : List AV} {m : MM} : go 100 74 ls st m = go 100 79 ls st m := e_1 d100_74 (Or.inl rfl) (by rw [xi, jm_some (t := 79) (by decide)]; rfl)
theorem d100_77 : decode (mt 100).2.1 77 = .ok (.bipush (-4), 2) := by decide +kernel
theorem s100_77 {ls : LV} {st : List AV} {m : MM} : go 100 77 ls st m = go 100 79 ls (.inl (-4) :: st) m := e_1 d100_77 (Or.inl rfl) rfl
theorem d100_79 : decode (mt 100).2.1 79 = .ok (.ireturn, 1) := by decide +kernel
theorem s100_79 {ls : LV} {m : MM} {x : Int32} : go 100 79 ls [.inl x] m = some (some (.inl x), m) := e_int d100_79 (by decide +kernel)
/-! X6_passesOfFind: 101 -/
theorem d101_0 : decode (mt 101).2.1 0 = .ok (.aload_n 0, 1) := by decide +kernel
theorem s101_0 {a1 a2 a3 a4 : Option AV} {st : List AV} {m : MM} {x : Nat × Option Nat} : go 101 0 [some (.inr (.inr x)), a1, a2, a3, a4] st m = go 101 1 [some (.inr (.inr x)), a1, a2, a3, a4] (.inr (.inr x) :: st) m := e_1 d101_0 (Or.inl rfl) rfl
theorem d101_1 : decode (mt 101).2.1 1 = .ok (.astore_n 2, 1) := by decide +kernel
theorem s101_1i {a0 a2 a3 a4 : Option AV} {z : Int32} {st : List AV} {m : MM} {x : Nat × Option Nat} : go 101 1 [a0, some (.inl z), a2, a3, a4] (.inr (.inr x) :: st) m = go 101 2 [a0, some (.inl z), some (.inr (.inr x)), a3, a4] st m := e_1 d101_1 (Or.inl rfl) rfl
theorem s101_1r {a0 a2 a3 a4 : Option AV} {z : Nat × Option Nat} {st : List AV} {m : MM} {x : Nat × Option Nat} : go 101 1 [a0, some (.inr (.inr z)), a2, a3, a4] (.inr (.inr x) :: st) m = go 101 2 [a0, some (.inr (.inr z)), some (.inr (.inr x)), a3, a4] st m := e_1 d101_1 (Or.inl rfl) rfl
theorem s101_1n {a0 a2 a3 a4 : Option AV} {st : List AV} {m : MM} {x : Nat × Option Nat} : go 101 1 [a0, none, a2, a3, a4] (.inr (.inr x) :: st) m = go 101 2 [a0, none, some (.inr (.inr x)), a3, a4] st m := e_1 d101_1 (Or.inl rfl) rfl
theorem d101_2 : decode (mt 101).2.1 2 = .ok (.iconst 1, 1) := by decide +kernel
theorem s101_2 {ls : LV} {st : List AV} {m : MM} : go 101 2 ls st m = go 101 3 ls (.inl 1 :: st) m := e_1 d101_2 (Or.inl rfl) rfl
theorem d101_3 : decode (mt 101).2.1 3 = .ok (.istore_n 3, 1) := by decide +kernel
theorem s101_3i {a0 a1 a3 a4 : Option AV} {z : Int32} {st : List AV} {m : MM} {x : Int32} : go 101 3 [a0, a1, some (.inl z), a3, a4] (.inl x :: st) m = go 101 4 [a0, a1, some (.inl z), some (.inl x), a4] st m := e_1 d101_3 (Or.inl rfl) rfl
theorem s101_3r {a0 a1 a3 a4 : Option AV} {z : Nat × Option Nat} {st : List AV} {m : MM} {x : Int32} : go 101 3 [a0, a1, some (.inr (.inr z)), a3, a4] (.inl x :: st) m = go 101 4 [a0, a1, some (.inr (.inr z)), some (.inl x), a4] st m := e_1 d101_3 (Or.inl rfl) rfl
theorem s101_3n {a0 a1 a3 a4 : Option AV} {st : List AV} {m : MM} {x : Int32} : go 101 3 [a0, a1, none, a3, a4] (.inl x :: st) m = go 101 4 [a0, a1, none, some (.inl x), a4] st m := e_1 d101_3 (Or.inl rfl) rfl
theorem d101_4 : decode (mt 101).2.1 4 = .ok (.iload_n 3, 1) := by decide +kernel
theorem s101_4 {a0 a1 a2 a4 : Option AV} {st : List AV} {m : MM} {x : Int32} : go 101 4 [a0, a1, a2, some (.inl x), a4] st m = go 101 5 [a0, a1, a2, some (.inl x), a4] (.inl x :: st) m := e_1 d101_4 (Or.inl rfl) rfl
theorem d101_5 : decode (mt 101).2.1 5 = .ok (.sipush 10000, 3) := by decide +kernel
theorem s101_5 {ls : LV} {st : List AV} {m : MM} : go 101 5 ls st m = go 101 8 ls (.inl 10000 :: st) m := e_1 d101_5 (Or.inl rfl) rfl
theorem d101_8 : decode (mt 101).2.1 8 = .ok (.if_icmp .ge 27, 3) := by decide +kernel
theorem s101_8 {ls : LV} {st : List AV} {m : MM} {a b : Int32} : go 101 8 ls (.inl b :: .inl a :: st) m = if b ≤ a then go 101 35 ls st m else go 101 11 ls st m := e_if (t := 35) (b := hc .ge a b) d101_8 (Or.inl rfl) (by simp only [xi, pI, jm_some (t := 35) (show ((8 : Nat) : Int) + 27 = ((35 : Nat) : Int) by decide), Option.bind_some]) (by simp [hc])
theorem d101_11 : decode (mt 101).2.1 11 = .ok (.aload_n 2, 1) := by decide +kernel
theorem s101_11 {a0 a1 a3 a4 : Option AV} {st : List AV} {m : MM} {x : Nat × Option Nat} : go 101 11 [a0, a1, some (.inr (.inr x)), a3, a4] st m = go 101 12 [a0, a1, some (.inr (.inr x)), a3, a4] (.inr (.inr x) :: st) m := e_1 d101_11 (Or.inl rfl) rfl
theorem d101_12 : decode (mt 101).2.1 12 = .ok (.iload_n 1, 1) := by decide +kernel
theorem s101_12 {a0 a2 a3 a4 : Option AV} {st : List AV} {m : MM} {x : Int32} : go 101 12 [a0, some (.inl x), a2, a3, a4] st m = go 101 13 [a0, some (.inl x), a2, a3, a4] (.inl x :: st) m := e_1 d101_12 (Or.inl rfl) rfl
theorem d101_13 : decode (mt 101).2.1 13 = .ok (.invokevirtual 273, 3) := by decide +kernel
theorem s101_13 {ls : LV} {m : MM} {x0 : Int32} {n : Nat} : go 101 13 ls [.inl x0, .inr (.inr (6, some n))] m = bd (go 36 0 [some (.inr (.inr (6, some n))), some (.inl x0), none, none, none] [] m) (fun v m2 => go 101 16 ls (v.toList ++ []) m2) := e_virt (y1 := 36) (na := 1) (as := [.inl x0]) (rest := []) d101_13 (by decide +kernel) rfl (by decide +kernel) (show (ent [.inr (.inr (6, some n)), .inl x0]).length ≤ (mt 36).2.2.2.1 from Nat.le_of_ble_eq_true rfl) (cats_le (Nat.le_of_ble_eq_true rfl)) (by decide +kernel)
theorem d101_16 : decode (mt 101).2.1 16 = .ok (.astore 4, 2) := by decide +kernel
theorem s101_16i {a0 a1 a2 a4 : Option AV} {z : Int32} {st : List AV} {m : MM} {x : Nat × Option Nat} : go 101 16 [a0, a1, a2, some (.inl z), a4] (.inr (.inr x) :: st) m = go 101 18 [a0, a1, a2, some (.inl z), some (.inr (.inr x))] st m := e_1 d101_16 (Or.inl rfl) rfl
theorem s101_16r {a0 a1 a2 a4 : Option AV} {z : Nat × Option Nat} {st : List AV} {m : MM} {x : Nat × Option Nat} : go 101 16 [a0, a1, a2, some (.inr (.inr z)), a4] (.inr (.inr x) :: st) m = go 101 18 [a0, a1, a2, some (.inr (.inr z)), some (.inr (.inr x))] st m := e_1 d101_16 (Or.inl rfl) rfl
theorem s101_16n {a0 a1 a2 a4 : Option AV} {st : List AV} {m : MM} {x : Nat × Option Nat} : go 101 16 [a0, a1, a2, none, a4] (.inr (.inr x) :: st) m = go 101 18 [a0, a1, a2, none, some (.inr (.inr x))] st m := e_1 d101_16 (Or.inl rfl) rfl
theorem d101_18 : decode (mt 101).2.1 18 = .ok (.aload 4, 2) := by decide +kernel
theorem s101_18 {a0 a1 a2 a3 : Option AV} {st : List AV} {m : MM} {x : Nat × Option Nat} : go 101 18 [a0, a1, a2, a3, some (.inr (.inr x))] st m = go 101 20 [a0, a1, a2, a3, some (.inr (.inr x))] (.inr (.inr x) :: st) m := e_1 d101_18 (Or.inl rfl) rfl
theorem d101_20 : decode (mt 101).2.1 20 = .ok (.ifnonnull 6, 3) := by decide +kernel
theorem s101_20n {u : Nat} {ls : LV} {st : List AV} {m : MM} : go 101 20 ls (.inr (.inr (u, none)) :: st) m = go 101 23 ls st m := e_1 d101_20 (Or.inl rfl) (by rw [xi, jm_some (t := 26) (by decide)]; rfl)
theorem s101_20s {u n : Nat} {ls : LV} {st : List AV} {m : MM} : go 101 20 ls (.inr (.inr (u, some n)) :: st) m = go 101 26 ls st m := e_1 d101_20 (Or.inl rfl) (by rw [xi, jm_some (t := 26) (by decide)]; rfl)
theorem d101_23 : decode (mt 101).2.1 23 = .ok (.goto 12, 3) := by decide +kernel
theorem s101_23 {ls : LV} {st : List AV} {m : MM} : go 101 23 ls st m = go 101 35 ls st m := e_1 d101_23 (Or.inl rfl) (by rw [xi, jm_some (t := 35) (by decide)]; rfl)
theorem d101_26 : decode (mt 101).2.1 26 = .ok (.aload 4, 2) := by decide +kernel
theorem s101_26 {a0 a1 a2 a3 : Option AV} {st : List AV} {m : MM} {x : Nat × Option Nat} : go 101 26 [a0, a1, a2, a3, some (.inr (.inr x))] st m = go 101 28 [a0, a1, a2, a3, some (.inr (.inr x))] (.inr (.inr x) :: st) m := e_1 d101_26 (Or.inl rfl) rfl
theorem d101_28 : decode (mt 101).2.1 28 = .ok (.astore_n 2, 1) := by decide +kernel
theorem s101_28i {a0 a2 a3 a4 : Option AV} {z : Int32} {st : List AV} {m : MM} {x : Nat × Option Nat} : go 101 28 [a0, some (.inl z), a2, a3, a4] (.inr (.inr x) :: st) m = go 101 29 [a0, some (.inl z), some (.inr (.inr x)), a3, a4] st m := e_1 d101_28 (Or.inl rfl) rfl
theorem s101_28r {a0 a2 a3 a4 : Option AV} {z : Nat × Option Nat} {st : List AV} {m : MM} {x : Nat × Option Nat} : go 101 28 [a0, some (.inr (.inr z)), a2, a3, a4] (.inr (.inr x) :: st) m = go 101 29 [a0, some (.inr (.inr z)), some (.inr (.inr x)), a3, a4] st m := e_1 d101_28 (Or.inl rfl) rfl
theorem s101_28n {a0 a2 a3 a4 : Option AV} {st : List AV} {m : MM} {x : Nat × Option Nat} : go 101 28 [a0, none, a2, a3, a4] (.inr (.inr x) :: st) m = go 101 29 [a0, none, some (.inr (.inr x)), a3, a4] st m := e_1 d101_28 (Or.inl rfl) rfl
theorem d101_29 : decode (mt 101).2.1 29 = .ok (.iinc 3 1, 3) := by decide +kernel
theorem s101_29i {a0 a1 a4 : Option AV} {z : Int32} {st : List AV} {m : MM} {x : Int32} : go 101 29 [a0, a1, some (.inl z), some (.inl x), a4] st m = go 101 32 [a0, a1, some (.inl z), some (.inl (x + 1)), a4] st m := e_1 d101_29 (Or.inl rfl) rfl
theorem s101_29r {a0 a1 a4 : Option AV} {z : Nat × Option Nat} {st : List AV} {m : MM} {x : Int32} : go 101 29 [a0, a1, some (.inr (.inr z)), some (.inl x), a4] st m = go 101 32 [a0, a1, some (.inr (.inr z)), some (.inl (x + 1)), a4] st m := e_1 d101_29 (Or.inl rfl) rfl
theorem s101_29n {a0 a1 a4 : Option AV} {st : List AV} {m : MM} {x : Int32} : go 101 29 [a0, a1, none, some (.inl x), a4] st m = go 101 32 [a0, a1, none, some (.inl (x + 1)), a4] st m := e_1 d101_29 (Or.inl rfl) rfl
theorem d101_32 : decode (mt 101).2.1 32 = .ok (.goto (-28), 3) := by decide +kernel
theorem s101_32 {ls : LV} {st : List AV} {m : MM} : go 101 32 ls st m = go 101 4 ls st m := e_1 d101_32 (Or.inl rfl) (by rw [xi, jm_some (t := 4) (by decide)]; rfl)
theorem d101_35 : decode (mt 101).2.1 35 = .ok (.iload_n 3, 1) := by decide +kernel
theorem s101_35 {a0 a1 a2 a4 : Option AV} {st : List AV} {m : MM} {x : Int32} : go 101 35 [a0, a1, a2, some (.inl x), a4] st m = go 101 36 [a0, a1, a2, some (.inl x), a4] (.inl x :: st) m := e_1 d101_35 (Or.inl rfl) rfl
theorem d101_36 : decode (mt 101).2.1 36 = .ok (.ireturn, 1) := by decide +kernel
theorem s101_36 {ls : LV} {m : MM} {x : Int32} : go 101 36 ls [.inl x] m = some (some (.inl x), m) := e_int d101_36 (by decide +kernel)
