/-! printed by wip/gen/eqs.py -/
/-! X7_init: 102 -/
theorem d102_0 : decode (mt 102).2.1 0 = .ok (.aload_n 0, 1) := by decide +kernel
theorem s102_0 {st : List AV} {m : MM} {x : Nat × Option Nat} : go 102 0 [some (.inr (.inr x))] st m = go 102 1 [some (.inr (.inr x))] (.inr (.inr x) :: st) m := e_1 d102_0 (Or.inl rfl) rfl
theorem d102_1 : decode (mt 102).2.1 1 = .ok (.invokespecial 1, 3) := by decide +kernel
theorem s102_1 {ls : LV} {m : MM} {u n : Nat} : go 102 1 ls (.inr (.inr (u, some n)) :: []) m = go 102 4 ls [] m := e_obj d102_1 (by decide +kernel) (cats_le (Nat.le_of_ble_eq_true rfl)) (by decide +kernel)
theorem d102_4 : decode (mt 102).2.1 4 = .ok (.aload_n 0, 1) := by decide +kernel
theorem s102_4 {st : List AV} {m : MM} {x : Nat × Option Nat} : go 102 4 [some (.inr (.inr x))] st m = go 102 5 [some (.inr (.inr x))] (.inr (.inr x) :: st) m := e_1 d102_4 (Or.inl rfl) rfl
theorem d102_5 : decode (mt 102).2.1 5 = .ok (.iconst 1, 1) := by decide +kernel
theorem s102_5 {ls : LV} {st : List AV} {m : MM} : go 102 5 ls st m = go 102 6 ls (.inl 1 :: st) m := e_1 d102_5 (Or.inl rfl) rfl
theorem d102_6 : decode (mt 102).2.1 6 = .ok (.putfield 7, 3) := by decide +kernel
theorem s102_6 {ls : LV} {st : List AV} {m : MM} {n : Nat} {x : Int32} : go 102 6 ls (.inl x :: .inr (.inr (8, some n)) :: st) m = go 102 9 ls st (sI m 8 n 1 x) := e_put (r := 8) (f := 1) d102_6 (by decide +kernel) rfl (by decide +kernel)
theorem d102_9 : decode (mt 102).2.1 9 = .ok (.aload_n 0, 1) := by decide +kernel
theorem s102_9 {st : List AV} {m : MM} {x : Nat × Option Nat} : go 102 9 [some (.inr (.inr x))] st m = go 102 10 [some (.inr (.inr x))] (.inr (.inr x) :: st) m := e_1 d102_9 (Or.inl rfl) rfl
theorem d102_10 : decode (mt 102).2.1 10 = .ok (.bipush 32, 2) := by decide +kernel
theorem s102_10 {ls : LV} {st : List AV} {m : MM} : go 102 10 ls st m = go 102 12 ls (.inl 32 :: st) m := e_1 d102_10 (Or.inl rfl) rfl
theorem d102_12 : decode (mt 102).2.1 12 = .ok (.newarray .int, 2) := by decide +kernel
theorem s102_12k1 {ls : LV} {st : List AV} {m : MM} : go 102 12 ls (.inl 1 :: st) m = go 102 14 ls (.inr (.inr (19, some (mC m 19))) :: st) (al m 19 1 1) := e_1 d102_12 (Or.inl rfl) (by rw [xi, pI, show lk naL 102 12 = some 19 by decide +kernel, Option.bind_some, if_pos ⟨by decide, by decide, by decide, by decide⟩]; rfl)
theorem s102_12k16 {ls : LV} {st : List AV} {m : MM} : go 102 12 ls (.inl 16 :: st) m = go 102 14 ls (.inr (.inr (19, some (mC m 19))) :: st) (al m 19 16 16) := e_1 d102_12 (Or.inl rfl) (by rw [xi, pI, show lk naL 102 12 = some 19 by decide +kernel, Option.bind_some, if_pos ⟨by decide, by decide, by decide, by decide⟩]; rfl)
theorem s102_12k32 {ls : LV} {st : List AV} {m : MM} : go 102 12 ls (.inl 32 :: st) m = go 102 14 ls (.inr (.inr (19, some (mC m 19))) :: st) (al m 19 32 32) := e_1 d102_12 (Or.inl rfl) (by rw [xi, pI, show lk naL 102 12 = some 19 by decide +kernel, Option.bind_some, if_pos ⟨by decide, by decide, by decide, by decide⟩]; rfl)
theorem s102_12k160 {ls : LV} {st : List AV} {m : MM} : go 102 12 ls (.inl 160 :: st) m = go 102 14 ls (.inr (.inr (19, some (mC m 19))) :: st) (al m 19 160 160) := e_1 d102_12 (Or.inl rfl) (by rw [xi, pI, show lk naL 102 12 = some 19 by decide +kernel, Option.bind_some, if_pos ⟨by decide, by decide, by decide, by decide⟩]; rfl)
theorem s102_12k288 {ls : LV} {st : List AV} {m : MM} : go 102 12 ls (.inl 288 :: st) m = go 102 14 ls (.inr (.inr (19, some (mC m 19))) :: st) (al m 19 288 288) := e_1 d102_12 (Or.inl rfl) (by rw [xi, pI, show lk naL 102 12 = some 19 by decide +kernel, Option.bind_some, if_pos ⟨by decide, by decide, by decide, by decide⟩]; rfl)
theorem s102_12k512 {ls : LV} {st : List AV} {m : MM} : go 102 12 ls (.inl 512 :: st) m = go 102 14 ls (.inr (.inr (19, some (mC m 19))) :: st) (al m 19 512 512) := e_1 d102_12 (Or.inl rfl) (by rw [xi, pI, show lk naL 102 12 = some 19 by decide +kernel, Option.bind_some, if_pos ⟨by decide, by decide, by decide, by decide⟩]; rfl)
theorem s102_12k600 {ls : LV} {st : List AV} {m : MM} : go 102 12 ls (.inl 600 :: st) m = go 102 14 ls (.inr (.inr (19, some (mC m 19))) :: st) (al m 19 600 600) := e_1 d102_12 (Or.inl rfl) (by rw [xi, pI, show lk naL 102 12 = some 19 by decide +kernel, Option.bind_some, if_pos ⟨by decide, by decide, by decide, by decide⟩]; rfl)
theorem s102_12k6400 {ls : LV} {st : List AV} {m : MM} : go 102 12 ls (.inl 6400 :: st) m = go 102 14 ls (.inr (.inr (19, some (mC m 19))) :: st) (al m 19 6400 6400) := e_1 d102_12 (Or.inl rfl) (by rw [xi, pI, show lk naL 102 12 = some 19 by decide +kernel, Option.bind_some, if_pos ⟨by decide, by decide, by decide, by decide⟩]; rfl)
theorem d102_14 : decode (mt 102).2.1 14 = .ok (.putfield 13, 3) := by decide +kernel
theorem s102_14r {ls : LV} {st : List AV} {m : MM} {n : Nat} {p : Option Nat} : go 102 14 ls (.inr (.inr (19, p)) :: .inr (.inr (8, some n)) :: st) m = go 102 17 ls st (sR m 8 n 2 p) := e_put (r := 8) (f := 2) d102_14 (by decide +kernel) (by simp [fc, tk, ek, ekL, fk, fkL]) (by decide +kernel)
theorem s102_14n {ls : LV} {st : List AV} {m : MM} {n w : Nat} : go 102 14 ls (.inr (.inr (w, none)) :: .inr (.inr (8, some n)) :: st) m = go 102 17 ls st (sR m 8 n 2 none) := e_put (r := 8) (f := 2) d102_14 (by decide +kernel) (by simp [fc, tk, ek, ekL, fk, fkL]) (by decide +kernel)
theorem d102_17 : decode (mt 102).2.1 17 = .ok (.aload_n 0, 1) := by decide +kernel
theorem s102_17 {st : List AV} {m : MM} {x : Nat × Option Nat} : go 102 17 [some (.inr (.inr x))] st m = go 102 18 [some (.inr (.inr x))] (.inr (.inr x) :: st) m := e_1 d102_17 (Or.inl rfl) rfl
theorem d102_18 : decode (mt 102).2.1 18 = .ok (.bipush 32, 2) := by decide +kernel
theorem s102_18 {ls : LV} {st : List AV} {m : MM} : go 102 18 ls st m = go 102 20 ls (.inl 32 :: st) m := e_1 d102_18 (Or.inl rfl) rfl
theorem d102_20 : decode (mt 102).2.1 20 = .ok (.newarray .int, 2) := by decide +kernel
theorem s102_20k1 {ls : LV} {st : List AV} {m : MM} : go 102 20 ls (.inl 1 :: st) m = go 102 22 ls (.inr (.inr (20, some (mC m 20))) :: st) (al m 20 1 1) := e_1 d102_20 (Or.inl rfl) (by rw [xi, pI, show lk naL 102 20 = some 20 by decide +kernel, Option.bind_some, if_pos ⟨by decide, by decide, by decide, by decide⟩]; rfl)
theorem s102_20k16 {ls : LV} {st : List AV} {m : MM} : go 102 20 ls (.inl 16 :: st) m = go 102 22 ls (.inr (.inr (20, some (mC m 20))) :: st) (al m 20 16 16) := e_1 d102_20 (Or.inl rfl) (by rw [xi, pI, show lk naL 102 20 = some 20 by decide +kernel, Option.bind_some, if_pos ⟨by decide, by decide, by decide, by decide⟩]; rfl)
theorem s102_20k32 {ls : LV} {st : List AV} {m : MM} : go 102 20 ls (.inl 32 :: st) m = go 102 22 ls (.inr (.inr (20, some (mC m 20))) :: st) (al m 20 32 32) := e_1 d102_20 (Or.inl rfl) (by rw [xi, pI, show lk naL 102 20 = some 20 by decide +kernel, Option.bind_some, if_pos ⟨by decide, by decide, by decide, by decide⟩]; rfl)
theorem s102_20k160 {ls : LV} {st : List AV} {m : MM} : go 102 20 ls (.inl 160 :: st) m = go 102 22 ls (.inr (.inr (20, some (mC m 20))) :: st) (al m 20 160 160) := e_1 d102_20 (Or.inl rfl) (by rw [xi, pI, show lk naL 102 20 = some 20 by decide +kernel, Option.bind_some, if_pos ⟨by decide, by decide, by decide, by decide⟩]; rfl)
theorem s102_20k288 {ls : LV} {st : List AV} {m : MM} : go 102 20 ls (.inl 288 :: st) m = go 102 22 ls (.inr (.inr (20, some (mC m 20))) :: st) (al m 20 288 288) := e_1 d102_20 (Or.inl rfl) (by rw [xi, pI, show lk naL 102 20 = some 20 by decide +kernel, Option.bind_some, if_pos ⟨by decide, by decide, by decide, by decide⟩]; rfl)
theorem s102_20k512 {ls : LV} {st : List AV} {m : MM} : go 102 20 ls (.inl 512 :: st) m = go 102 22 ls (.inr (.inr (20, some (mC m 20))) :: st) (al m 20 512 512) := e_1 d102_20 (Or.inl rfl) (by rw [xi, pI, show lk naL 102 20 = some 20 by decide +kernel, Option.bind_some, if_pos ⟨by decide, by decide, by decide, by decide⟩]; rfl)
theorem s102_20k600 {ls : LV} {st : List AV} {m : MM} : go 102 20 ls (.inl 600 :: st) m = go 102 22 ls (.inr (.inr (20, some (mC m 20))) :: st) (al m 20 600 600) := e_1 d102_20 (Or.inl rfl) (by rw [xi, pI, show lk naL 102 20 = some 20 by decide +kernel, Option.bind_some, if_pos ⟨by decide, by decide, by decide, by decide⟩]; rfl)
theorem s102_20k6400 {ls : LV} {st : List AV} {m : MM} : go 102 20 ls (.inl 6400 :: st) m = go 102 22 ls (.inr (.inr (20, some (mC m 20))) :: st) (al m 20 6400 6400) := e_1 d102_20 (Or.inl rfl) (by rw [xi, pI, show lk naL 102 20 = some 20 by decide +kernel, Option.bind_some, if_pos ⟨by decide, by decide, by decide, by decide⟩]; rfl)
theorem d102_22 : decode (mt 102).2.1 22 = .ok (.putfield 17, 3) := by decide +kernel
theorem s102_22r {ls : LV} {st : List AV} {m : MM} {n : Nat} {p : Option Nat} : go 102 22 ls (.inr (.inr (20, p)) :: .inr (.inr (8, some n)) :: st) m = go 102 25 ls st (sR m 8 n 3 p) := e_put (r := 8) (f := 3) d102_22 (by decide +kernel) (by simp [fc, tk, ek, ekL, fk, fkL]) (by decide +kernel)
theorem s102_22n {ls : LV} {st : List AV} {m : MM} {n w : Nat} : go 102 22 ls (.inr (.inr (w, none)) :: .inr (.inr (8, some n)) :: st) m = go 102 25 ls st (sR m 8 n 3 none) := e_put (r := 8) (f := 3) d102_22 (by decide +kernel) (by simp [fc, tk, ek, ekL, fk, fkL]) (by decide +kernel)
theorem d102_25 : decode (mt 102).2.1 25 = .ok (.aload_n 0, 1) := by decide +kernel
theorem s102_25 {st : List AV} {m : MM} {x : Nat × Option Nat} : go 102 25 [some (.inr (.inr x))] st m = go 102 26 [some (.inr (.inr x))] (.inr (.inr x) :: st) m := e_1 d102_25 (Or.inl rfl) rfl
theorem d102_26 : decode (mt 102).2.1 26 = .ok (.bipush 32, 2) := by decide +kernel
theorem s102_26 {ls : LV} {st : List AV} {m : MM} : go 102 26 ls st m = go 102 28 ls (.inl 32 :: st) m := e_1 d102_26 (Or.inl rfl) rfl
theorem d102_28 : decode (mt 102).2.1 28 = .ok (.newarray .int, 2) := by decide +kernel
theorem s102_28k1 {ls : LV} {st : List AV} {m : MM} : go 102 28 ls (.inl 1 :: st) m = go 102 30 ls (.inr (.inr (21, some (mC m 21))) :: st) (al m 21 1 1) := e_1 d102_28 (Or.inl rfl) (by rw [xi, pI, show lk naL 102 28 = some 21 by decide +kernel, Option.bind_some, if_pos ⟨by decide, by decide, by decide, by decide⟩]; rfl)
theorem s102_28k16 {ls : LV} {st : List AV} {m : MM} : go 102 28 ls (.inl 16 :: st) m = go 102 30 ls (.inr (.inr (21, some (mC m 21))) :: st) (al m 21 16 16) := e_1 d102_28 (Or.inl rfl) (by rw [xi, pI, show lk naL 102 28 = some 21 by decide +kernel, Option.bind_some, if_pos ⟨by decide, by decide, by decide, by decide⟩]; rfl)
theorem s102_28k32 {ls : LV} {st : List AV} {m : MM} : go 102 28 ls (.inl 32 :: st) m = go 102 30 ls (.inr (.inr (21, some (mC m 21))) :: st) (al m 21 32 32) := e_1 d102_28 (Or.inl rfl) (by rw [xi, pI, show lk naL 102 28 = some 21 by decide +kernel, Option.bind_some, if_pos ⟨by decide, by decide, by decide, by decide⟩]; rfl)
theorem s102_28k160 {ls : LV} {st : List AV} {m : MM} : go 102 28 ls (.inl 160 :: st) m = go 102 30 ls (.inr (.inr (21, some (mC m 21))) :: st) (al m 21 160 160) := e_1 d102_28 (Or.inl rfl) (by rw [xi, pI, show lk naL 102 28 = some 21 by decide +kernel, Option.bind_some, if_pos ⟨by decide, by decide, by decide, by decide⟩]; rfl)
theorem s102_28k288 {ls : LV} {st : List AV} {m : MM} : go 102 28 ls (.inl 288 :: st) m = go 102 30 ls (.inr (.inr (21, some (mC m 21))) :: st) (al m 21 288 288) := e_1 d102_28 (Or.inl rfl) (by rw [xi, pI, show lk naL 102 28 = some 21 by decide +kernel, Option.bind_some, if_pos ⟨by decide, by decide, by decide, by decide⟩]; rfl)
theorem s102_28k512 {ls : LV} {st : List AV} {m : MM} : go 102 28 ls (.inl 512 :: st) m = go 102 30 ls (.inr (.inr (21, some (mC m 21))) :: st) (al m 21 512 512) := e_1 d102_28 (Or.inl rfl) (by rw [xi, pI, show lk naL 102 28 = some 21 by decide +kernel, Option.bind_some, if_pos ⟨by decide, by decide, by decide, by decide⟩]; rfl)
theorem s102_28k600 {ls : LV} {st : List AV} {m : MM} : go 102 28 ls (.inl 600 :: st) m = go 102 30 ls (.inr (.inr (21, some (mC m 21))) :: st) (al m 21 600 600) := e_1 d102_28 (Or.inl rfl) (by rw [xi, pI, show lk naL 102 28 = some 21 by decide +kernel, Option.bind_some, if_pos ⟨by decide, by decide, by decide, by decide⟩]; rfl)
theorem s102_28k6400 {ls : LV} {st : List AV} {m : MM} : go 102 28 ls (.inl 6400 :: st) m = go 102 30 ls (.inr (.inr (21, some (mC m 21))) :: st) (al m 21 6400 6400) := e_1 d102_28 (Or.inl rfl) (by rw [xi, pI, show lk naL 102 28 = some 21 by decide +kernel, Option.bind_some, if_pos ⟨by decide, by decide, by decide, by decide⟩]; rfl)
theorem d102_30 : decode (mt 102).2.1 30 = .ok (.putfield 20, 3) := by decide +kernel
theorem s102_30r {ls : LV} {st : List AV} {m : MM} {n : Nat} {p : Option Nat} : go 102 30 ls (.inr (.inr (21, p)) :: .inr (.inr (8, some n)) :: st) m = go 102 33 ls st (sR m 8 n 4 p) := e_put (r := 8) (f := 4) d102_30 (by decide +kernel) (by simp [fc, tk, ek, ekL, fk, fkL]) (by decide +kernel)
theorem s102_30n {ls : LV} {st : List AV} {m : MM} {n w : Nat} : go 102 30 ls (.inr (.inr (w, none)) :: .inr (.inr (8, some n)) :: st) m = go 102 33 ls st (sR m 8 n 4 none) := e_put (r := 8) (f := 4) d102_30 (by decide +kernel) (by simp [fc, tk, ek, ekL, fk, fkL]) (by decide +kernel)
theorem d102_33 : decode (mt 102).2.1 33 = .ok (.aload_n 0, 1) := by decide +kernel
theorem s102_33 {st : List AV} {m : MM} {x : Nat × Option Nat} : go 102 33 [some (.inr (.inr x))] st m = go 102 34 [some (.inr (.inr x))] (.inr (.inr x) :: st) m := e_1 d102_33 (Or.inl rfl) rfl
theorem d102_34 : decode (mt 102).2.1 34 = .ok (.bipush 32, 2) := by decide +kernel
theorem s102_34 {ls : LV} {st : List AV} {m : MM} : go 102 34 ls st m = go 102 36 ls (.inl 32 :: st) m := e_1 d102_34 (Or.inl rfl) rfl
theorem d102_36 : decode (mt 102).2.1 36 = .ok (.newarray .int, 2) := by decide +kernel
theorem s102_36k1 {ls : LV} {st : List AV} {m : MM} : go 102 36 ls (.inl 1 :: st) m = go 102 38 ls (.inr (.inr (22, some (mC m 22))) :: st) (al m 22 1 1) := e_1 d102_36 (Or.inl rfl) (by rw [xi, pI, show lk naL 102 36 = some 22 by decide +kernel, Option.bind_some, if_pos ⟨by decide, by decide, by decide, by decide⟩]; rfl)
theorem s102_36k16 {ls : LV} {st : List AV} {m : MM} : go 102 36 ls (.inl 16 :: st) m = go 102 38 ls (.inr (.inr (22, some (mC m 22))) :: st) (al m 22 16 16) := e_1 d102_36 (Or.inl rfl) (by rw [xi, pI, show lk naL 102 36 = some 22 by decide +kernel, Option.bind_some, if_pos ⟨by decide, by decide, by decide, by decide⟩]; rfl)
theorem s102_36k32 {ls : LV} {st : List AV} {m : MM} : go 102 36 ls (.inl 32 :: st) m = go 102 38 ls (.inr (.inr (22, some (mC m 22))) :: st) (al m 22 32 32) := e_1 d102_36 (Or.inl rfl) (by rw [xi, pI, show lk naL 102 36 = some 22 by decide +kernel, Option.bind_some, if_pos ⟨by decide, by decide, by decide, by decide⟩]; rfl)
theorem s102_36k160 {ls : LV} {st : List AV} {m : MM} : go 102 36 ls (.inl 160 :: st) m = go 102 38 ls (.inr (.inr (22, some (mC m 22))) :: st) (al m 22 160 160) := e_1 d102_36 (Or.inl rfl) (by rw [xi, pI, show lk naL 102 36 = some 22 by decide +kernel, Option.bind_some, if_pos ⟨by decide, by decide, by decide, by decide⟩]; rfl)
theorem s102_36k288 {ls : LV} {st : List AV} {m : MM} : go 102 36 ls (.inl 288 :: st) m = go 102 38 ls (.inr (.inr (22, some (mC m 22))) :: st) (al m 22 288 288) := e_1 d102_36 (Or.inl rfl) (by rw [xi, pI, show lk naL 102 36 = some 22 by decide +kernel, Option.bind_some, if_pos ⟨by decide, by decide, by decide, by decide⟩]; rfl)
theorem s102_36k512 {ls : LV} {st : List AV} {m : MM} : go 102 36 ls (.inl 512 :: st) m = go 102 38 ls (.inr (.inr (22, some (mC m 22))) :: st) (al m 22 512 512) := e_1 d102_36 (Or.inl rfl) (by rw [xi, pI, show lk naL 102 36 = some 22 by decide +kernel, Option.bind_some, if_pos ⟨by decide, by decide, by decide, by decide⟩]; rfl)
theorem s102_36k600 {ls : LV} {st : List AV} {m : MM} : go 102 36 ls (.inl 600 :: st) m = go 102 38 ls (.inr (.inr (22, some (mC m 22))) :: st) (al m 22 600 600) := e_1 d102_36 (Or.inl rfl) (by rw [xi, pI, show lk naL 102 36 = some 22 by decide +kernel, Option.bind_some, if_pos ⟨by decide, by decide, by decide, by decide⟩]; rfl)
theorem s102_36k6400 {ls : LV} {st : List AV} {m : MM} : go 102 36 ls (.inl 6400 :: st) m = go 102 38 ls (.inr (.inr (22, some (mC m 22))) :: st) (al m 22 6400 6400) := e_1 d102_36 (Or.inl rfl) (by rw [xi, pI, show lk naL 102 36 = some 22 by decide +kernel, Option.bind_some, if_pos ⟨by decide, by decide, by decide, by decide⟩]; rfl)
theorem d102_38 : decode (mt 102).2.1 38 = .ok (.putfield 23, 3) := by decide +kernel
theorem s102_38r {ls : LV} {st : List AV} {m : MM} {n : Nat} {p : Option Nat} : go 102 38 ls (.inr (.inr (22, p)) :: .inr (.inr (8, some n)) :: st) m = go 102 41 ls st (sR m 8 n 5 p) := e_put (r := 8) (f := 5) d102_38 (by decide +kernel) (by simp [fc, tk, ek, ekL, fk, fkL]) (by decide +kernel)
theorem s102_38n {ls : LV} {st : List AV} {m : MM} {n w : Nat} : go 102 38 ls (.inr (.inr (w, none)) :: .inr (.inr (8, some n)) :: st) m = go 102 41 ls st (sR m 8 n 5 none) := e_put (r := 8) (f := 5) d102_38 (by decide +kernel) (by simp [fc, tk, ek, ekL, fk, fkL]) (by decide +kernel)
theorem d102_41 : decode (mt 102).2.1 41 = .ok (.aload_n 0, 1) := by decide +kernel
theorem s102_41 {st : List AV} {m : MM} {x : Nat × Option Nat} : go 102 41 [some (.inr (.inr x))] st m = go 102 42 [some (.inr (.inr x))] (.inr (.inr x) :: st) m := e_1 d102_41 (Or.inl rfl) rfl
theorem d102_42 : decode (mt 102).2.1 42 = .ok (.sipush 288, 3) := by decide +kernel
theorem s102_42 {ls : LV} {st : List AV} {m : MM} : go 102 42 ls st m = go 102 45 ls (.inl 288 :: st) m := e_1 d102_42 (Or.inl rfl) rfl
theorem d102_45 : decode (mt 102).2.1 45 = .ok (.newarray .boolean, 2) := by decide +kernel
theorem s102_45k1 {ls : LV} {st : List AV} {m : MM} : go 102 45 ls (.inl 1 :: st) m = go 102 47 ls (.inr (.inr (23, some (mC m 23))) :: st) (al m 23 1 1) := e_1 d102_45 (Or.inl rfl) (by rw [xi, pI, show lk naL 102 45 = some 23 by decide +kernel, Option.bind_some, if_pos ⟨by decide, by decide, by decide, by decide⟩]; rfl)
theorem s102_45k16 {ls : LV} {st : List AV} {m : MM} : go 102 45 ls (.inl 16 :: st) m = go 102 47 ls (.inr (.inr (23, some (mC m 23))) :: st) (al m 23 16 16) := e_1 d102_45 (Or.inl rfl) (by rw [xi, pI, show lk naL 102 45 = some 23 by decide +kernel, Option.bind_some, if_pos ⟨by decide, by decide, by decide, by decide⟩]; rfl)
theorem s102_45k32 {ls : LV} {st : List AV} {m : MM} : go 102 45 ls (.inl 32 :: st) m = go 102 47 ls (.inr (.inr (23, some (mC m 23))) :: st) (al m 23 32 32) := e_1 d102_45 (Or.inl rfl) (by rw [xi, pI, show lk naL 102 45 = some 23 by decide +kernel, Option.bind_some, if_pos ⟨by decide, by decide, by decide, by decide⟩]; rfl)
theorem s102_45k160 {ls : LV} {st : List AV} {m : MM} : go 102 45 ls (.inl 160 :: st) m = go 102 47 ls (.inr (.inr (23, some (mC m 23))) :: st) (al m 23 160 160) := e_1 d102_45 (Or.inl rfl) (by rw [xi, pI, show lk naL 102 45 = some 23 by decide +kernel, Option.bind_some, if_pos ⟨by decide, by decide, by decide, by decide⟩]; rfl)
theorem s102_45k288 {ls : LV} {st : List AV} {m : MM} : go 102 45 ls (.inl 288 :: st) m = go 102 47 ls (.inr (.inr (23, some (mC m 23))) :: st) (al m 23 288 288) := e_1 d102_45 (Or.inl rfl) (by rw [xi, pI, show lk naL 102 45 = some 23 by decide +kernel, Option.bind_some, if_pos ⟨by decide, by decide, by decide, by decide⟩]; rfl)
theorem s102_45k512 {ls : LV} {st : List AV} {m : MM} : go 102 45 ls (.inl 512 :: st) m = go 102 47 ls (.inr (.inr (23, some (mC m 23))) :: st) (al m 23 512 512) := e_1 d102_45 (Or.inl rfl) (by rw [xi, pI, show lk naL 102 45 = some 23 by decide +kernel, Option.bind_some, if_pos ⟨by decide, by decide, by decide, by decide⟩]; rfl)
theorem s102_45k600 {ls : LV} {st : List AV} {m : MM} : go 102 45 ls (.inl 600 :: st) m = go 102 47 ls (.inr (.inr (23, some (mC m 23))) :: st) (al m 23 600 600) := e_1 d102_45 (Or.inl rfl) (by rw [xi, pI, show lk naL 102 45 = some 23 by decide +kernel, Option.bind_some, if_pos ⟨by decide, by decide, by decide, by decide⟩]; rfl)
theorem s102_45k6400 {ls : LV} {st : List AV} {m : MM} : go 102 45 ls (.inl 6400 :: st) m = go 102 47 ls (.inr (.inr (23, some (mC m 23))) :: st) (al m 23 6400 6400) := e_1 d102_45 (Or.inl rfl) (by rw [xi, pI, show lk naL 102 45 = some 23 by decide +kernel, Option.bind_some, if_pos ⟨by decide, by decide, by decide, by decide⟩]; rfl)
theorem d102_47 : decode (mt 102).2.1 47 = .ok (.putfield 26, 3) := by decide +kernel
theorem s102_47r {ls : LV} {st : List AV} {m : MM} {n : Nat} {p : Option Nat} : go 102 47 ls (.inr (.inr (23, p)) :: .inr (.inr (8, some n)) :: st) m = go 102 50 ls st (sR m 8 n 6 p) := e_put (r := 8) (f := 6) d102_47 (by decide +kernel) (by simp [fc, tk, ek, ekL, fk, fkL]) (by decide +kernel)
theorem s102_47n {ls : LV} {st : List AV} {m : MM} {n w : Nat} : go 102 47 ls (.inr (.inr (w, none)) :: .inr (.inr (8, some n)) :: st) m = go 102 50 ls st (sR m 8 n 6 none) := e_put (r := 8) (f := 6) d102_47 (by decide +kernel) (by simp [fc, tk, ek, ekL, fk, fkL]) (by decide +kernel)
theorem d102_50 : decode (mt 102).2.1 50 = .ok (.aload_n 0, 1) := by decide +kernel
theorem s102_50 {st : List AV} {m : MM} {x : Nat × Option Nat} : go 102 50 [some (.inr (.inr x))] st m = go 102 51 [some (.inr (.inr x))] (.inr (.inr x) :: st) m := e_1 d102_50 (Or.inl rfl) rfl
theorem d102_51 : decode (mt 102).2.1 51 = .ok (.sipush 288, 3) := by decide +kernel
theorem s102_51 {ls : LV} {st : List AV} {m : MM} : go 102 51 ls st m = go 102 54 ls (.inl 288 :: st) m := e_1 d102_51 (Or.inl rfl) rfl
theorem d102_54 : decode (mt 102).2.1 54 = .ok (.newarray .int, 2) := by decide +kernel
theorem s102_54k1 {ls : LV} {st : List AV} {m : MM} : go 102 54 ls (.inl 1 :: st) m = go 102 56 ls (.inr (.inr (24, some (mC m 24))) :: st) (al m 24 1 1) := e_1 d102_54 (Or.inl rfl) (by rw [xi, pI, show lk naL 102 54 = some 24 by decide +kernel, Option.bind_some, if_pos ⟨by decide, by decide, by decide, by decide⟩]; rfl)
theorem s102_54k16 {ls : LV} {st : List AV} {m : MM} : go 102 54 ls (.inl 16 :: st) m = go 102 56 ls (.inr (.inr (24, some (mC m 24))) :: st) (al m 24 16 16) := e_1 d102_54 (Or.inl rfl) (by rw [xi, pI, show lk naL 102 54 = some 24 by decide +kernel, Option.bind_some, if_pos ⟨by decide, by decide, by decide, by decide⟩]; rfl)
theorem s102_54k32 {ls : LV} {st : List AV} {m : MM} : go 102 54 ls (.inl 32 :: st) m = go 102 56 ls (.inr (.inr (24, some (mC m 24))) :: st) (al m 24 32 32) := e_1 d102_54 (Or.inl rfl) (by rw [xi, pI, show lk naL 102 54 = some 24 by decide +kernel, Option.bind_some, if_pos ⟨by decide, by decide, by decide, by decide⟩]; rfl)
theorem s102_54k160 {ls : LV} {st : List AV} {m : MM} : go 102 54 ls (.inl 160 :: st) m = go 102 56 ls (.inr (.inr (24, some (mC m 24))) :: st) (al m 24 160 160) := e_1 d102_54 (Or.inl rfl) (by rw [xi, pI, show lk naL 102 54 = some 24 by decide +kernel, Option.bind_some, if_pos ⟨by decide, by decide, by decide, by decide⟩]; rfl)
theorem s102_54k288 {ls : LV} {st : List AV} {m : MM} : go 102 54 ls (.inl 288 :: st) m = go 102 56 ls (.inr (.inr (24, some (mC m 24))) :: st) (al m 24 288 288) := e_1 d102_54 (Or.inl rfl) (by rw [xi, pI, show lk naL 102 54 = some 24 by decide +kernel, Option.bind_some, if_pos ⟨by decide, by decide, by decide, by decide⟩]; rfl)
theorem s102_54k512 {ls : LV} {st : List AV} {m : MM} : go 102 54 ls (.inl 512 :: st) m = go 102 56 ls (.inr (.inr (24, some (mC m 24))) :: st) (al m 24 512 512) := e_1 d102_54 (Or.inl rfl) (by rw [xi, pI, show lk naL 102 54 = some 24 by decide +kernel, Option.bind_some, if_pos ⟨by decide, by decide, by decide, by decide⟩]; rfl)
theorem s102_54k600 {ls : LV} {st : List AV} {m : MM} : go 102 54 ls (.inl 600 :: st) m = go 102 56 ls (.inr (.inr (24, some (mC m 24))) :: st) (al m 24 600 600) := e_1 d102_54 (Or.inl rfl) (by rw [xi, pI, show lk naL 102 54 = some 24 by decide +kernel, Option.bind_some, if_pos ⟨by decide, by decide, by decide, by decide⟩]; rfl)
theorem s102_54k6400 {ls : LV} {st : List AV} {m : MM} : go 102 54 ls (.inl 6400 :: st) m = go 102 56 ls (.inr (.inr (24, some (mC m 24))) :: st) (al m 24 6400 6400) := e_1 d102_54 (Or.inl rfl) (by rw [xi, pI, show lk naL 102 54 = some 24 by decide +kernel, Option.bind_some, if_pos ⟨by decide, by decide, by decide, by decide⟩]; rfl)
theorem d102_56 : decode (mt 102).2.1 56 = .ok (.putfield 30, 3) := by decide +kernel
theorem s102_56r {ls : LV} {st : List AV} {m : MM} {n : Nat} {p : Option Nat} : go 102 56 ls (.inr (.inr (24, p)) :: .inr (.inr (8, some n)) :: st) m = go 102 59 ls st (sR m 8 n 7 p) := e_put (r := 8) (f := 7) d102_56 (by decide +kernel) (by simp [fc, tk, ek, ekL, fk, fkL]) (by decide +kernel)
theorem s102_56n {ls : LV} {st : List AV} {m : MM} {n w : Nat} : go 102 56 ls (.inr (.inr (w, none)) :: .inr (.inr (8, some n)) :: st) m = go 102 59 ls st (sR m 8 n 7 none) := e_put (r := 8) (f := 7) d102_56 (by decide +kernel) (by simp [fc, tk, ek, ekL, fk, fkL]) (by decide +kernel)
theorem d102_59 : decode (mt 102).2.1 59 = .ok (.aload_n 0, 1) := by decide +kernel
theorem s102_59 {st : List AV} {m : MM} {x : Nat × Option Nat} : go 102 59 [some (.inr (.inr x))] st m = go 102 60 [some (.inr (.inr x))] (.inr (.inr x) :: st) m := e_1 d102_59 (Or.inl rfl) rfl
theorem d102_60 : decode (mt 102).2.1 60 = .ok (.sipush 288, 3) := by decide +kernel
theorem s102_60 {ls : LV} {st : List AV} {m : MM} : go 102 60 ls st m = go 102 63 ls (.inl 288 :: st) m := e_1 d102_60 (Or.inl rfl) rfl
theorem d102_63 : decode (mt 102).2.1 63 = .ok (.newarray .int, 2) := by decide +kernel
theorem s102_63k1 {ls : LV} {st : List AV} {m : MM} : go 102 63 ls (.inl 1 :: st) m = go 102 65 ls (.inr (.inr (25, some (mC m 25))) :: st) (al m 25 1 1) := e_1 d102_63 (Or.inl rfl) (by rw [xi, pI, show lk naL 102 63 = some 25 by decide +kernel, Option.bind_some, if_pos ⟨by decide, by decide, by decide, by decide⟩]; rfl)
theorem s102_63k16 {ls : LV} {st : List AV} {m : MM} : go 102 63 ls (.inl 16 :: st) m = go 102 65 ls (.inr (.inr (25, some (mC m 25))) :: st) (al m 25 16 16) := e_1 d102_63 (Or.inl rfl) (by rw [xi, pI, show lk naL 102 63 = some 25 by decide +kernel, Option.bind_some, if_pos ⟨by decide, by decide, by decide, by decide⟩]; rfl)
theorem s102_63k32 {ls : LV} {st : List AV} {m : MM} : go 102 63 ls (.inl 32 :: st) m = go 102 65 ls (.inr (.inr (25, some (mC m 25))) :: st) (al m 25 32 32) := e_1 d102_63 (Or.inl rfl) (by rw [xi, pI, show lk naL 102 63 = some 25 by decide +kernel, Option.bind_some, if_pos ⟨by decide, by decide, by decide, by decide⟩]; rfl)
theorem s102_63k160 {ls : LV} {st : List AV} {m : MM} : go 102 63 ls (.inl 160 :: st) m = go 102 65 ls (.inr (.inr (25, some (mC m 25))) :: st) (al m 25 160 160) := e_1 d102_63 (Or.inl rfl) (by rw [xi, pI, show lk naL 102 63 = some 25 by decide +kernel, Option.bind_some, if_pos ⟨by decide, by decide, by decide, by decide⟩]; rfl)
theorem s102_63k288 {ls : LV} {st : List AV} {m : MM} : go 102 63 ls (.inl 288 :: st) m = go 102 65 ls (.inr (.inr (25, some (mC m 25))) :: st) (al m 25 288 288) := e_1 d102_63 (Or.inl rfl) (by rw [xi, pI, show lk naL 102 63 = some 25 by decide +kernel, Option.bind_some, if_pos ⟨by decide, by decide, by decide, by decide⟩]; rfl)
theorem s102_63k512 {ls : LV} {st : List AV} {m : MM} : go 102 63 ls (.inl 512 :: st) m = go 102 65 ls (.inr (.inr (25, some (mC m 25))) :: st) (al m 25 512 512) := e_1 d102_63 (Or.inl rfl) (by rw [xi, pI, show lk naL 102 63 = some 25 by decide +kernel, Option.bind_some, if_pos ⟨by decide, by decide, by decide, by decide⟩]; rfl)
theorem s102_63k600 {ls : LV} {st : List AV} {m : MM} : go 102 63 ls (.inl 600 :: st) m = go 102 65 ls (.inr (.inr (25, some (mC m 25))) :: st) (al m 25 600 600) := e_1 d102_63 (Or.inl rfl) (by rw [xi, pI, show lk naL 102 63 = some 25 by decide +kernel, Option.bind_some, if_pos ⟨by decide, by decide, by decide, by decide⟩]; rfl)
theorem s102_63k6400 {ls : LV} {st : List AV} {m : MM} : go 102 63 ls (.inl 6400 :: st) m = go 102 65 ls (.inr (.inr (25, some (mC m 25))) :: st) (al m 25 6400 6400) := e_1 d102_63 (Or.inl rfl) (by rw [xi, pI, show lk naL 102 63 = some 25 by decide +kernel, Option.bind_some, if_pos ⟨by decide, by decide, by decide, by decide⟩]; rfl)
theorem d102_65 : decode (mt 102).2.1 65 = .ok (.putfield 33, 3) := by decide +kernel
theorem s102_65r {ls : LV} {st : List AV} {m : MM} {n : Nat} {p : Option Nat} : go 102 65 ls (.inr (.inr (25, p)) :: .inr (.inr (8, some n)) :: st) m = go 102 68 ls st (sR m 8 n 8 p) := e_put (r := 8) (f := 8) d102_65 (by decide +kernel) (by simp [fc, tk, ek, ekL, fk, fkL]) (by decide +kernel)
theorem s102_65n {ls : LV} {st : List AV} {m : MM} {n w : Nat} : go 102 65 ls (.inr (.inr (w, none)) :: .inr (.inr (8, some n)) :: st) m = go 102 68 ls st (sR m 8 n 8 none) := e_put (r := 8) (f := 8) d102_65 (by decide +kernel) (by simp [fc, tk, ek, ekL, fk, fkL]) (by decide +kernel)
theorem d102_68 : decode (mt 102).2.1 68 = .ok (.aload_n 0, 1) := by decide +kernel
theorem s102_68 {st : List AV} {m : MM} {x : Nat × Option Nat} : go 102 68 [some (.inr (.inr x))] st m = go 102 69 [some (.inr (.inr x))] (.inr (.inr x) :: st) m := e_1 d102_68 (Or.inl rfl) rfl
theorem d102_69 : decode (mt 102).2.1 69 = .ok (.bipush 32, 2) := by decide +kernel
theorem s102_69 {ls : LV} {st : List AV} {m : MM} : go 102 69 ls st m = go 102 71 ls (.inl 32 :: st) m := e_1 d102_69 (Or.inl rfl) rfl
theorem d102_71 : decode (mt 102).2.1 71 = .ok (.newarray .int, 2) := by decide +kernel
theorem s102_71k1 {ls : LV} {st : List AV} {m : MM} : go 102 71 ls (.inl 1 :: st) m = go 102 73 ls (.inr (.inr (26, some (mC m 26))) :: st) (al m 26 1 1) := e_1 d102_71 (Or.inl rfl) (by rw [xi, pI, show lk naL 102 71 = some 26 by decide +kernel, Option.bind_some, if_pos ⟨by decide, by decide, by decide, by decide⟩]; rfl)
theorem s102_71k16 {ls : LV} {st : List AV} {m : MM} : go 102 71 ls (.inl 16 :: st) m = go 102 73 ls (.inr (.inr (26, some (mC m 26))) :: st) (al m 26 16 16) := e_1 d102_71 (Or.inl rfl) (by rw [xi, pI, show lk naL 102 71 = some 26 by decide +kernel, Option.bind_some, if_pos ⟨by decide, by decide, by decide, by decide⟩]; rfl)
theorem s102_71k32 {ls : LV} {st : List AV} {m : MM} : go 102 71 ls (.inl 32 :: st) m = go 102 73 ls (.inr (.inr (26, some (mC m 26))) :: st) (al m 26 32 32) := e_1 d102_71 (Or.inl rfl) (by rw [xi, pI, show lk naL 102 71 = some 26 by decide +kernel, Option.bind_some, if_pos ⟨by decide, by decide, by decide, by decide⟩]; rfl)
theorem s102_71k160 {ls : LV} {st : List AV} {m : MM} : go 102 71 ls (.inl 160 :: st) m = go 102 73 ls (.inr (.inr (26, some (mC m 26))) :: st) (al m 26 160 160) := e_1 d102_71 (Or.inl rfl) (by rw [xi, pI, show lk naL 102 71 = some 26 by decide +kernel, Option.bind_some, if_pos ⟨by decide, by decide, by decide, by decide⟩]; rfl)
theorem s102_71k288 {ls : LV} {st : List AV} {m : MM} : go 102 71 ls (.inl 288 :: st) m = go 102 73 ls (.inr (.inr (26, some (mC m 26))) :: st) (al m 26 288 288) := e_1 d102_71 (Or.inl rfl) (by rw [xi, pI, show lk naL 102 71 = some 26 by decide +kernel, Option.bind_some, if_pos ⟨by decide, by decide, by decide, by decide⟩]; rfl)
theorem s102_71k512 {ls : LV} {st : List AV} {m : MM} : go 102 71 ls (.inl 512 :: st) m = go 102 73 ls (.inr (.inr (26, some (mC m 26))) :: st) (al m 26 512 512) := e_1 d102_71 (Or.inl rfl) (by rw [xi, pI, show lk naL 102 71 = some 26 by decide +kernel, Option.bind_some, if_pos ⟨by decide, by decide, by decide, by decide⟩]; rfl)
theorem s102_71k600 {ls : LV} {st : List AV} {m : MM} : go 102 71 ls (.inl 600 :: st) m = go 102 73 ls (.inr (.inr (26, some (mC m 26))) :: st) (al m 26 600 600) := e_1 d102_71 (Or.inl rfl) (by rw [xi, pI, show lk naL 102 71 = some 26 by decide +kernel, Option.bind_some, if_pos ⟨by decide, by decide, by decide, by decide⟩]; rfl)
theorem s102_71k6400 {ls : LV} {st : List AV} {m : MM} : go 102 71 ls (.inl 6400 :: st) m = go 102 73 ls (.inr (.inr (26, some (mC m 26))) :: st) (al m 26 6400 6400) := e_1 d102_71 (Or.inl rfl) (by rw [xi, pI, show lk naL 102 71 = some 26 by decide +kernel, Option.bind_some, if_pos ⟨by decide, by decide, by decide, by decide⟩]; rfl)
theorem d102_73 : decode (mt 102).2.1 73 = .ok (.putfield 36, 3) := by decide +kernel
theorem s102_73r {ls : LV} {st : List AV} {m : MM} {n : Nat} {p : Option Nat} : go 102 73 ls (.inr (.inr (26, p)) :: .inr (.inr (8, some n)) :: st) m = go 102 76 ls st (sR m 8 n 9 p) := e_put (r := 8) (f := 9) d102_73 (by decide +kernel) (by simp [fc, tk, ek, ekL, fk, fkL]) (by decide +kernel)
theorem s102_73n {ls : LV} {st : List AV} {m : MM} {n w : Nat} : go 102 73 ls (.inr (.inr (w, none)) :: .inr (.inr (8, some n)) :: st) m = go 102 76 ls st (sR m 8 n 9 none) := e_put (r := 8) (f := 9) d102_73 (by decide +kernel) (by simp [fc, tk, ek, ekL, fk, fkL]) (by decide +kernel)
theorem d102_76 : decode (mt 102).2.1 76 = .ok (.aload_n 0, 1) := by decide +kernel
theorem s102_76 {st : List AV} {m : MM} {x : Nat × Option Nat} : go 102 76 [some (.inr (.inr x))] st m = go 102 77 [some (.inr (.inr x))] (.inr (.inr x) :: st) m := e_1 d102_76 (Or.inl rfl) rfl
theorem d102_77 : decode (mt 102).2.1 77 = .ok (.bipush 32, 2) := by decide +kernel
theorem s102_77 {ls : LV} {st : List AV} {m : MM} : go 102 77 ls st m = go 102 79 ls (.inl 32 :: st) m := e_1 d102_77 (Or.inl rfl) rfl
theorem d102_79 : decode (mt 102).2.1 79 = .ok (.newarray .int, 2) := by decide +kernel
theorem s102_79k1 {ls : LV} {st : List AV} {m : MM} : go 102 79 ls (.inl 1 :: st) m = go 102 81 ls (.inr (.inr (27, some (mC m 27))) :: st) (al m 27 1 1) := e_1 d102_79 (Or.inl rfl) (by rw [xi, pI, show lk naL 102 79 = some 27 by decide +kernel, Option.bind_some, if_pos ⟨by decide, by decide, by decide, by decide⟩]; rfl)
theorem s102_79k16 {ls : LV} {st : List AV} {m : MM} : go 102 79 ls (.inl 16 :: st) m = go 102 81 ls (.inr (.inr (27, some (mC m 27))) :: st) (al m 27 16 16) := e_1 d102_79 (Or.inl rfl) (by rw [xi, pI, show lk naL 102 79 = some 27 by decide +kernel, Option.bind_some, if_pos ⟨by decide, by decide, by decide, by decide⟩]; rfl)
theorem s102_79k32 {ls : LV} {st : List AV} {m : MM} : go 102 79 ls (.inl 32 :: st) m = go 102 81 ls (.inr (.inr (27, some (mC m 27))) :: st) (al m 27 32 32) := e_1 d102_79 (Or.inl rfl) (by rw [xi, pI, show lk naL 102 79 = some 27 by decide +kernel, Option.bind_some, if_pos ⟨by decide, by decide, by decide, by decide⟩]; rfl)
theorem s102_79k160 {ls : LV} {st : List AV} {m : MM} : go 102 79 ls (.inl 160 :: st) m = go 102 81 ls (.inr (.inr (27, some (mC m 27))) :: st) (al m 27 160 160) := e_1 d102_79 (Or.inl rfl) (by rw [xi, pI, show lk naL 102 79 = some 27 by decide +kernel, Option.bind_some, if_pos ⟨by decide, by decide, by decide, by decide⟩]; rfl)
theorem s102_79k288 {ls : LV} {st : List AV} {m : MM} : go 102 79 ls (.inl 288 :: st) m = go 102 81 ls (.inr (.inr (27, some (mC m 27))) :: st) (al m 27 288 288) := e_1 d102_79 (Or.inl rfl) (by rw [xi, pI, show lk naL 102 79 = some 27 by decide +kernel, Option.bind_some, if_pos ⟨by decide, by decide, by decide, by decide⟩]; rfl)
theorem s102_79k512 {ls : LV} {st : List AV} {m : MM} : go 102 79 ls (.inl 512 :: st) m = go 102 81 ls (.inr (.inr (27, some (mC m 27))) :: st) (al m 27 512 512) := e_1 d102_79 (Or.inl rfl) (by rw [xi, pI, show lk naL 102 79 = some 27 by decide +kernel, Option.bind_some, if_pos ⟨by decide, by decide, by decide, by decide⟩]; rfl)
theorem s102_79k600 {ls : LV} {st : List AV} {m : MM} : go 102 79 ls (.inl 600 :: st) m = go 102 81 ls (.inr (.inr (27, some (mC m 27))) :: st) (al m 27 600 600) := e_1 d102_79 (Or.inl rfl) (by rw [xi, pI, show lk naL 102 79 = some 27 by decide +kernel, Option.bind_some, if_pos ⟨by decide, by decide, by decide, by decide⟩]; rfl)
theorem s102_79k6400 {ls : LV} {st : List AV} {m : MM} : go 102 79 ls (.inl 6400 :: st) m = go 102 81 ls (.inr (.inr (27, some (mC m 27))) :: st) (al m 27 6400 6400) := e_1 d102_79 (Or.inl rfl) (by rw [xi, pI, show lk naL 102 79 = some 27 by decide +kernel, Option.bind_some, if_pos ⟨by decide, by decide, by decide, by decide⟩]; rfl)
theorem d102_81 : decode (mt 102).2.1 81 = .ok (.putfield 39, 3) := by decide +kernel
theorem s102_81r {ls : LV} {st : List AV} {m : MM} {n : Nat} {p : Option Nat} : go 102 81 ls (.inr (.inr (27, p)) :: .inr (.inr (8, some n)) :: st) m = go 102 84 ls st (sR m 8 n 10 p) := e_put (r := 8) (f := 10) d102_81 (by decide +kernel) (by simp [fc, tk, ek, ekL, fk, fkL]) (by decide +kernel)
theorem s102_81n {ls : LV} {st : List AV} {m : MM} {n w : Nat} : go 102 81 ls (.inr (.inr (w, none)) :: .inr (.inr (8, some n)) :: st) m = go 102 84 ls st (sR m 8 n 10 none) := e_put (r := 8) (f := 10) d102_81 (by decide +kernel) (by simp [fc, tk, ek, ekL, fk, fkL]) (by decide +kernel)
theorem d102_84 : decode (mt 102).2.1 84 = .ok (.aload_n 0, 1) := by decide +kernel
theorem s102_84 {st : List AV} {m : MM} {x : Nat × Option Nat} : go 102 84 [some (.inr (.inr x))] st m = go 102 85 [some (.inr (.inr x))] (.inr (.inr x) :: st) m := e_1 d102_84 (Or.inl rfl) rfl
theorem d102_85 : decode (mt 102).2.1 85 = .ok (.bipush 32, 2) := by decide +kernel
theorem s102_85 {ls : LV} {st : List AV} {m : MM} : go 102 85 ls st m = go 102 87 ls (.inl 32 :: st) m := e_1 d102_85 (Or.inl rfl) rfl
theorem d102_87 : decode (mt 102).2.1 87 = .ok (.newarray .int, 2) := by decide +kernel
theorem s102_87k1 {ls : LV} {st : List AV} {m : MM} : go 102 87 ls (.inl 1 :: st) m = go 102 89 ls (.inr (.inr (28, some (mC m 28))) :: st) (al m 28 1 1) := e_1 d102_87 (Or.inl rfl) (by rw [xi, pI, show lk naL 102 87 = some 28 by decide +kernel, Option.bind_some, if_pos ⟨by decide, by decide, by decide, by decide⟩]; rfl)
theorem s102_87k16 {ls : LV} {st : List AV} {m : MM} : go 102 87 ls (.inl 16 :: st) m = go 102 89 ls (.inr (.inr (28, some (mC m 28))) :: st) (al m 28 16 16) := e_1 d102_87 (Or.inl rfl) (by rw [xi, pI, show lk naL 102 87 = some 28 by decide +kernel, Option.bind_some, if_pos ⟨by decide, by decide, by decide, by decide⟩]; rfl)
theorem s102_87k32 {ls : LV} {st : List AV} {m : MM} : go 102 87 ls (.inl 32 :: st) m = go 102 89 ls (.inr (.inr (28, some (mC m 28))) :: st) (al m 28 32 32) := e_1 d102_87 (Or.inl rfl) (by rw [xi, pI, show lk naL 102 87 = some 28 by decide +kernel, Option.bind_some, if_pos ⟨by decide, by decide, by decide, by decide⟩]; rfl)
theorem s102_87k160 {ls : LV} {st : List AV} {m : MM} : go 102 87 ls (.inl 160 :: st) m = go 102 89 ls (.inr (.inr (28, some (mC m 28))) :: st) (al m 28 160 160) := e_1 d102_87 (Or.inl rfl) (by rw [xi, pI, show lk naL 102 87 = some 28 by decide +kernel, Option.bind_some, if_pos ⟨by decide, by decide, by decide, by decide⟩]; rfl)
theorem s102_87k288 {ls : LV} {st : List AV} {m : MM} : go 102 87 ls (.inl 288 :: st) m = go 102 89 ls (.inr (.inr (28, some (mC m 28))) :: st) (al m 28 288 288) := e_1 d102_87 (Or.inl rfl) (by rw [xi, pI, show lk naL 102 87 = some 28 by decide +kernel, Option.bind_some, if_pos ⟨by decide, by decide, by decide, by decide⟩]; rfl)
theorem s102_87k512 {ls : LV} {st : List AV} {m : MM} : go 102 87 ls (.inl 512 :: st) m = go 102 89 ls (.inr (.inr (28, some (mC m 28))) :: st) (al m 28 512 512) := e_1 d102_87 (Or.inl rfl) (by rw [xi, pI, show lk naL 102 87 = some 28 by decide +kernel, Option.bind_some, if_pos ⟨by decide, by decide, by decide, by decide⟩]; rfl)
theorem s102_87k600 {ls : LV} {st : List AV} {m : MM} : go 102 87 ls (.inl 600 :: st) m = go 102 89 ls (.inr (.inr (28, some (mC m 28))) :: st) (al m 28 600 600) := e_1 d102_87 (Or.inl rfl) (by rw [xi, pI, show lk naL 102 87 = some 28 by decide +kernel, Option.bind_some, if_pos ⟨by decide, by decide, by decide, by decide⟩]; rfl)
theorem s102_87k6400 {ls : LV} {st : List AV} {m : MM} : go 102 87 ls (.inl 6400 :: st) m = go 102 89 ls (.inr (.inr (28, some (mC m 28))) :: st) (al m 28 6400 6400) := e_1 d102_87 (Or.inl rfl) (by rw [xi, pI, show lk naL 102 87 = some 28 by decide +kernel, Option.bind_some, if_pos ⟨by decide, by decide, by decide, by decide⟩]; rfl)
theorem d102_89 : decode (mt 102).2.1 89 = .ok (.putfield 42, 3) := by decide +kernel
theorem s102_89r {ls : LV} {st : List AV} {m : MM} {n : Nat} {p : Option Nat} : go 102 89 ls (.inr (.inr (28, p)) :: .inr (.inr (8, some n)) :: st) m = go 102 92 ls st (sR m 8 n 11 p) := e_put (r := 8) (f := 11) d102_89 (by decide +kernel) (by simp [fc, tk, ek, ekL, fk, fkL]) (by decide +kernel)
theorem s102_89n {ls : LV} {st : List AV} {m : MM} {n w : Nat} : go 102 89 ls (.inr (.inr (w, none)) :: .inr (.inr (8, some n)) :: st) m = go 102 92 ls st (sR m 8 n 11 none) := e_put (r := 8) (f := 11) d102_89 (by decide +kernel) (by simp [fc, tk, ek, ekL, fk, fkL]) (by decide +kernel)
theorem d102_92 : decode (mt 102).2.1 92 = .ok (.aload_n 0, 1) := by decide +kernel
theorem s102_92 {st : List AV} {m : MM} {x : Nat × Option Nat} : go 102 92 [some (.inr (.inr x))] st m = go 102 93 [some (.inr (.inr x))] (.inr (.inr x) :: st) m := e_1 d102_92 (Or.inl rfl) rfl
theorem d102_93 : decode (mt 102).2.1 93 = .ok (.sipush 512, 3) := by decide +kernel
theorem s102_93 {ls : LV} {st : List AV} {m : MM} : go 102 93 ls st m = go 102 96 ls (.inl 512 :: st) m := e_1 d102_93 (Or.inl rfl) rfl
theorem d102_96 : decode (mt 102).2.1 96 = .ok (.newarray .int, 2) := by decide +kernel
theorem s102_96k1 {ls : LV} {st : List AV} {m : MM} : go 102 96 ls (.inl 1 :: st) m = go 102 98 ls (.inr (.inr (29, some (mC m 29))) :: st) (al m 29 1 1) := e_1 d102_96 (Or.inl rfl) (by rw [xi, pI, show lk naL 102 96 = some 29 by decide +kernel, Option.bind_some, if_pos ⟨by decide, by decide, by decide, by decide⟩]; rfl)
theorem s102_96k16 {ls : LV} {st : List AV} {m : MM} : go 102 96 ls (.inl 16 :: st) m = go 102 98 ls (.inr (.inr (29, some (mC m 29))) :: st) (al m 29 16 16) := e_1 d102_96 (Or.inl rfl) (by rw [xi, pI, show lk naL 102 96 = some 29 by decide +kernel, Option.bind_some, if_pos ⟨by decide, by decide, by decide, by decide⟩]; rfl)
theorem s102_96k32 {ls : LV} {st : List AV} {m : MM} : go 102 96 ls (.inl 32 :: st) m = go 102 98 ls (.inr (.inr (29, some (mC m 29))) :: st) (al m 29 32 32) := e_1 d102_96 (Or.inl rfl) (by rw [xi, pI, show lk naL 102 96 = some 29 by decide +kernel, Option.bind_some, if_pos ⟨by decide, by decide, by decide, by decide⟩]; rfl)
theorem s102_96k160 {ls : LV} {st : List AV} {m : MM} : go 102 96 ls (.inl 160 :: st) m = go 102 98 ls (.inr (.inr (29, some (mC m 29))) :: st) (al m 29 160 160) := e_1 d102_96 (Or.inl rfl) (by rw [xi, pI, show lk naL 102 96 = some 29 by decide +kernel, Option.bind_some, if_pos ⟨by decide, by decide, by decide, by decide⟩]; rfl)
theorem s102_96k288 {ls : LV} {st : List AV} {m : MM} : go 102 96 ls (.inl 288 :: st) m = go 102 98 ls (.inr (.inr (29, some (mC m 29))) :: st) (al m 29 288 288) := e_1 d102_96 (Or.inl rfl) (by rw [xi, pI, show lk naL 102 96 = some 29 by decide +kernel, Option.bind_some, if_pos ⟨by decide, by decide, by decide, by decide⟩]; rfl)
theorem s102_96k512 {ls : LV} {st : List AV} {m : MM} : go 102 96 ls (.inl 512 :: st) m = go 102 98 ls (.inr (.inr (29, some (mC m 29))) :: st) (al m 29 512 512) := e_1 d102_96 (Or.inl rfl) (by rw [xi, pI, show lk naL 102 96 = some 29 by decide +kernel, Option.bind_some, if_pos ⟨by decide, by decide, by decide, by decide⟩]; rfl)
theorem s102_96k600 {ls : LV} {st : List AV} {m : MM} : go 102 96 ls (.inl 600 :: st) m = go 102 98 ls (.inr (.inr (29, some (mC m 29))) :: st) (al m 29 600 600) := e_1 d102_96 (Or.inl rfl) (by rw [xi, pI, show lk naL 102 96 = some 29 by decide +kernel, Option.bind_some, if_pos ⟨by decide, by decide, by decide, by decide⟩]; rfl)
theorem s102_96k6400 {ls : LV} {st : List AV} {m : MM} : go 102 96 ls (.inl 6400 :: st) m = go 102 98 ls (.inr (.inr (29, some (mC m 29))) :: st) (al m 29 6400 6400) := e_1 d102_96 (Or.inl rfl) (by rw [xi, pI, show lk naL 102 96 = some 29 by decide +kernel, Option.bind_some, if_pos ⟨by decide, by decide, by decide, by decide⟩]; rfl)
theorem d102_98 : decode (mt 102).2.1 98 = .ok (.putfield 45, 3) := by decide +kernel
theorem s102_98r {ls : LV} {st : List AV} {m : MM} {n : Nat} {p : Option Nat} : go 102 98 ls (.inr (.inr (29, p)) :: .inr (.inr (8, some n)) :: st) m = go 102 101 ls st (sR m 8 n 12 p) := e_put (r := 8) (f := 12) d102_98 (by decide +kernel) (by simp [fc, tk, ek, ekL, fk, fkL]) (by decide +kernel)
theorem s102_98n {ls : LV} {st : List AV} {m : MM} {n w : Nat} : go 102 98 ls (.inr (.inr (w, none)) :: .inr (.inr (8, some n)) :: st) m = go 102 101 ls st (sR m 8 n 12 none) := e_put (r := 8) (f := 12) d102_98 (by decide +kernel) (by simp [fc, tk, ek, ekL, fk, fkL]) (by decide +kernel)
theorem d102_101 : decode (mt 102).2.1 101 = .ok (.aload_n 0, 1) := by decide +kernel
theorem s102_101 {st : List AV} {m : MM} {x : Nat × Option Nat} : go 102 101 [some (.inr (.inr x))] st m = go 102 102 [some (.inr (.inr x))] (.inr (.inr x) :: st) m := e_1 d102_101 (Or.inl rfl) rfl
theorem d102_102 : decode (mt 102).2.1 102 = .ok (.sipush 512, 3) := by decide +kernel
theorem s102_102 {ls : LV} {st : List AV} {m : MM} : go 102 102 ls st m = go 102 105 ls (.inl 512 :: st) m := e_1 d102_102 (Or.inl rfl) rfl
theorem d102_105 : decode (mt 102).2.1 105 = .ok (.newarray .long, 2) := by decide +kernel
theorem s102_105k1 {ls : LV} {st : List AV} {m : MM} : go 102 105 ls (.inl 1 :: st) m = go 102 107 ls (.inr (.inr (30, some (mC m 30))) :: st) (al m 30 1 1) := e_1 d102_105 (Or.inl rfl) (by rw [xi, pI, show lk naL 102 105 = some 30 by decide +kernel, Option.bind_some, if_pos ⟨by decide, by decide, by decide, by decide⟩]; rfl)
theorem s102_105k16 {ls : LV} {st : List AV} {m : MM} : go 102 105 ls (.inl 16 :: st) m = go 102 107 ls (.inr (.inr (30, some (mC m 30))) :: st) (al m 30 16 16) := e_1 d102_105 (Or.inl rfl) (by rw [xi, pI, show lk naL 102 105 = some 30 by decide +kernel, Option.bind_some, if_pos ⟨by decide, by decide, by decide, by decide⟩]; rfl)
theorem s102_105k32 {ls : LV} {st : List AV} {m : MM} : go 102 105 ls (.inl 32 :: st) m = go 102 107 ls (.inr (.inr (30, some (mC m 30))) :: st) (al m 30 32 32) := e_1 d102_105 (Or.inl rfl) (by rw [xi, pI, show lk naL 102 105 = some 30 by decide +kernel, Option.bind_some, if_pos ⟨by decide, by decide, by decide, by decide⟩]; rfl)
theorem s102_105k160 {ls : LV} {st : List AV} {m : MM} : go 102 105 ls (.inl 160 :: st) m = go 102 107 ls (.inr (.inr (30, some (mC m 30))) :: st) (al m 30 160 160) := e_1 d102_105 (Or.inl rfl) (by rw [xi, pI, show lk naL 102 105 = some 30 by decide +kernel, Option.bind_some, if_pos ⟨by decide, by decide, by decide, by decide⟩]; rfl)
theorem s102_105k288 {ls : LV} {st : List AV} {m : MM} : go 102 105 ls (.inl 288 :: st) m = go 102 107 ls (.inr (.inr (30, some (mC m 30))) :: st) (al m 30 288 288) := e_1 d102_105 (Or.inl rfl) (by rw [xi, pI, show lk naL 102 105 = some 30 by decide +kernel, Option.bind_some, if_pos ⟨by decide, by decide, by decide, by decide⟩]; rfl)
theorem s102_105k512 {ls : LV} {st : List AV} {m : MM} : go 102 105 ls (.inl 512 :: st) m = go 102 107 ls (.inr (.inr (30, some (mC m 30))) :: st) (al m 30 512 512) := e_1 d102_105 (Or.inl rfl) (by rw [xi, pI, show lk naL 102 105 = some 30 by decide +kernel, Option.bind_some, if_pos ⟨by decide, by decide, by decide, by decide⟩]; rfl)
theorem s102_105k600 {ls : LV} {st : List AV} {m : MM} : go 102 105 ls (.inl 600 :: st) m = go 102 107 ls (.inr (.inr (30, some (mC m 30))) :: st) (al m 30 600 600) := e_1 d102_105 (Or.inl rfl) (by rw [xi, pI, show lk naL 102 105 = some 30 by decide +kernel, Option.bind_some, if_pos ⟨by decide, by decide, by decide, by decide⟩]; rfl)
theorem s102_105k6400 {ls : LV} {st : List AV} {m : MM} : go 102 105 ls (.inl 6400 :: st) m = go 102 107 ls (.inr (.inr (30, some (mC m 30))) :: st) (al m 30 6400 6400) := e_1 d102_105 (Or.inl rfl) (by rw [xi, pI, show lk naL 102 105 = some 30 by decide +kernel, Option.bind_some, if_pos ⟨by decide, by decide, by decide, by decide⟩]; rfl)
theorem d102_107 : decode (mt 102).2.1 107 = .ok (.putfield 48, 3) := by decide +kernel
theorem s102_107r {ls : LV} {st : List AV} {m : MM} {n : Nat} {p : Option Nat} : go 102 107 ls (.inr (.inr (30, p)) :: .inr (.inr (8, some n)) :: st) m = go 102 110 ls st (sR m 8 n 13 p) := e_put (r := 8) (f := 13) d102_107 (by decide +kernel) (by simp [fc, tk, ek, ekL, fk, fkL]) (by decide +kernel)
theorem s102_107n {ls : LV} {st : List AV} {m : MM} {n w : Nat} : go 102 107 ls (.inr (.inr (w, none)) :: .inr (.inr (8, some n)) :: st) m = go 102 110 ls st (sR m 8 n 13 none) := e_put (r := 8) (f := 13) d102_107 (by decide +kernel) (by simp [fc, tk, ek, ekL, fk, fkL]) (by decide +kernel)
theorem d102_110 : decode (mt 102).2.1 110 = .ok (.aload_n 0, 1) := by decide +kernel
theorem s102_110 {st : List AV} {m : MM} {x : Nat × Option Nat} : go 102 110 [some (.inr (.inr x))] st m = go 102 111 [some (.inr (.inr x))] (.inr (.inr x) :: st) m := e_1 d102_110 (Or.inl rfl) rfl
theorem d102_111 : decode (mt 102).2.1 111 = .ok (.bipush 16, 2) := by decide +kernel
theorem s102_111 {ls : LV} {st : List AV} {m : MM} : go 102 111 ls st m = go 102 113 ls (.inl 16 :: st) m := e_1 d102_111 (Or.inl rfl) rfl
theorem d102_113 : decode (mt 102).2.1 113 = .ok (.newarray .int, 2) := by decide +kernel
theorem s102_113k1 {ls : LV} {st : List AV} {m : MM} : go 102 113 ls (.inl 1 :: st) m = go 102 115 ls (.inr (.inr (31, some (mC m 31))) :: st) (al m 31 1 1) := e_1 d102_113 (Or.inl rfl) (by rw [xi, pI, show lk naL 102 113 = some 31 by decide +kernel, Option.bind_some, if_pos ⟨by decide, by decide, by decide, by decide⟩]; rfl)
theorem s102_113k16 {ls : LV} {st : List AV} {m : MM} : go 102 113 ls (.inl 16 :: st) m = go 102 115 ls (.inr (.inr (31, some (mC m 31))) :: st) (al m 31 16 16) := e_1 d102_113 (Or.inl rfl) (by rw [xi, pI, show lk naL 102 113 = some 31 by decide +kernel, Option.bind_some, if_pos ⟨by decide, by decide, by decide, by decide⟩]; rfl)
theorem s102_113k32 {ls : LV} {st : List AV} {m : MM} : go 102 113 ls (.inl 32 :: st) m = go 102 115 ls (.inr (.inr (31, some (mC m 31))) :: st) (al m 31 32 32) := e_1 d102_113 (Or.inl rfl) (by rw [xi, pI, show lk naL 102 113 = some 31 by decide +kernel, Option.bind_some, if_pos ⟨by decide, by decide, by decide, by decide⟩]; rfl)
theorem s102_113k160 {ls : LV} {st : List AV} {m : MM} : go 102 113 ls (.inl 160 :: st) m = go 102 115 ls (.inr (.inr (31, some (mC m 31))) :: st) (al m 31 160 160) := e_1 d102_113 (Or.inl rfl) (by rw [xi, pI, show lk naL 102 113 = some 31 by decide +kernel, Option.bind_some, if_pos ⟨by decide, by decide, by decide, by decide⟩]; rfl)
theorem s102_113k288 {ls : LV} {st : List AV} {m : MM} : go 102 113 ls (.inl 288 :: st) m = go 102 115 ls (.inr (.inr (31, some (mC m 31))) :: st) (al m 31 288 288) := e_1 d102_113 (Or.inl rfl) (by rw [xi, pI, show lk naL 102 113 = some 31 by decide +kernel, Option.bind_some, if_pos ⟨by decide, by decide, by decide, by decide⟩]; rfl)
theorem s102_113k512 {ls : LV} {st : List AV} {m : MM} : go 102 113 ls (.inl 512 :: st) m = go 102 115 ls (.inr (.inr (31, some (mC m 31))) :: st) (al m 31 512 512) := e_1 d102_113 (Or.inl rfl) (by rw [xi, pI, show lk naL 102 113 = some 31 by decide +kernel, Option.bind_some, if_pos ⟨by decide, by decide, by decide, by decide⟩]; rfl)
theorem s102_113k600 {ls : LV} {st : List AV} {m : MM} : go 102 113 ls (.inl 600 :: st) m = go 102 115 ls (.inr (.inr (31, some (mC m 31))) :: st) (al m 31 600 600) := e_1 d102_113 (Or.inl rfl) (by rw [xi, pI, show lk naL 102 113 = some 31 by decide +kernel, Option.bind_some, if_pos ⟨by decide, by decide, by decide, by decide⟩]; rfl)
theorem s102_113k6400 {ls : LV} {st : List AV} {m : MM} : go 102 113 ls (.inl 6400 :: st) m = go 102 115 ls (.inr (.inr (31, some (mC m 31))) :: st) (al m 31 6400 6400) := e_1 d102_113 (Or.inl rfl) (by rw [xi, pI, show lk naL 102 113 = some 31 by decide +kernel, Option.bind_some, if_pos ⟨by decide, by decide, by decide, by decide⟩]; rfl)
theorem d102_115 : decode (mt 102).2.1 115 = .ok (.putfield 52, 3) := by decide +kernel
theorem s102_115r {ls : LV} {st : List AV} {m : MM} {n : Nat} {p : Option Nat} : go 102 115 ls (.inr (.inr (31, p)) :: .inr (.inr (8, some n)) :: st) m = go 102 118 ls st (sR m 8 n 15 p) := e_put (r := 8) (f := 15) d102_115 (by decide +kernel) (by simp [fc, tk, ek, ekL, fk, fkL]) (by decide +kernel)
theorem s102_115n {ls : LV} {st : List AV} {m : MM} {n w : Nat} : go 102 115 ls (.inr (.inr (w, none)) :: .inr (.inr (8, some n)) :: st) m = go 102 118 ls st (sR m 8 n 15 none) := e_put (r := 8) (f := 15) d102_115 (by decide +kernel) (by simp [fc, tk, ek, ekL, fk, fkL]) (by decide +kernel)
theorem d102_118 : decode (mt 102).2.1 118 = .ok (.aload_n 0, 1) := by decide +kernel
theorem s102_118 {st : List AV} {m : MM} {x : Nat × Option Nat} : go 102 118 [some (.inr (.inr x))] st m = go 102 119 [some (.inr (.inr x))] (.inr (.inr x) :: st) m := e_1 d102_118 (Or.inl rfl) rfl
theorem d102_119 : decode (mt 102).2.1 119 = .ok (.sipush 160, 3) := by decide +kernel
theorem s102_119 {ls : LV} {st : List AV} {m : MM} : go 102 119 ls st m = go 102 122 ls (.inl 160 :: st) m := e_1 d102_119 (Or.inl rfl) rfl
theorem d102_122 : decode (mt 102).2.1 122 = .ok (.newarray .int, 2) := by decide +kernel
theorem s102_122k1 {ls : LV} {st : List AV} {m : MM} : go 102 122 ls (.inl 1 :: st) m = go 102 124 ls (.inr (.inr (32, some (mC m 32))) :: st) (al m 32 1 1) := e_1 d102_122 (Or.inl rfl) (by rw [xi, pI, show lk naL 102 122 = some 32 by decide +kernel, Option.bind_some, if_pos ⟨by decide, by decide, by decide, by decide⟩]; rfl)
theorem s102_122k16 {ls : LV} {st : List AV} {m : MM} : go 102 122 ls (.inl 16 :: st) m = go 102 124 ls (.inr (.inr (32, some (mC m 32))) :: st) (al m 32 16 16) := e_1 d102_122 (Or.inl rfl) (by rw [xi, pI, show lk naL 102 122 = some 32 by decide +kernel, Option.bind_some, if_pos ⟨by decide, by decide, by decide, by decide⟩]; rfl)
theorem s102_122k32 {ls : LV} {st : List AV} {m : MM} : go 102 122 ls (.inl 32 :: st) m = go 102 124 ls (.inr (.inr (32, some (mC m 32))) :: st) (al m 32 32 32) := e_1 d102_122 (Or.inl rfl) (by rw [xi, pI, show lk naL 102 122 = some 32 by decide +kernel, Option.bind_some, if_pos ⟨by decide, by decide, by decide, by decide⟩]; rfl)
theorem s102_122k160 {ls : LV} {st : List AV} {m : MM} : go 102 122 ls (.inl 160 :: st) m = go 102 124 ls (.inr (.inr (32, some (mC m 32))) :: st) (al m 32 160 160) := e_1 d102_122 (Or.inl rfl) (by rw [xi, pI, show lk naL 102 122 = some 32 by decide +kernel, Option.bind_some, if_pos ⟨by decide, by decide, by decide, by decide⟩]; rfl)
theorem s102_122k288 {ls : LV} {st : List AV} {m : MM} : go 102 122 ls (.inl 288 :: st) m = go 102 124 ls (.inr (.inr (32, some (mC m 32))) :: st) (al m 32 288 288) := e_1 d102_122 (Or.inl rfl) (by rw [xi, pI, show lk naL 102 122 = some 32 by decide +kernel, Option.bind_some, if_pos ⟨by decide, by decide, by decide, by decide⟩]; rfl)
theorem s102_122k512 {ls : LV} {st : List AV} {m : MM} : go 102 122 ls (.inl 512 :: st) m = go 102 124 ls (.inr (.inr (32, some (mC m 32))) :: st) (al m 32 512 512) := e_1 d102_122 (Or.inl rfl) (by rw [xi, pI, show lk naL 102 122 = some 32 by decide +kernel, Option.bind_some, if_pos ⟨by decide, by decide, by decide, by decide⟩]; rfl)
theorem s102_122k600 {ls : LV} {st : List AV} {m : MM} : go 102 122 ls (.inl 600 :: st) m = go 102 124 ls (.inr (.inr (32, some (mC m 32))) :: st) (al m 32 600 600) := e_1 d102_122 (Or.inl rfl) (by rw [xi, pI, show lk naL 102 122 = some 32 by decide +kernel, Option.bind_some, if_pos ⟨by decide, by decide, by decide, by decide⟩]; rfl)
theorem s102_122k6400 {ls : LV} {st : List AV} {m : MM} : go 102 122 ls (.inl 6400 :: st) m = go 102 124 ls (.inr (.inr (32, some (mC m 32))) :: st) (al m 32 6400 6400) := e_1 d102_122 (Or.inl rfl) (by rw [xi, pI, show lk naL 102 122 = some 32 by decide +kernel, Option.bind_some, if_pos ⟨by decide, by decide, by decide, by decide⟩]; rfl)
theorem d102_124 : decode (mt 102).2.1 124 = .ok (.putfield 55, 3) := by decide +kernel
theorem s102_124r {ls : LV} {st : List AV} {m : MM} {n : Nat} {p : Option Nat} : go 102 124 ls (.inr (.inr (32, p)) :: .inr (.inr (8, some n)) :: st) m = go 102 127 ls st (sR m 8 n 19 p) := e_put (r := 8) (f := 19) d102_124 (by decide +kernel) (by simp [fc, tk, ek, ekL, fk, fkL]) (by decide +kernel)
theorem s102_124n {ls : LV} {st : List AV} {m : MM} {n w : Nat} : go 102 124 ls (.inr (.inr (w, none)) :: .inr (.inr (8, some n)) :: st) m = go 102 127 ls st (sR m 8 n 19 none) := e_put (r := 8) (f := 19) d102_124 (by decide +kernel) (by simp [fc, tk, ek, ekL, fk, fkL]) (by decide +kernel)
theorem d102_127 : decode (mt 102).2.1 127 = .ok (.aload_n 0, 1) := by decide +kernel
theorem s102_127 {st : List AV} {m : MM} {x : Nat × Option Nat} : go 102 127 [some (.inr (.inr x))] st m = go 102 128 [some (.inr (.inr x))] (.inr (.inr x) :: st) m := e_1 d102_127 (Or.inl rfl) rfl
theorem d102_128 : decode (mt 102).2.1 128 = .ok (.sipush 160, 3) := by decide +kernel
theorem s102_128 {ls : LV} {st : List AV} {m : MM} : go 102 128 ls st m = go 102 131 ls (.inl 160 :: st) m := e_1 d102_128 (Or.inl rfl) rfl
theorem d102_131 : decode (mt 102).2.1 131 = .ok (.newarray .boolean, 2) := by decide +kernel
theorem s102_131k1 {ls : LV} {st : List AV} {m : MM} : go 102 131 ls (.inl 1 :: st) m = go 102 133 ls (.inr (.inr (33, some (mC m 33))) :: st) (al m 33 1 1) := e_1 d102_131 (Or.inl rfl) (by rw [xi, pI, show lk naL 102 131 = some 33 by decide +kernel, Option.bind_some, if_pos ⟨by decide, by decide, by decide, by decide⟩]; rfl)
theorem s102_131k16 {ls : LV} {st : List AV} {m : MM} : go 102 131 ls (.inl 16 :: st) m = go 102 133 ls (.inr (.inr (33, some (mC m 33))) :: st) (al m 33 16 16) := e_1 d102_131 (Or.inl rfl) (by rw [xi, pI, show lk naL 102 131 = some 33 by decide +kernel, Option.bind_some, if_pos ⟨by decide, by decide, by decide, by decide⟩]; rfl)
theorem s102_131k32 {ls : LV} {st : List AV} {m : MM} : go 102 131 ls (.inl 32 :: st) m = go 102 133 ls (.inr (.inr (33, some (mC m 33))) :: st) (al m 33 32 32) := e_1 d102_131 (Or.inl rfl) (by rw [xi, pI, show lk naL 102 131 = some 33 by decide +kernel, Option.bind_some, if_pos ⟨by decide, by decide, by decide, by decide⟩]; rfl)
theorem s102_131k160 {ls : LV} {st : List AV} {m : MM} : go 102 131 ls (.inl 160 :: st) m = go 102 133 ls (.inr (.inr (33, some (mC m 33))) :: st) (al m 33 160 160) := e_1 d102_131 (Or.inl rfl) (by rw [xi, pI, show lk naL 102 131 = some 33 by decide +kernel, Option.bind_some, if_pos ⟨by decide, by decide, by decide, by decide⟩]; rfl)
theorem s102_131k288 {ls : LV} {st : List AV} {m : MM} : go 102 131 ls (.inl 288 :: st) m = go 102 133 ls (.inr (.inr (33, some (mC m 33))) :: st) (al m 33 288 288) := e_1 d102_131 (Or.inl rfl) (by rw [xi, pI, show lk naL 102 131 = some 33 by decide +kernel, Option.bind_some, if_pos ⟨by decide, by decide, by decide, by decide⟩]; rfl)
theorem s102_131k512 {ls : LV} {st : List AV} {m : MM} : go 102 131 ls (.inl 512 :: st) m = go 102 133 ls (.inr (.inr (33, some (mC m 33))) :: st) (al m 33 512 512) := e_1 d102_131 (Or.inl rfl) (by rw [xi, pI, show lk naL 102 131 = some 33 by decide +kernel, Option.bind_some, if_pos ⟨by decide, by decide, by decide, by decide⟩]; rfl)
theorem s102_131k600 {ls : LV} {st : List AV} {m : MM} : go 102 131 ls (.inl 600 :: st) m = go 102 133 ls (.inr (.inr (33, some (mC m 33))) :: st) (al m 33 600 600) := e_1 d102_131 (Or.inl rfl) (by rw [xi, pI, show lk naL 102 131 = some 33 by decide +kernel, Option.bind_some, if_pos ⟨by decide, by decide, by decide, by decide⟩]; rfl)
theorem s102_131k6400 {ls : LV} {st : List AV} {m : MM} : go 102 131 ls (.inl 6400 :: st) m = go 102 133 ls (.inr (.inr (33, some (mC m 33))) :: st) (al m 33 6400 6400) := e_1 d102_131 (Or.inl rfl) (by rw [xi, pI, show lk naL 102 131 = some 33 by decide +kernel, Option.bind_some, if_pos ⟨by decide, by decide, by decide, by decide⟩]; rfl)
theorem d102_133 : decode (mt 102).2.1 133 = .ok (.putfield 58, 3) := by decide +kernel
theorem s102_133r {ls : LV} {st : List AV} {m : MM} {n : Nat} {p : Option Nat} : go 102 133 ls (.inr (.inr (33, p)) :: .inr (.inr (8, some n)) :: st) m = go 102 136 ls st (sR m 8 n 20 p) := e_put (r := 8) (f := 20) d102_133 (by decide +kernel) (by simp [fc, tk, ek, ekL, fk, fkL]) (by decide +kernel)
theorem s102_133n {ls : LV} {st : List AV} {m : MM} {n w : Nat} : go 102 133 ls (.inr (.inr (w, none)) :: .inr (.inr (8, some n)) :: st) m = go 102 136 ls st (sR m 8 n 20 none) := e_put (r := 8) (f := 20) d102_133 (by decide +kernel) (by simp [fc, tk, ek, ekL, fk, fkL]) (by decide +kernel)
theorem d102_136 : decode (mt 102).2.1 136 = .ok (.aload_n 0, 1) := by decide +kernel
theorem s102_136 {st : List AV} {m : MM} {x : Nat × Option Nat} : go 102 136 [some (.inr (.inr x))] st m = go 102 137 [some (.inr (.inr x))] (.inr (.inr x) :: st) m := e_1 d102_136 (Or.inl rfl) rfl
theorem d102_137 : decode (mt 102).2.1 137 = .ok (.sipush 160, 3) := by decide +kernel
theorem s102_137 {ls : LV} {st : List AV} {m : MM} : go 102 137 ls st m = go 102 140 ls (.inl 160 :: st) m := e_1 d102_137 (Or.inl rfl) rfl
theorem d102_140 : decode (mt 102).2.1 140 = .ok (.newarray .int, 2) := by decide +kernel
theorem s102_140k1 {ls : LV} {st : List AV} {m : MM} : go 102 140 ls (.inl 1 :: st) m = go 102 142 ls (.inr (.inr (34, some (mC m 34))) :: st) (al m 34 1 1) := e_1 d102_140 (Or.inl rfl) (by rw [xi, pI, show lk naL 102 140 = some 34 by decide +kernel, Option.bind_some, if_pos ⟨by decide, by decide, by decide, by decide⟩]; rfl)
theorem s102_140k16 {ls : LV} {st : List AV} {m : MM} : go 102 140 ls (.inl 16 :: st) m = go 102 142 ls (.inr (.inr (34, some (mC m 34))) :: st) (al m 34 16 16) := e_1 d102_140 (Or.inl rfl) (by rw [xi, pI, show lk naL 102 140 = some 34 by decide +kernel, Option.bind_some, if_pos ⟨by decide, by decide, by decide, by decide⟩]; rfl)
theorem s102_140k32 {ls : LV} {st : List AV} {m : MM} : go 102 140 ls (.inl 32 :: st) m = go 102 142 ls (.inr (.inr (34, some (mC m 34))) :: st) (al m 34 32 32) := e_1 d102_140 (Or.inl rfl) (by rw [xi, pI, show lk naL 102 140 = some 34 by decide +kernel, Option.bind_some, if_pos ⟨by decide, by decide, by decide, by decide⟩]; rfl)
theorem s102_140k160 {ls : LV} {st : List AV} {m : MM} : go 102 140 ls (.inl 160 :: st) m = go 102 142 ls (.inr (.inr (34, some (mC m 34))) :: st) (al m 34 160 160) := e_1 d102_140 (Or.inl rfl) (by rw [xi, pI, show lk naL 102 140 = some 34 by decide +kernel, Option.bind_some, if_pos ⟨by decide, by decide, by decide, by decide⟩]; rfl)
theorem s102_140k288 {ls : LV} {st : List AV} {m : MM} : go 102 140 ls (.inl 288 :: st) m = go 102 142 ls (.inr (.inr (34, some (mC m 34))) :: st) (al m 34 288 288) := e_1 d102_140 (Or.inl rfl) (by rw [xi, pI, show lk naL 102 140 = some 34 by decide +kernel, Option.bind_some, if_pos ⟨by decide, by decide, by decide, by decide⟩]; rfl)
theorem s102_140k512 {ls : LV} {st : List AV} {m : MM} : go 102 140 ls (.inl 512 :: st) m = go 102 142 ls (.inr (.inr (34, some (mC m 34))) :: st) (al m 34 512 512) := e_1 d102_140 (Or.inl rfl) (by rw [xi, pI, show lk naL 102 140 = some 34 by decide +kernel, Option.bind_some, if_pos ⟨by decide, by decide, by decide, by decide⟩]; rfl)
theorem s102_140k600 {ls : LV} {st : List AV} {m : MM} : go 102 140 ls (.inl 600 :: st) m = go 102 142 ls (.inr (.inr (34, some (mC m 34))) :: st) (al m 34 600 600) := e_1 d102_140 (Or.inl rfl) (by rw [xi, pI, show lk naL 102 140 = some 34 by decide +kernel, Option.bind_some, if_pos ⟨by decide, by decide, by decide, by decide⟩]; rfl)
theorem s102_140k6400 {ls : LV} {st : List AV} {m : MM} : go 102 140 ls (.inl 6400 :: st) m = go 102 142 ls (.inr (.inr (34, some (mC m 34))) :: st) (al m 34 6400 6400) := e_1 d102_140 (Or.inl rfl) (by rw [xi, pI, show lk naL 102 140 = some 34 by decide +kernel, Option.bind_some, if_pos ⟨by decide, by decide, by decide, by decide⟩]; rfl)
theorem d102_142 : decode (mt 102).2.1 142 = .ok (.putfield 61, 3) := by decide +kernel
theorem s102_142r {ls : LV} {st : List AV} {m : MM} {n : Nat} {p : Option Nat} : go 102 142 ls (.inr (.inr (34, p)) :: .inr (.inr (8, some n)) :: st) m = go 102 145 ls st (sR m 8 n 21 p) := e_put (r := 8) (f := 21) d102_142 (by decide +kernel) (by simp [fc, tk, ek, ekL, fk, fkL]) (by decide +kernel)
theorem s102_142n {ls : LV} {st : List AV} {m : MM} {n w : Nat} : go 102 142 ls (.inr (.inr (w, none)) :: .inr (.inr (8, some n)) :: st) m = go 102 145 ls st (sR m 8 n 21 none) := e_put (r := 8) (f := 21) d102_142 (by decide +kernel) (by simp [fc, tk, ek, ekL, fk, fkL]) (by decide +kernel)
theorem d102_145 : decode (mt 102).2.1 145 = .ok (.aload_n 0, 1) := by decide +kernel
theorem s102_145 {st : List AV} {m : MM} {x : Nat × Option Nat} : go 102 145 [some (.inr (.inr x))] st m = go 102 146 [some (.inr (.inr x))] (.inr (.inr x) :: st) m := e_1 d102_145 (Or.inl rfl) rfl
theorem d102_146 : decode (mt 102).2.1 146 = .ok (.sipush 160, 3) := by decide +kernel
theorem s102_146 {ls : LV} {st : List AV} {m : MM} : go 102 146 ls st m = go 102 149 ls (.inl 160 :: st) m := e_1 d102_146 (Or.inl rfl) rfl
theorem d102_149 : decode (mt 102).2.1 149 = .ok (.newarray .int, 2) := by decide +kernel
theorem s102_149k1 {ls : LV} {st : List AV} {m : MM} : go 102 149 ls (.inl 1 :: st) m = go 102 151 ls (.inr (.inr (35, some (mC m 35))) :: st) (al m 35 1 1) := e_1 d102_149 (Or.inl rfl) (by rw [xi, pI, show lk naL 102 149 = some 35 by decide +kernel, Option.bind_some, if_pos ⟨by decide, by decide, by decide, by decide⟩]; rfl)
theorem s102_149k16 {ls : LV} {st : List AV} {m : MM} : go 102 149 ls (.inl 16 :: st) m = go 102 151 ls (.inr (.inr (35, some (mC m 35))) :: st) (al m 35 16 16) := e_1 d102_149 (Or.inl rfl) (by rw [xi, pI, show lk naL 102 149 = some 35 by decide +kernel, Option.bind_some, if_pos ⟨by decide, by decide, by decide, by decide⟩]; rfl)
theorem s102_149k32 {ls : LV} {st : List AV} {m : MM} : go 102 149 ls (.inl 32 :: st) m = go 102 151 ls (.inr (.inr (35, some (mC m 35))) :: st) (al m 35 32 32) := e_1 d102_149 (Or.inl rfl) (by rw [xi, pI, show lk naL 102 149 = some 35 by decide +kernel, Option.bind_some, if_pos ⟨by decide, by decide, by decide, by decide⟩]; rfl)
theorem s102_149k160 {ls : LV} {st : List AV} {m : MM} : go 102 149 ls (.inl 160 :: st) m = go 102 151 ls (.inr (.inr (35, some (mC m 35))) :: st) (al m 35 160 160) := e_1 d102_149 (Or.inl rfl) (by rw [xi, pI, show lk naL 102 149 = some 35 by decide +kernel, Option.bind_some, if_pos ⟨by decide, by decide, by decide, by decide⟩]; rfl)
theorem s102_149k288 {ls : LV} {st : List AV} {m : MM} : go 102 149 ls (.inl 288 :: st) m = go 102 151 ls (.inr (.inr (35, some (mC m 35))) :: st) (al m 35 288 288) := e_1 d102_149 (Or.inl rfl) (by rw [xi, pI, show lk naL 102 149 = some 35 by decide +kernel, Option.bind_some, if_pos ⟨by decide, by decide, by decide, by decide⟩]; rfl)
theorem s102_149k512 {ls : LV} {st : List AV} {m : MM} : go 102 149 ls (.inl 512 :: st) m = go 102 151 ls (.inr (.inr (35, some (mC m 35))) :: st) (al m 35 512 512) := e_1 d102_149 (Or.inl rfl) (by rw [xi, pI, show lk naL 102 149 = some 35 by decide +kernel, Option.bind_some, if_pos ⟨by decide, by decide, by decide, by decide⟩]; rfl)
theorem s102_149k600 {ls : LV} {st : List AV} {m : MM} : go 102 149 ls (.inl 600 :: st) m = go 102 151 ls (.inr (.inr (35, some (mC m 35))) :: st) (al m 35 600 600) := e_1 d102_149 (Or.inl rfl) (by rw [xi, pI, show lk naL 102 149 = some 35 by decide +kernel, Option.bind_some, if_pos ⟨by decide, by decide, by decide, by decide⟩]; rfl)
theorem s102_149k6400 {ls : LV} {st : List AV} {m : MM} : go 102 149 ls (.inl 6400 :: st) m = go 102 151 ls (.inr (.inr (35, some (mC m 35))) :: st) (al m 35 6400 6400) := e_1 d102_149 (Or.inl rfl) (by rw [xi, pI, show lk naL 102 149 = some 35 by decide +kernel, Option.bind_some, if_pos ⟨by decide, by decide, by decide, by decide⟩]; rfl)
theorem d102_151 : decode (mt 102).2.1 151 = .ok (.putfield 64, 3) := by decide +kernel
theorem s102_151r {ls : LV} {st : List AV} {m : MM} {n : Nat} {p : Option Nat} : go 102 151 ls (.inr (.inr (35, p)) :: .inr (.inr (8, some n)) :: st) m = go 102 154 ls st (sR m 8 n 22 p) := e_put (r := 8) (f := 22) d102_151 (by decide +kernel) (by simp [fc, tk, ek, ekL, fk, fkL]) (by decide +kernel)
theorem s102_151n {ls : LV} {st : List AV} {m : MM} {n w : Nat} : go 102 151 ls (.inr (.inr (w, none)) :: .inr (.inr (8, some n)) :: st) m = go 102 154 ls st (sR m 8 n 22 none) := e_put (r := 8) (f := 22) d102_151 (by decide +kernel) (by simp [fc, tk, ek, ekL, fk, fkL]) (by decide +kernel)
theorem d102_154 : decode (mt 102).2.1 154 = .ok (.aload_n 0, 1) := by decide +kernel
theorem s102_154 {st : List AV} {m : MM} {x : Nat × Option Nat} : go 102 154 [some (.inr (.inr x))] st m = go 102 155 [some (.inr (.inr x))] (.inr (.inr x) :: st) m := e_1 d102_154 (Or.inl rfl) rfl
theorem d102_155 : decode (mt 102).2.1 155 = .ok (.sipush 6400, 3) := by decide +kernel
theorem s102_155 {ls : LV} {st : List AV} {m : MM} : go 102 155 ls st m = go 102 158 ls (.inl 6400 :: st) m := e_1 d102_155 (Or.inl rfl) rfl
theorem d102_158 : decode (mt 102).2.1 158 = .ok (.newarray .int, 2) := by decide +kernel
theorem s102_158k1 {ls : LV} {st : List AV} {m : MM} : go 102 158 ls (.inl 1 :: st) m = go 102 160 ls (.inr (.inr (36, some (mC m 36))) :: st) (al m 36 1 1) := e_1 d102_158 (Or.inl rfl) (by rw [xi, pI, show lk naL 102 158 = some 36 by decide +kernel, Option.bind_some, if_pos ⟨by decide, by decide, by decide, by decide⟩]; rfl)
theorem s102_158k16 {ls : LV} {st : List AV} {m : MM} : go 102 158 ls (.inl 16 :: st) m = go 102 160 ls (.inr (.inr (36, some (mC m 36))) :: st) (al m 36 16 16) := e_1 d102_158 (Or.inl rfl) (by rw [xi, pI, show lk naL 102 158 = some 36 by decide +kernel, Option.bind_some, if_pos ⟨by decide, by decide, by decide, by decide⟩]; rfl)
theorem s102_158k32 {ls : LV} {st : List AV} {m : MM} : go 102 158 ls (.inl 32 :: st) m = go 102 160 ls (.inr (.inr (36, some (mC m 36))) :: st) (al m 36 32 32) := e_1 d102_158 (Or.inl rfl) (by rw [xi, pI, show lk naL 102 158 = some 36 by decide +kernel, Option.bind_some, if_pos ⟨by decide, by decide, by decide, by decide⟩]; rfl)
theorem s102_158k160 {ls : LV} {st : List AV} {m : MM} : go 102 158 ls (.inl 160 :: st) m = go 102 160 ls (.inr (.inr (36, some (mC m 36))) :: st) (al m 36 160 160) := e_1 d102_158 (Or.inl rfl) (by rw [xi, pI, show lk naL 102 158 = some 36 by decide +kernel, Option.bind_some, if_pos ⟨by decide, by decide, by decide, by decide⟩]; rfl)
theorem s102_158k288 {ls : LV} {st : List AV} {m : MM} : go 102 158 ls (.inl 288 :: st) m = go 102 160 ls (.inr (.inr (36, some (mC m 36))) :: st) (al m 36 288 288) := e_1 d102_158 (Or.inl rfl) (by rw [xi, pI, show lk naL 102 158 = some 36 by decide +kernel, Option.bind_some, if_pos ⟨by decide, by decide, by decide, by decide⟩]; rfl)
theorem s102_158k512 {ls : LV} {st : List AV} {m : MM} : go 102 158 ls (.inl 512 :: st) m = go 102 160 ls (.inr (.inr (36, some (mC m 36))) :: st) (al m 36 512 512) := e_1 d102_158 (Or.inl rfl) (by rw [xi, pI, show lk naL 102 158 = some 36 by decide +kernel, Option.bind_some, if_pos ⟨by decide, by decide, by decide, by decide⟩]; rfl)
theorem s102_158k600 {ls : LV} {st : List AV} {m : MM} : go 102 158 ls (.inl 600 :: st) m = go 102 160 ls (.inr (.inr (36, some (mC m 36))) :: st) (al m 36 600 600) := e_1 d102_158 (Or.inl rfl) (by rw [xi, pI, show lk naL 102 158 = some 36 by decide +kernel, Option.bind_some, if_pos ⟨by decide, by decide, by decide, by decide⟩]; rfl)
theorem s102_158k6400 {ls : LV} {st : List AV} {m : MM} : go 102 158 ls (.inl 6400 :: st) m = go 102 160 ls (.inr (.inr (36, some (mC m 36))) :: st) (al m 36 6400 6400) := e_1 d102_158 (Or.inl rfl) (by rw [xi, pI, show lk naL 102 158 = some 36 by decide +kernel, Option.bind_some, if_pos ⟨by decide, by decide, by decide, by decide⟩]; rfl)
theorem d102_160 : decode (mt 102).2.1 160 = .ok (.putfield 67, 3) := by decide +kernel
theorem s102_160r {ls : LV} {st : List AV} {m : MM} {n : Nat} {p : Option Nat} : go 102 160 ls (.inr (.inr (36, p)) :: .inr (.inr (8, some n)) :: st) m = go 102 163 ls st (sR m 8 n 23 p) := e_put (r := 8) (f := 23) d102_160 (by decide +kernel) (by simp [fc, tk, ek, ekL, fk, fkL]) (by decide +kernel)
theorem s102_160n {ls : LV} {st : List AV} {m : MM} {n w : Nat} : go 102 160 ls (.inr (.inr (w, none)) :: .inr (.inr (8, some n)) :: st) m = go 102 163 ls st (sR m 8 n 23 none) := e_put (r := 8) (f := 23) d102_160 (by decide +kernel) (by simp [fc, tk, ek, ekL, fk, fkL]) (by decide +kernel)
theorem d102_163 : decode (mt 102).2.1 163 = .ok (.aload_n 0, 1) := by decide +kernel
theorem s102_163 {st : List AV} {m : MM} {x : Nat × Option Nat} : go 102 163 [some (.inr (.inr x))] st m = go 102 164 [some (.inr (.inr x))] (.inr (.inr x) :: st) m := e_1 d102_163 (Or.inl rfl) rfl
theorem d102_164 : decode (mt 102).2.1 164 = .ok (.sipush 6400, 3) := by decide +kernel
theorem s102_164 {ls : LV} {st : List AV} {m : MM} : go 102 164 ls st m = go 102 167 ls (.inl 6400 :: st) m := e_1 d102_164 (Or.inl rfl) rfl
theorem d102_167 : decode (mt 102).2.1 167 = .ok (.newarray .int, 2) := by decide +kernel
theorem s102_167k1 {ls : LV} {st : List AV} {m : MM} : go 102 167 ls (.inl 1 :: st) m = go 102 169 ls (.inr (.inr (37, some (mC m 37))) :: st) (al m 37 1 1) := e_1 d102_167 (Or.inl rfl) (by rw [xi, pI, show lk naL 102 167 = some 37 by decide +kernel, Option.bind_some, if_pos ⟨by decide, by decide, by decide, by decide⟩]; rfl)
theorem s102_167k16 {ls : LV} {st : List AV} {m : MM} : go 102 167 ls (.inl 16 :: st) m = go 102 169 ls (.inr (.inr (37, some (mC m 37))) :: st) (al m 37 16 16) := e_1 d102_167 (Or.inl rfl) (by rw [xi, pI, show lk naL 102 167 = some 37 by decide +kernel, Option.bind_some, if_pos ⟨by decide, by decide, by decide, by decide⟩]; rfl)
theorem s102_167k32 {ls : LV} {st : List AV} {m : MM} : go 102 167 ls (.inl 32 :: st) m = go 102 169 ls (.inr (.inr (37, some (mC m 37))) :: st) (al m 37 32 32) := e_1 d102_167 (Or.inl rfl) (by rw [xi, pI, show lk naL 102 167 = some 37 by decide +kernel, Option.bind_some, if_pos ⟨by decide, by decide, by decide, by decide⟩]; rfl)
theorem s102_167k160 {ls : LV} {st : List AV} {m : MM} : go 102 167 ls (.inl 160 :: st) m = go 102 169 ls (.inr (.inr (37, some (mC m 37))) :: st) (al m 37 160 160) := e_1 d102_167 (Or.inl rfl) (by rw [xi, pI, show lk naL 102 167 = some 37 by decide +kernel, Option.bind_some, if_pos ⟨by decide, by decide, by decide, by decide⟩]; rfl)
theorem s102_167k288 {ls : LV} {st : List AV} {m : MM} : go 102 167 ls (.inl 288 :: st) m = go 102 169 ls (.inr (.inr (37, some (mC m 37))) :: st) (al m 37 288 288) := e_1 d102_167 (Or.inl rfl) (by rw [xi, pI, show lk naL 102 167 = some 37 by decide +kernel, Option.bind_some, if_pos ⟨by decide, by decide, by decide, by decide⟩]; rfl)
theorem s102_167k512 {ls : LV} {st : List AV} {m : MM} : go 102 167 ls (.inl 512 :: st) m = go 102 169 ls (.inr (.inr (37, some (mC m 37))) :: st) (al m 37 512 512) := e_1 d102_167 (Or.inl rfl) (by rw [xi, pI, show lk naL 102 167 = some 37 by decide +kernel, Option.bind_some, if_pos ⟨by decide, by decide, by decide, by decide⟩]; rfl)
theorem s102_167k600 {ls : LV} {st : List AV} {m : MM} : go 102 167 ls (.inl 600 :: st) m = go 102 169 ls (.inr (.inr (37, some (mC m 37))) :: st) (al m 37 600 600) := e_1 d102_167 (Or.inl rfl) (by rw [xi, pI, show lk naL 102 167 = some 37 by decide +kernel, Option.bind_some, if_pos ⟨by decide, by decide, by decide, by decide⟩]; rfl)
theorem s102_167k6400 {ls : LV} {st : List AV} {m : MM} : go 102 167 ls (.inl 6400 :: st) m = go 102 169 ls (.inr (.inr (37, some (mC m 37))) :: st) (al m 37 6400 6400) := e_1 d102_167 (Or.inl rfl) (by rw [xi, pI, show lk naL 102 167 = some 37 by decide +kernel, Option.bind_some, if_pos ⟨by decide, by decide, by decide, by decide⟩]; rfl)
theorem d102_169 : decode (mt 102).2.1 169 = .ok (.putfield 70, 3) := by decide +kernel
theorem s102_169r {ls : LV} {st : List AV} {m : MM} {n : Nat} {p : Option Nat} : go 102 169 ls (.inr (.inr (37, p)) :: .inr (.inr (8, some n)) :: st) m = go 102 172 ls st (sR m 8 n 24 p) := e_put (r := 8) (f := 24) d102_169 (by decide +kernel) (by simp [fc, tk, ek, ekL, fk, fkL]) (by decide +kernel)
theorem s102_169n {ls : LV} {st : List AV} {m : MM} {n w : Nat} : go 102 169 ls (.inr (.inr (w, none)) :: .inr (.inr (8, some n)) :: st) m = go 102 172 ls st (sR m 8 n 24 none) := e_put (r := 8) (f := 24) d102_169 (by decide +kernel) (by simp [fc, tk, ek, ekL, fk, fkL]) (by decide +kernel)
theorem d102_172 : decode (mt 102).2.1 172 = .ok (.aload_n 0, 1) := by decide +kernel
theorem s102_172 {st : List AV} {m : MM} {x : Nat × Option Nat} : go 102 172 [some (.inr (.inr x))] st m = go 102 173 [some (.inr (.inr x))] (.inr (.inr x) :: st) m := e_1 d102_172 (Or.inl rfl) rfl
theorem d102_173 : decode (mt 102).2.1 173 = .ok (.sipush 160, 3) := by decide +kernel
theorem s102_173 {ls : LV} {st : List AV} {m : MM} : go 102 173 ls st m = go 102 176 ls (.inl 160 :: st) m := e_1 d102_173 (Or.inl rfl) rfl
theorem d102_176 : decode (mt 102).2.1 176 = .ok (.newarray .int, 2) := by decide +kernel
theorem s102_176k1 {ls : LV} {st : List AV} {m : MM} : go 102 176 ls (.inl 1 :: st) m = go 102 178 ls (.inr (.inr (38, some (mC m 38))) :: st) (al m 38 1 1) := e_1 d102_176 (Or.inl rfl) (by rw [xi, pI, show lk naL 102 176 = some 38 by decide +kernel, Option.bind_some, if_pos ⟨by decide, by decide, by decide, by decide⟩]; rfl)
theorem s102_176k16 {ls : LV} {st : List AV} {m : MM} : go 102 176 ls (.inl 16 :: st) m = go 102 178 ls (.inr (.inr (38, some (mC m 38))) :: st) (al m 38 16 16) := e_1 d102_176 (Or.inl rfl) (by rw [xi, pI, show lk naL 102 176 = some 38 by decide +kernel, Option.bind_some, if_pos ⟨by decide, by decide, by decide, by decide⟩]; rfl)
theorem s102_176k32 {ls : LV} {st : List AV} {m : MM} : go 102 176 ls (.inl 32 :: st) m = go 102 178 ls (.inr (.inr (38, some (mC m 38))) :: st) (al m 38 32 32) := e_1 d102_176 (Or.inl rfl) (by rw [xi, pI, show lk naL 102 176 = some 38 by decide +kernel, Option.bind_some, if_pos ⟨by decide, by decide, by decide, by decide⟩]; rfl)
theorem s102_176k160 {ls : LV} {st : List AV} {m : MM} : go 102 176 ls (.inl 160 :: st) m = go 102 178 ls (.inr (.inr (38, some (mC m 38))) :: st) (al m 38 160 160) := e_1 d102_176 (Or.inl rfl) (by rw [xi, pI, show lk naL 102 176 = some 38 by decide +kernel, Option.bind_some, if_pos ⟨by decide, by decide, by decide, by decide⟩]; rfl)
theorem s102_176k288 {ls : LV} {st : List AV} {m : MM} : go 102 176 ls (.inl 288 :: st) m = go 102 178 ls (.inr (.inr (38, some (mC m 38))) :: st) (al m 38 288 288) := e_1 d102_176 (Or.inl rfl) (by rw [xi, pI, show lk naL 102 176 = some 38 by decide +kernel, Option.bind_some, if_pos ⟨by decide, by decide, by decide, by decide⟩]; rfl)
theorem s102_176k512 {ls : LV} {st : List AV} {m : MM} : go 102 176 ls (.inl 512 :: st) m = go 102 178 ls (.inr (.inr (38, some (mC m 38))) :: st) (al m 38 512 512) := e_1 d102_176 (Or.inl rfl) (by rw [xi, pI, show lk naL 102 176 = some 38 by decide +kernel, Option.bind_some, if_pos ⟨by decide, by decide, by decide, by decide⟩]; rfl)
theorem s102_176k600 {ls : LV} {st : List AV} {m : MM} : go 102 176 ls (.inl 600 :: st) m = go 102 178 ls (.inr (.inr (38, some (mC m 38))) :: st) (al m 38 600 600) := e_1 d102_176 (Or.inl rfl) (by rw [xi, pI, show lk naL 102 176 = some 38 by decide +kernel, Option.bind_some, if_pos ⟨by decide, by decide, by decide, by decide⟩]; rfl)
theorem s102_176k6400 {ls : LV} {st : List AV} {m : MM} : go 102 176 ls (.inl 6400 :: st) m = go 102 178 ls (.inr (.inr (38, some (mC m 38))) :: st) (al m 38 6400 6400) := e_1 d102_176 (Or.inl rfl) (by rw [xi, pI, show lk naL 102 176 = some 38 by decide +kernel, Option.bind_some, if_pos ⟨by decide, by decide, by decide, by decide⟩]; rfl)
theorem d102_178 : decode (mt 102).2.1 178 = .ok (.putfield 73, 3) := by decide +kernel
theorem s102_178r {ls : LV} {st : List AV} {m : MM} {n : Nat} {p : Option Nat} : go 102 178 ls (.inr (.inr (38, p)) :: .inr (.inr (8, some n)) :: st) m = go 102 181 ls st (sR m 8 n 25 p) := e_put (r := 8) (f := 25) d102_178 (by decide +kernel) (by simp [fc, tk, ek, ekL, fk, fkL]) (by decide +kernel)
theorem s102_178n {ls : LV} {st : List AV} {m : MM} {n w : Nat} : go 102 178 ls (.inr (.inr (w, none)) :: .inr (.inr (8, some n)) :: st) m = go 102 181 ls st (sR m 8 n 25 none) := e_put (r := 8) (f := 25) d102_178 (by decide +kernel) (by simp [fc, tk, ek, ekL, fk, fkL]) (by decide +kernel)
theorem d102_181 : decode (mt 102).2.1 181 = .ok (.aload_n 0, 1) := by decide +kernel
theorem s102_181 {st : List AV} {m : MM} {x : Nat × Option Nat} : go 102 181 [some (.inr (.inr x))] st m = go 102 182 [some (.inr (.inr x))] (.inr (.inr x) :: st) m := e_1 d102_181 (Or.inl rfl) rfl
theorem d102_182 : decode (mt 102).2.1 182 = .ok (.sipush 160, 3) := by decide +kernel
theorem s102_182 {ls : LV} {st : List AV} {m : MM} : go 102 182 ls st m = go 102 185 ls (.inl 160 :: st) m := e_1 d102_182 (Or.inl rfl) rfl
theorem d102_185 : decode (mt 102).2.1 185 = .ok (.newarray .boolean, 2) := by decide +kernel
theorem s102_185k1 {ls : LV} {st : List AV} {m : MM} : go 102 185 ls (.inl 1 :: st) m = go 102 187 ls (.inr (.inr (39, some (mC m 39))) :: st) (al m 39 1 1) := e_1 d102_185 (Or.inl rfl) (by rw [xi, pI, show lk naL 102 185 = some 39 by decide +kernel, Option.bind_some, if_pos ⟨by decide, by decide, by decide, by decide⟩]; rfl)
theorem s102_185k16 {ls : LV} {st : List AV} {m : MM} : go 102 185 ls (.inl 16 :: st) m = go 102 187 ls (.inr (.inr (39, some (mC m 39))) :: st) (al m 39 16 16) := e_1 d102_185 (Or.inl rfl) (by rw [xi, pI, show lk naL 102 185 = some 39 by decide +kernel, Option.bind_some, if_pos ⟨by decide, by decide, by decide, by decide⟩]; rfl)
theorem s102_185k32 {ls : LV} {st : List AV} {m : MM} : go 102 185 ls (.inl 32 :: st) m = go 102 187 ls (.inr (.inr (39, some (mC m 39))) :: st) (al m 39 32 32) := e_1 d102_185 (Or.inl rfl) (by rw [xi, pI, show lk naL 102 185 = some 39 by decide +kernel, Option.bind_some, if_pos ⟨by decide, by decide, by decide, by decide⟩]; rfl)
theorem s102_185k160 {ls : LV} {st : List AV} {m : MM} : go 102 185 ls (.inl 160 :: st) m = go 102 187 ls (.inr (.inr (39, some (mC m 39))) :: st) (al m 39 160 160) := e_1 d102_185 (Or.inl rfl) (by rw [xi, pI, show lk naL 102 185 = some 39 by decide +kernel, Option.bind_some, if_pos ⟨by decide, by decide, by decide, by decide⟩]; rfl)
theorem s102_185k288 {ls : LV} {st : List AV} {m : MM} : go 102 185 ls (.inl 288 :: st) m = go 102 187 ls (.inr (.inr (39, some (mC m 39))) :: st) (al m 39 288 288) := e_1 d102_185 (Or.inl rfl) (by rw [xi, pI, show lk naL 102 185 = some 39 by decide +kernel, Option.bind_some, if_pos ⟨by decide, by decide, by decide, by decide⟩]; rfl)
theorem s102_185k512 {ls : LV} {st : List AV} {m : MM} : go 102 185 ls (.inl 512 :: st) m = go 102 187 ls (.inr (.inr (39, some (mC m 39))) :: st) (al m 39 512 512) := e_1 d102_185 (Or.inl rfl) (by rw [xi, pI, show lk naL 102 185 = some 39 by decide +kernel, Option.bind_some, if_pos ⟨by decide, by decide, by decide, by decide⟩]; rfl)
theorem s102_185k600 {ls : LV} {st : List AV} {m : MM} : go 102 185 ls (.inl 600 :: st) m = go 102 187 ls (.inr (.inr (39, some (mC m 39))) :: st) (al m 39 600 600) := e_1 d102_185 (Or.inl rfl) (by rw [xi, pI, show lk naL 102 185 = some 39 by decide +kernel, Option.bind_some, if_pos ⟨by decide, by decide, by decide, by decide⟩]; rfl)
theorem s102_185k6400 {ls : LV} {st : List AV} {m : MM} : go 102 185 ls (.inl 6400 :: st) m = go 102 187 ls (.inr (.inr (39, some (mC m 39))) :: st) (al m 39 6400 6400) := e_1 d102_185 (Or.inl rfl) (by rw [xi, pI, show lk naL 102 185 = some 39 by decide +kernel, Option.bind_some, if_pos ⟨by decide, by decide, by decide, by decide⟩]; rfl)
theorem d102_187 : decode (mt 102).2.1 187 = .ok (.putfield 76, 3) := by decide +kernel
theorem s102_187r {ls : LV} {st : List AV} {m : MM} {n : Nat} {p : Option Nat} : go 102 187 ls (.inr (.inr (39, p)) :: .inr (.inr (8, some n)) :: st) m = go 102 190 ls st (sR m 8 n 26 p) := e_put (r := 8) (f := 26) d102_187 (by decide +kernel) (by simp [fc, tk, ek, ekL, fk, fkL]) (by decide +kernel)
theorem s102_187n {ls : LV} {st : List AV} {m : MM} {n w : Nat} : go 102 187 ls (.inr (.inr (w, none)) :: .inr (.inr (8, some n)) :: st) m = go 102 190 ls st (sR m 8 n 26 none) := e_put (r := 8) (f := 26) d102_187 (by decide +kernel) (by simp [fc, tk, ek, ekL, fk, fkL]) (by decide +kernel)
theorem d102_190 : decode (mt 102).2.1 190 = .ok (.aload_n 0, 1) := by decide +kernel
theorem s102_190 {st : List AV} {m : MM} {x : Nat × Option Nat} : go 102 190 [some (.inr (.inr x))] st m = go 102 191 [some (.inr (.inr x))] (.inr (.inr x) :: st) m := e_1 d102_190 (Or.inl rfl) rfl
theorem d102_191 : decode (mt 102).2.1 191 = .ok (.sipush 160, 3) := by decide +kernel
theorem s102_191 {ls : LV} {st : List AV} {m : MM} : go 102 191 ls st m = go 102 194 ls (.inl 160 :: st) m := e_1 d102_191 (Or.inl rfl) rfl
theorem d102_194 : decode (mt 102).2.1 194 = .ok (.newarray .int, 2) := by decide +kernel
theorem s102_194k1 {ls : LV} {st : List AV} {m : MM} : go 102 194 ls (.inl 1 :: st) m = go 102 196 ls (.inr (.inr (40, some (mC m 40))) :: st) (al m 40 1 1) := e_1 d102_194 (Or.inl rfl) (by rw [xi, pI, show lk naL 102 194 = some 40 by decide +kernel, Option.bind_some, if_pos ⟨by decide, by decide, by decide, by decide⟩]; rfl)
theorem s102_194k16 {ls : LV} {st : List AV} {m : MM} : go 102 194 ls (.inl 16 :: st) m = go 102 196 ls (.inr (.inr (40, some (mC m 40))) :: st) (al m 40 16 16) := e_1 d102_194 (Or.inl rfl) (by rw [xi, pI, show lk naL 102 194 = some 40 by decide +kernel, Option.bind_some, if_pos ⟨by decide, by decide, by decide, by decide⟩]; rfl)
theorem s102_194k32 {ls : LV} {st : List AV} {m : MM} : go 102 194 ls (.inl 32 :: st) m = go 102 196 ls (.inr (.inr (40, some (mC m 40))) :: st) (al m 40 32 32) := e_1 d102_194 (Or.inl rfl) (by rw [xi, pI, show lk naL 102 194 = some 40 by decide +kernel, Option.bind_some, if_pos ⟨by decide, by decide, by decide, by decide⟩]; rfl)
theorem s102_194k160 {ls : LV} {st : List AV} {m : MM} : go 102 194 ls (.inl 160 :: st) m = go 102 196 ls (.inr (.inr (40, some (mC m 40))) :: st) (al m 40 160 160) := e_1 d102_194 (Or.inl rfl) (by rw [xi, pI, show lk naL 102 194 = some 40 by decide +kernel, Option.bind_some, if_pos ⟨by decide, by decide, by decide, by decide⟩]; rfl)
theorem s102_194k288 {ls : LV} {st : List AV} {m : MM} : go 102 194 ls (.inl 288 :: st) m = go 102 196 ls (.inr (.inr (40, some (mC m 40))) :: st) (al m 40 288 288) := e_1 d102_194 (Or.inl rfl) (by rw [xi, pI, show lk naL 102 194 = some 40 by decide +kernel, Option.bind_some, if_pos ⟨by decide, by decide, by decide, by decide⟩]; rfl)
theorem s102_194k512 {ls : LV} {st : List AV} {m : MM} : go 102 194 ls (.inl 512 :: st) m = go 102 196 ls (.inr (.inr (40, some (mC m 40))) :: st) (al m 40 512 512) := e_1 d102_194 (Or.inl rfl) (by rw [xi, pI, show lk naL 102 194 = some 40 by decide +kernel, Option.bind_some, if_pos ⟨by decide, by decide, by decide, by decide⟩]; rfl)
theorem s102_194k600 {ls : LV} {st : List AV} {m : MM} : go 102 194 ls (.inl 600 :: st) m = go 102 196 ls (.inr (.inr (40, some (mC m 40))) :: st) (al m 40 600 600) := e_1 d102_194 (Or.inl rfl) (by rw [xi, pI, show lk naL 102 194 = some 40 by decide +kernel, Option.bind_some, if_pos ⟨by decide, by decide, by decide, by decide⟩]; rfl)
theorem s102_194k6400 {ls : LV} {st : List AV} {m : MM} : go 102 194 ls (.inl 6400 :: st) m = go 102 196 ls (.inr (.inr (40, some (mC m 40))) :: st) (al m 40 6400 6400) := e_1 d102_194 (Or.inl rfl) (by rw [xi, pI, show lk naL 102 194 = some 40 by decide +kernel, Option.bind_some, if_pos ⟨by decide, by decide, by decide, by decide⟩]; rfl)
theorem d102_196 : decode (mt 102).2.1 196 = .ok (.putfield 79, 3) := by decide +kernel
theorem s102_196r {ls : LV} {st : List AV} {m : MM} {n : Nat} {p : Option Nat} : go 102 196 ls (.inr (.inr (40, p)) :: .inr (.inr (8, some n)) :: st) m = go 102 199 ls st (sR m 8 n 27 p) := e_put (r := 8) (f := 27) d102_196 (by decide +kernel) (by simp [fc, tk, ek, ekL, fk, fkL]) (by decide +kernel)
theorem s102_196n {ls : LV} {st : List AV} {m : MM} {n w : Nat} : go 102 196 ls (.inr (.inr (w, none)) :: .inr (.inr (8, some n)) :: st) m = go 102 199 ls st (sR m 8 n 27 none) := e_put (r := 8) (f := 27) d102_196 (by decide +kernel) (by simp [fc, tk, ek, ekL, fk, fkL]) (by decide +kernel)
theorem d102_199 : decode (mt 102).2.1 199 = .ok (.aload_n 0, 1) := by decide +kernel
theorem s102_199 {st : List AV} {m : MM} {x : Nat × Option Nat} : go 102 199 [some (.inr (.inr x))] st m = go 102 200 [some (.inr (.inr x))] (.inr (.inr x) :: st) m := e_1 d102_199 (Or.inl rfl) rfl
theorem d102_200 : decode (mt 102).2.1 200 = .ok (.sipush 160, 3) := by decide +kernel
theorem s102_200 {ls : LV} {st : List AV} {m : MM} : go 102 200 ls st m = go 102 203 ls (.inl 160 :: st) m := e_1 d102_200 (Or.inl rfl) rfl
theorem d102_203 : decode (mt 102).2.1 203 = .ok (.newarray .int, 2) := by decide +kernel
theorem s102_203k1 {ls : LV} {st : List AV} {m : MM} : go 102 203 ls (.inl 1 :: st) m = go 102 205 ls (.inr (.inr (41, some (mC m 41))) :: st) (al m 41 1 1) := e_1 d102_203 (Or.inl rfl) (by rw [xi, pI, show lk naL 102 203 = some 41 by decide +kernel, Option.bind_some, if_pos ⟨by decide, by decide, by decide, by decide⟩]; rfl)
theorem s102_203k16 {ls : LV} {st : List AV} {m : MM} : go 102 203 ls (.inl 16 :: st) m = go 102 205 ls (.inr (.inr (41, some (mC m 41))) :: st) (al m 41 16 16) := e_1 d102_203 (Or.inl rfl) (by rw [xi, pI, show lk naL 102 203 = some 41 by decide +kernel, Option.bind_some, if_pos ⟨by decide, by decide, by decide, by decide⟩]; rfl)
theorem s102_203k32 {ls : LV} {st : List AV} {m : MM} : go 102 203 ls (.inl 32 :: st) m = go 102 205 ls (.inr (.inr (41, some (mC m 41))) :: st) (al m 41 32 32) := e_1 d102_203 (Or.inl rfl) (by rw [xi, pI, show lk naL 102 203 = some 41 by decide +kernel, Option.bind_some, if_pos ⟨by decide, by decide, by decide, by decide⟩]; rfl)
theorem s102_203k160 {ls : LV} {st : List AV} {m : MM} : go 102 203 ls (.inl 160 :: st) m = go 102 205 ls (.inr (.inr (41, some (mC m 41))) :: st) (al m 41 160 160) := e_1 d102_203 (Or.inl rfl) (by rw [xi, pI, show lk naL 102 203 = some 41 by decide +kernel, Option.bind_some, if_pos ⟨by decide, by decide, by decide, by decide⟩]; rfl)
theorem s102_203k288 {ls : LV} {st : List AV} {m : MM} : go 102 203 ls (.inl 288 :: st) m = go 102 205 ls (.inr (.inr (41, some (mC m 41))) :: st) (al m 41 288 288) := e_1 d102_203 (Or.inl rfl) (by rw [xi, pI, show lk naL 102 203 = some 41 by decide +kernel, Option.bind_some, if_pos ⟨by decide, by decide, by decide, by decide⟩]; rfl)
theorem s102_203k512 {ls : LV} {st : List AV} {m : MM} : go 102 203 ls (.inl 512 :: st) m = go 102 205 ls (.inr (.inr (41, some (mC m 41))) :: st) (al m 41 512 512) := e_1 d102_203 (Or.inl rfl) (by rw [xi, pI, show lk naL 102 203 = some 41 by decide +kernel, Option.bind_some, if_pos ⟨by decide, by decide, by decide, by decide⟩]; rfl)
theorem s102_203k600 {ls : LV} {st : List AV} {m : MM} : go 102 203 ls (.inl 600 :: st) m = go 102 205 ls (.inr (.inr (41, some (mC m 41))) :: st) (al m 41 600 600) := e_1 d102_203 (Or.inl rfl) (by rw [xi, pI, show lk naL 102 203 = some 41 by decide +kernel, Option.bind_some, if_pos ⟨by decide, by decide, by decide, by decide⟩]; rfl)
theorem s102_203k6400 {ls : LV} {st : List AV} {m : MM} : go 102 203 ls (.inl 6400 :: st) m = go 102 205 ls (.inr (.inr (41, some (mC m 41))) :: st) (al m 41 6400 6400) := e_1 d102_203 (Or.inl rfl) (by rw [xi, pI, show lk naL 102 203 = some 41 by decide +kernel, Option.bind_some, if_pos ⟨by decide, by decide, by decide, by decide⟩]; rfl)
theorem d102_205 : decode (mt 102).2.1 205 = .ok (.putfield 82, 3) := by decide +kernel
theorem s102_205r {ls : LV} {st : List AV} {m : MM} {n : Nat} {p : Option Nat} : go 102 205 ls (.inr (.inr (41, p)) :: .inr (.inr (8, some n)) :: st) m = go 102 208 ls st (sR m 8 n 28 p) := e_put (r := 8) (f := 28) d102_205 (by decide +kernel) (by simp [fc, tk, ek, ekL, fk, fkL]) (by decide +kernel)
theorem s102_205n {ls : LV} {st : List AV} {m : MM} {n w : Nat} : go 102 205 ls (.inr (.inr (w, none)) :: .inr (.inr (8, some n)) :: st) m = go 102 208 ls st (sR m 8 n 28 none) := e_put (r := 8) (f := 28) d102_205 (by decide +kernel) (by simp [fc, tk, ek, ekL, fk, fkL]) (by decide +kernel)
theorem d102_208 : decode (mt 102).2.1 208 = .ok (.aload_n 0, 1) := by decide +kernel
theorem s102_208 {st : List AV} {m : MM} {x : Nat × Option Nat} : go 102 208 [some (.inr (.inr x))] st m = go 102 209 [some (.inr (.inr x))] (.inr (.inr x) :: st) m := e_1 d102_208 (Or.inl rfl) rfl
theorem d102_209 : decode (mt 102).2.1 209 = .ok (.sipush 160, 3) := by decide +kernel
theorem s102_209 {ls : LV} {st : List AV} {m : MM} : go 102 209 ls st m = go 102 212 ls (.inl 160 :: st) m := e_1 d102_209 (Or.inl rfl) rfl
theorem d102_212 : decode (mt 102).2.1 212 = .ok (.newarray .long, 2) := by decide +kernel
theorem s102_212k1 {ls : LV} {st : List AV} {m : MM} : go 102 212 ls (.inl 1 :: st) m = go 102 214 ls (.inr (.inr (42, some (mC m 42))) :: st) (al m 42 1 1) := e_1 d102_212 (Or.inl rfl) (by rw [xi, pI, show lk naL 102 212 = some 42 by decide +kernel, Option.bind_some, if_pos ⟨by decide, by decide, by decide, by decide⟩]; rfl)
theorem s102_212k16 {ls : LV} {st : List AV} {m : MM} : go 102 212 ls (.inl 16 :: st) m = go 102 214 ls (.inr (.inr (42, some (mC m 42))) :: st) (al m 42 16 16) := e_1 d102_212 (Or.inl rfl) (by rw [xi, pI, show lk naL 102 212 = some 42 by decide +kernel, Option.bind_some, if_pos ⟨by decide, by decide, by decide, by decide⟩]; rfl)
theorem s102_212k32 {ls : LV} {st : List AV} {m : MM} : go 102 212 ls (.inl 32 :: st) m = go 102 214 ls (.inr (.inr (42, some (mC m 42))) :: st) (al m 42 32 32) := e_1 d102_212 (Or.inl rfl) (by rw [xi, pI, show lk naL 102 212 = some 42 by decide +kernel, Option.bind_some, if_pos ⟨by decide, by decide, by decide, by decide⟩]; rfl)
theorem s102_212k160 {ls : LV} {st : List AV} {m : MM} : go 102 212 ls (.inl 160 :: st) m = go 102 214 ls (.inr (.inr (42, some (mC m 42))) :: st) (al m 42 160 160) := e_1 d102_212 (Or.inl rfl) (by rw [xi, pI, show lk naL 102 212 = some 42 by decide +kernel, Option.bind_some, if_pos ⟨by decide, by decide, by decide, by decide⟩]; rfl)
theorem s102_212k288 {ls : LV} {st : List AV} {m : MM} : go 102 212 ls (.inl 288 :: st) m = go 102 214 ls (.inr (.inr (42, some (mC m 42))) :: st) (al m 42 288 288) := e_1 d102_212 (Or.inl rfl) (by rw [xi, pI, show lk naL 102 212 = some 42 by decide +kernel, Option.bind_some, if_pos ⟨by decide, by decide, by decide, by decide⟩]; rfl)
theorem s102_212k512 {ls : LV} {st : List AV} {m : MM} : go 102 212 ls (.inl 512 :: st) m = go 102 214 ls (.inr (.inr (42, some (mC m 42))) :: st) (al m 42 512 512) := e_1 d102_212 (Or.inl rfl) (by rw [xi, pI, show lk naL 102 212 = some 42 by decide +kernel, Option.bind_some, if_pos ⟨by decide, by decide, by decide, by decide⟩]; rfl)
theorem s102_212k600 {ls : LV} {st : List AV} {m : MM} : go 102 212 ls (.inl 600 :: st) m = go 102 214 ls (.inr (.inr (42, some (mC m 42))) :: st) (al m 42 600 600) := e_1 d102_212 (Or.inl rfl) (by rw [xi, pI, show lk naL 102 212 = some 42 by decide +kernel, Option.bind_some, if_pos ⟨by decide, by decide, by decide, by decide⟩]; rfl)
theorem s102_212k6400 {ls : LV} {st : List AV} {m : MM} : go 102 212 ls (.inl 6400 :: st) m = go 102 214 ls (.inr (.inr (42, some (mC m 42))) :: st) (al m 42 6400 6400) := e_1 d102_212 (Or.inl rfl) (by rw [xi, pI, show lk naL 102 212 = some 42 by decide +kernel, Option.bind_some, if_pos ⟨by decide, by decide, by decide, by decide⟩]; rfl)
theorem d102_214 : decode (mt 102).2.1 214 = .ok (.putfield 85, 3) := by decide +kernel
theorem s102_214r {ls : LV} {st : List AV} {m : MM} {n : Nat} {p : Option Nat} : go 102 214 ls (.inr (.inr (42, p)) :: .inr (.inr (8, some n)) :: st) m = go 102 217 ls st (sR m 8 n 29 p) := e_put (r := 8) (f := 29) d102_214 (by decide +kernel) (by simp [fc, tk, ek, ekL, fk, fkL]) (by decide +kernel)
theorem s102_214n {ls : LV} {st : List AV} {m : MM} {n w : Nat} : go 102 214 ls (.inr (.inr (w, none)) :: .inr (.inr (8, some n)) :: st) m = go 102 217 ls st (sR m 8 n 29 none) := e_put (r := 8) (f := 29) d102_214 (by decide +kernel) (by simp [fc, tk, ek, ekL, fk, fkL]) (by decide +kernel)
theorem d102_217 : decode (mt 102).2.1 217 = .ok (.aload_n 0, 1) := by decide +kernel
theorem s102_217 {st : List AV} {m : MM} {x : Nat × Option Nat} : go 102 217 [some (.inr (.inr x))] st m = go 102 218 [some (.inr (.inr x))] (.inr (.inr x) :: st) m := e_1 d102_217 (Or.inl rfl) rfl
theorem d102_218 : decode (mt 102).2.1 218 = .ok (.sipush 600, 3) := by decide +kernel
theorem s102_218 {ls : LV} {st : List AV} {m : MM} : go 102 218 ls st m = go 102 221 ls (.inl 600 :: st) m := e_1 d102_218 (Or.inl rfl) rfl
theorem d102_221 : decode (mt 102).2.1 221 = .ok (.newarray .int, 2) := by decide +kernel
theorem s102_221k1 {ls : LV} {st : List AV} {m : MM} : go 102 221 ls (.inl 1 :: st) m = go 102 223 ls (.inr (.inr (43, some (mC m 43))) :: st) (al m 43 1 1) := e_1 d102_221 (Or.inl rfl) (by rw [xi, pI, show lk naL 102 221 = some 43 by decide +kernel, Option.bind_some, if_pos ⟨by decide, by decide, by decide, by decide⟩]; rfl)
theorem s102_221k16 {ls : LV} {st : List AV} {m : MM} : go 102 221 ls (.inl 16 :: st) m = go 102 223 ls (.inr (.inr (43, some (mC m 43))) :: st) (al m 43 16 16) := e_1 d102_221 (Or.inl rfl) (by rw [xi, pI, show lk naL 102 221 = some 43 by decide +kernel, Option.bind_some, if_pos ⟨by decide, by decide, by decide, by decide⟩]; rfl)
theorem s102_221k32 {ls : LV} {st : List AV} {m : MM} : go 102 221 ls (.inl 32 :: st) m = go 102 223 ls (.inr (.inr (43, some (mC m 43))) :: st) (al m 43 32 32) := e_1 d102_221 (Or.inl rfl) (by rw [xi, pI, show lk naL 102 221 = some 43 by decide +kernel, Option.bind_some, if_pos ⟨by decide, by decide, by decide, by decide⟩]; rfl)
theorem s102_221k160 {ls : LV} {st : List AV} {m : MM} : go 102 221 ls (.inl 160 :: st) m = go 102 223 ls (.inr (.inr (43, some (mC m 43))) :: st) (al m 43 160 160) := e_1 d102_221 (Or.inl rfl) (by rw [xi, pI, show lk naL 102 221 = some 43 by decide +kernel, Option.bind_some, if_pos ⟨by decide, by decide, by decide, by decide⟩]; rfl)
theorem s102_221k288 {ls : LV} {st : List AV} {m : MM} : go 102 221 ls (.inl 288 :: st) m = go 102 223 ls (.inr (.inr (43, some (mC m 43))) :: st) (al m 43 288 288) := e_1 d102_221 (Or.inl rfl) (by rw [xi, pI, show lk naL 102 221 = some 43 by decide +kernel, Option.bind_some, if_pos ⟨by decide, by decide, by decide, by decide⟩]; rfl)
theorem s102_221k512 {ls : LV} {st : List AV} {m : MM} : go 102 221 ls (.inl 512 :: st) m = go 102 223 ls (.inr (.inr (43, some (mC m 43))) :: st) (al m 43 512 512) := e_1 d102_221 (Or.inl rfl) (by rw [xi, pI, show lk naL 102 221 = some 43 by decide +kernel, Option.bind_some, if_pos ⟨by decide, by decide, by decide, by decide⟩]; rfl)
theorem s102_221k600 {ls : LV} {st : List AV} {m : MM} : go 102 221 ls (.inl 600 :: st) m = go 102 223 ls (.inr (.inr (43, some (mC m 43))) :: st) (al m 43 600 600) := e_1 d102_221 (Or.inl rfl) (by rw [xi, pI, show lk naL 102 221 = some 43 by decide +kernel, Option.bind_some, if_pos ⟨by decide, by decide, by decide, by decide⟩]; rfl)
theorem s102_221k6400 {ls : LV} {st : List AV} {m : MM} : go 102 221 ls (.inl 6400 :: st) m = go 102 223 ls (.inr (.inr (43, some (mC m 43))) :: st) (al m 43 6400 6400) := e_1 d102_221 (Or.inl rfl) (by rw [xi, pI, show lk naL 102 221 = some 43 by decide +kernel, Option.bind_some, if_pos ⟨by decide, by decide, by decide, by decide⟩]; rfl)
theorem d102_223 : decode (mt 102).2.1 223 = .ok (.putfield 88, 3) := by decide +kernel
theorem s102_223r {ls : LV} {st : List AV} {m : MM} {n : Nat} {p : Option Nat} : go 102 223 ls (.inr (.inr (43, p)) :: .inr (.inr (8, some n)) :: st) m = go 102 226 ls st (sR m 8 n 31 p) := e_put (r := 8) (f := 31) d102_223 (by decide +kernel) (by simp [fc, tk, ek, ekL, fk, fkL]) (by decide +kernel)
theorem s102_223n {ls : LV} {st : List AV} {m : MM} {n w : Nat} : go 102 223 ls (.inr (.inr (w, none)) :: .inr (.inr (8, some n)) :: st) m = go 102 226 ls st (sR m 8 n 31 none) := e_put (r := 8) (f := 31) d102_223 (by decide +kernel) (by simp [fc, tk, ek, ekL, fk, fkL]) (by decide +kernel)
theorem d102_226 : decode (mt 102).2.1 226 = .ok (.aload_n 0, 1) := by decide +kernel
theorem s102_226 {st : List AV} {m : MM} {x : Nat × Option Nat} : go 102 226 [some (.inr (.inr x))] st m = go 102 227 [some (.inr (.inr x))] (.inr (.inr x) :: st) m := e_1 d102_226 (Or.inl rfl) rfl
theorem d102_227 : decode (mt 102).2.1 227 = .ok (.sipush 600, 3) := by decide +kernel
theorem s102_227 {ls : LV} {st : List AV} {m : MM} : go 102 227 ls st m = go 102 230 ls (.inl 600 :: st) m := e_1 d102_227 (Or.inl rfl) rfl
theorem d102_230 : decode (mt 102).2.1 230 = .ok (.newarray .int, 2) := by decide +kernel
theorem s102_230k1 {ls : LV} {st : List AV} {m : MM} : go 102 230 ls (.inl 1 :: st) m = go 102 232 ls (.inr (.inr (44, some (mC m 44))) :: st) (al m 44 1 1) := e_1 d102_230 (Or.inl rfl) (by rw [xi, pI, show lk naL 102 230 = some 44 by decide +kernel, Option.bind_some, if_pos ⟨by decide, by decide, by decide, by decide⟩]; rfl)
theorem s102_230k16 {ls : LV} {st : List AV} {m : MM} : go 102 230 ls (.inl 16 :: st) m = go 102 232 ls (.inr (.inr (44, some (mC m 44))) :: st) (al m 44 16 16) := e_1 d102_230 (Or.inl rfl) (by rw [xi, pI, show lk naL 102 230 = some 44 by decide +kernel, Option.bind_some, if_pos ⟨by decide, by decide, by decide, by decide⟩]; rfl)
theorem s102_230k32 {ls : LV} {st : List AV} {m : MM} : go 102 230 ls (.inl 32 :: st) m = go 102 232 ls (.inr (.inr (44, some (mC m 44))) :: st) (al m 44 32 32) := e_1 d102_230 (Or.inl rfl) (by rw [xi, pI, show lk naL 102 230 = some 44 by decide +kernel, Option.bind_some, if_pos ⟨by decide, by decide, by decide, by decide⟩]; rfl)
theorem s102_230k160 {ls : LV} {st : List AV} {m : MM} : go 102 230 ls (.inl 160 :: st) m = go 102 232 ls (.inr (.inr (44, some (mC m 44))) :: st) (al m 44 160 160) := e_1 d102_230 (Or.inl rfl) (by rw [xi, pI, show lk naL 102 230 = some 44 by decide +kernel, Option.bind_some, if_pos ⟨by decide, by decide, by decide, by decide⟩]; rfl)
theorem s102_230k288 {ls : LV} {st : List AV} {m : MM} : go 102 230 ls (.inl 288 :: st) m = go 102 232 ls (.inr (.inr (44, some (mC m 44))) :: st) (al m 44 288 288) := e_1 d102_230 (Or.inl rfl) (by rw [xi, pI, show lk naL 102 230 = some 44 by decide +kernel, Option.bind_some, if_pos ⟨by decide, by decide, by decide, by decide⟩]; rfl)
theorem s102_230k512 {ls : LV} {st : List AV} {m : MM} : go 102 230 ls (.inl 512 :: st) m = go 102 232 ls (.inr (.inr (44, some (mC m 44))) :: st) (al m 44 512 512) := e_1 d102_230 (Or.inl rfl) (by rw [xi, pI, show lk naL 102 230 = some 44 by decide +kernel, Option.bind_some, if_pos ⟨by decide, by decide, by decide, by decide⟩]; rfl)
theorem s102_230k600 {ls : LV} {st : List AV} {m : MM} : go 102 230 ls (.inl 600 :: st) m = go 102 232 ls (.inr (.inr (44, some (mC m 44))) :: st) (al m 44 600 600) := e_1 d102_230 (Or.inl rfl) (by rw [xi, pI, show lk naL 102 230 = some 44 by decide +kernel, Option.bind_some, if_pos ⟨by decide, by decide, by decide, by decide⟩]; rfl)
theorem s102_230k6400 {ls : LV} {st : List AV} {m : MM} : go 102 230 ls (.inl 6400 :: st) m = go 102 232 ls (.inr (.inr (44, some (mC m 44))) :: st) (al m 44 6400 6400) := e_1 d102_230 (Or.inl rfl) (by rw [xi, pI, show lk naL 102 230 = some 44 by decide +kernel, Option.bind_some, if_pos ⟨by decide, by decide, by decide, by decide⟩]; rfl)
theorem d102_232 : decode (mt 102).2.1 232 = .ok (.putfield 91, 3) := by decide +kernel
theorem s102_232r {ls : LV} {st : List AV} {m : MM} {n : Nat} {p : Option Nat} : go 102 232 ls (.inr (.inr (44, p)) :: .inr (.inr (8, some n)) :: st) m = go 102 235 ls st (sR m 8 n 32 p) := e_put (r := 8) (f := 32) d102_232 (by decide +kernel) (by simp [fc, tk, ek, ekL, fk, fkL]) (by decide +kernel)
theorem s102_232n {ls : LV} {st : List AV} {m : MM} {n w : Nat} : go 102 232 ls (.inr (.inr (w, none)) :: .inr (.inr (8, some n)) :: st) m = go 102 235 ls st (sR m 8 n 32 none) := e_put (r := 8) (f := 32) d102_232 (by decide +kernel) (by simp [fc, tk, ek, ekL, fk, fkL]) (by decide +kernel)
theorem d102_235 : decode (mt 102).2.1 235 = .ok (.aload_n 0, 1) := by decide +kernel
theorem s102_235 {st : List AV} {m : MM} {x : Nat × Option Nat} : go 102 235 [some (.inr (.inr x))] st m = go 102 236 [some (.inr (.inr x))] (.inr (.inr x) :: st) m := e_1 d102_235 (Or.inl rfl) rfl
theorem d102_236 : decode (mt 102).2.1 236 = .ok (.sipush 600, 3) := by decide +kernel
theorem s102_236 {ls : LV} {st : List AV} {m : MM} : go 102 236 ls st m = go 102 239 ls (.inl 600 :: st) m := e_1 d102_236 (Or.inl rfl) rfl
theorem d102_239 : decode (mt 102).2.1 239 = .ok (.newarray .int, 2) := by decide +kernel
theorem s102_239k1 {ls : LV} {st : List AV} {m : MM} : go 102 239 ls (.inl 1 :: st) m = go 102 241 ls (.inr (.inr (45, some (mC m 45))) :: st) (al m 45 1 1) := e_1 d102_239 (Or.inl rfl) (by rw [xi, pI, show lk naL 102 239 = some 45 by decide +kernel, Option.bind_some, if_pos ⟨by decide, by decide, by decide, by decide⟩]; rfl)
theorem s102_239k16 {ls : LV} {st : List AV} {m : MM} : go 102 239 ls (.inl 16 :: st) m = go 102 241 ls (.inr (.inr (45, some (mC m 45))) :: st) (al m 45 16 16) := e_1 d102_239 (Or.inl rfl) (by rw [xi, pI, show lk naL 102 239 = some 45 by decide +kernel, Option.bind_some, if_pos ⟨by decide, by decide, by decide, by decide⟩]; rfl)
theorem s102_239k32 {ls : LV} {st : List AV} {m : MM} : go 102 239 ls (.inl 32 :: st) m = go 102 241 ls (.inr (.inr (45, some (mC m 45))) :: st) (al m 45 32 32) := e_1 d102_239 (Or.inl rfl) (by rw [xi, pI, show lk naL 102 239 = some 45 by decide +kernel, Option.bind_some, if_pos ⟨by decide, by decide, by decide, by decide⟩]; rfl)
theorem s102_239k160 {ls : LV} {st : List AV} {m : MM} : go 102 239 ls (.inl 160 :: st) m = go 102 241 ls (.inr (.inr (45, some (mC m 45))) :: st) (al m 45 160 160) := e_1 d102_239 (Or.inl rfl) (by rw [xi, pI, show lk naL 102 239 = some 45 by decide +kernel, Option.bind_some, if_pos ⟨by decide, by decide, by decide, by decide⟩]; rfl)
theorem s102_239k288 {ls : LV} {st : List AV} {m : MM} : go 102 239 ls (.inl 288 :: st) m = go 102 241 ls (.inr (.inr (45, some (mC m 45))) :: st) (al m 45 288 288) := e_1 d102_239 (Or.inl rfl) (by rw [xi, pI, show lk naL 102 239 = some 45 by decide +kernel, Option.bind_some, if_pos ⟨by decide, by decide, by decide, by decide⟩]; rfl)
theorem s102_239k512 {ls : LV} {st : List AV} {m : MM} : go 102 239 ls (.inl 512 :: st) m = go 102 241 ls (.inr (.inr (45, some (mC m 45))) :: st) (al m 45 512 512) := e_1 d102_239 (Or.inl rfl) (by rw [xi, pI, show lk naL 102 239 = some 45 by decide +kernel, Option.bind_some, if_pos ⟨by decide, by decide, by decide, by decide⟩]; rfl)
theorem s102_239k600 {ls : LV} {st : List AV} {m : MM} : go 102 239 ls (.inl 600 :: st) m = go 102 241 ls (.inr (.inr (45, some (mC m 45))) :: st) (al m 45 600 600) := e_1 d102_239 (Or.inl rfl) (by rw [xi, pI, show lk naL 102 239 = some 45 by decide +kernel, Option.bind_some, if_pos ⟨by decide, by decide, by decide, by decide⟩]; rfl)
theorem s102_239k6400 {ls : LV} {st : List AV} {m : MM} : go 102 239 ls (.inl 6400 :: st) m = go 102 241 ls (.inr (.inr (45, some (mC m 45))) :: st) (al m 45 6400 6400) := e_1 d102_239 (Or.inl rfl) (by rw [xi, pI, show lk naL 102 239 = some 45 by decide +kernel, Option.bind_some, if_pos ⟨by decide, by decide, by decide, by decide⟩]; rfl)
theorem d102_241 : decode (mt 102).2.1 241 = .ok (.putfield 94, 3) := by decide +kernel
theorem s102_241r {ls : LV} {st : List AV} {m : MM} {n : Nat} {p : Option Nat} : go 102 241 ls (.inr (.inr (45, p)) :: .inr (.inr (8, some n)) :: st) m = go 102 244 ls st (sR m 8 n 33 p) := e_put (r := 8) (f := 33) d102_241 (by decide +kernel) (by simp [fc, tk, ek, ekL, fk, fkL]) (by decide +kernel)
theorem s102_241n {ls : LV} {st : List AV} {m : MM} {n w : Nat} : go 102 241 ls (.inr (.inr (w, none)) :: .inr (.inr (8, some n)) :: st) m = go 102 244 ls st (sR m 8 n 33 none) := e_put (r := 8) (f := 33) d102_241 (by decide +kernel) (by simp [fc, tk, ek, ekL, fk, fkL]) (by decide +kernel)
theorem d102_244 : decode (mt 102).2.1 244 = .ok (.aload_n 0, 1) := by decide +kernel
theorem s102_244 {st : List AV} {m : MM} {x : Nat × Option Nat} : go 102 244 [some (.inr (.inr x))] st m = go 102 245 [some (.inr (.inr x))] (.inr (.inr x) :: st) m := e_1 d102_244 (Or.inl rfl) rfl
theorem d102_245 : decode (mt 102).2.1 245 = .ok (.sipush 600, 3) := by decide +kernel
theorem s102_245 {ls : LV} {st : List AV} {m : MM} : go 102 245 ls st m = go 102 248 ls (.inl 600 :: st) m := e_1 d102_245 (Or.inl rfl) rfl
theorem d102_248 : decode (mt 102).2.1 248 = .ok (.newarray .int, 2) := by decide +kernel
theorem s102_248k1 {ls : LV} {st : List AV} {m : MM} : go 102 248 ls (.inl 1 :: st) m = go 102 250 ls (.inr (.inr (46, some (mC m 46))) :: st) (al m 46 1 1) := e_1 d102_248 (Or.inl rfl) (by rw [xi, pI, show lk naL 102 248 = some 46 by decide +kernel, Option.bind_some, if_pos ⟨by decide, by decide, by decide, by decide⟩]; rfl)
theorem s102_248k16 {ls : LV} {st : List AV} {m : MM} : go 102 248 ls (.inl 16 :: st) m = go 102 250 ls (.inr (.inr (46, some (mC m 46))) :: st) (al m 46 16 16) := e_1 d102_248 (Or.inl rfl) (by rw [xi, pI, show lk naL 102 248 = some 46 by decide +kernel, Option.bind_some, if_pos ⟨by decide, by decide, by decide, by decide⟩]; rfl)
theorem s102_248k32 {ls : LV} {st : List AV} {m : MM} : go 102 248 ls (.inl 32 :: st) m = go 102 250 ls (.inr (.inr (46, some (mC m 46))) :: st) (al m 46 32 32) := e_1 d102_248 (Or.inl rfl) (by rw [xi, pI, show lk naL 102 248 = some 46 by decide +kernel, Option.bind_some, if_pos ⟨by decide, by decide, by decide, by decide⟩]; rfl)
theorem s102_248k160 {ls : LV} {st : List AV} {m : MM} : go 102 248 ls (.inl 160 :: st) m = go 102 250 ls (.inr (.inr (46, some (mC m 46))) :: st) (al m 46 160 160) := e_1 d102_248 (Or.inl rfl) (by rw [xi, pI, show lk naL 102 248 = some 46 by decide +kernel, Option.bind_some, if_pos ⟨by decide, by decide, by decide, by decide⟩]; rfl)
theorem s102_248k288 {ls : LV} {st : List AV} {m : MM} : go 102 248 ls (.inl 288 :: st) m = go 102 250 ls (.inr (.inr (46, some (mC m 46))) :: st) (al m 46 288 288) := e_1 d102_248 (Or.inl rfl) (by rw [xi, pI, show lk naL 102 248 = some 46 by decide +kernel, Option.bind_some, if_pos ⟨by decide, by decide, by decide, by decide⟩]; rfl)
theorem s102_248k512 {ls : LV} {st : List AV} {m : MM} : go 102 248 ls (.inl 512 :: st) m = go 102 250 ls (.inr (.inr (46, some (mC m 46))) :: st) (al m 46 512 512) := e_1 d102_248 (Or.inl rfl) (by rw [xi, pI, show lk naL 102 248 = some 46 by decide +kernel, Option.bind_some, if_pos ⟨by decide, by decide, by decide, by decide⟩]; rfl)
theorem s102_248k600 {ls : LV} {st : List AV} {m : MM} : go 102 248 ls (.inl 600 :: st) m = go 102 250 ls (.inr (.inr (46, some (mC m 46))) :: st) (al m 46 600 600) := e_1 d102_248 (Or.inl rfl) (by rw [xi, pI, show lk naL 102 248 = some 46 by decide +kernel, Option.bind_some, if_pos ⟨by decide, by decide, by decide, by decide⟩]; rfl)
theorem s102_248k6400 {ls : LV} {st : List AV} {m : MM} : go 102 248 ls (.inl 6400 :: st) m = go 102 250 ls (.inr (.inr (46, some (mC m 46))) :: st) (al m 46 6400 6400) := e_1 d102_248 (Or.inl rfl) (by rw [xi, pI, show lk naL 102 248 = some 46 by decide +kernel, Option.bind_some, if_pos ⟨by decide, by decide, by decide, by decide⟩]; rfl)
theorem d102_250 : decode (mt 102).2.1 250 = .ok (.putfield 97, 3) := by decide +kernel
theorem s102_250r {ls : LV} {st : List AV} {m : MM} {n : Nat} {p : Option Nat} : go 102 250 ls (.inr (.inr (46, p)) :: .inr (.inr (8, some n)) :: st) m = go 102 253 ls st (sR m 8 n 34 p) := e_put (r := 8) (f := 34) d102_250 (by decide +kernel) (by simp [fc, tk, ek, ekL, fk, fkL]) (by decide +kernel)
theorem s102_250n {ls : LV} {st : List AV} {m : MM} {n w : Nat} : go 102 250 ls (.inr (.inr (w, none)) :: .inr (.inr (8, some n)) :: st) m = go 102 253 ls st (sR m 8 n 34 none) := e_put (r := 8) (f := 34) d102_250 (by decide +kernel) (by simp [fc, tk, ek, ekL, fk, fkL]) (by decide +kernel)
theorem d102_253 : decode (mt 102).2.1 253 = .ok (.aload_n 0, 1) := by decide +kernel
theorem s102_253 {st : List AV} {m : MM} {x : Nat × Option Nat} : go 102 253 [some (.inr (.inr x))] st m = go 102 254 [some (.inr (.inr x))] (.inr (.inr x) :: st) m := e_1 d102_253 (Or.inl rfl) rfl
theorem d102_254 : decode (mt 102).2.1 254 = .ok (.sipush 600, 3) := by decide +kernel
theorem s102_254 {ls : LV} {st : List AV} {m : MM} : go 102 254 ls st m = go 102 257 ls (.inl 600 :: st) m := e_1 d102_254 (Or.inl rfl) rfl
theorem d102_257 : decode (mt 102).2.1 257 = .ok (.newarray .int, 2) := by decide +kernel
theorem s102_257k1 {ls : LV} {st : List AV} {m : MM} : go 102 257 ls (.inl 1 :: st) m = go 102 259 ls (.inr (.inr (47, some (mC m 47))) :: st) (al m 47 1 1) := e_1 d102_257 (Or.inl rfl) (by rw [xi, pI, show lk naL 102 257 = some 47 by decide +kernel, Option.bind_some, if_pos ⟨by decide, by decide, by decide, by decide⟩]; rfl)
theorem s102_257k16 {ls : LV} {st : List AV} {m : MM} : go 102 257 ls (.inl 16 :: st) m = go 102 259 ls (.inr (.inr (47, some (mC m 47))) :: st) (al m 47 16 16) := e_1 d102_257 (Or.inl rfl) (by rw [xi, pI, show lk naL 102 257 = some 47 by decide +kernel, Option.bind_some, if_pos ⟨by decide, by decide, by decide, by decide⟩]; rfl)
theorem s102_257k32 {ls : LV} {st : List AV} {m : MM} : go 102 257 ls (.inl 32 :: st) m = go 102 259 ls (.inr (.inr (47, some (mC m 47))) :: st) (al m 47 32 32) := e_1 d102_257 (Or.inl rfl) (by rw [xi, pI, show lk naL 102 257 = some 47 by decide +kernel, Option.bind_some, if_pos ⟨by decide, by decide, by decide, by decide⟩]; rfl)
theorem s102_257k160 {ls : LV} {st : List AV} {m : MM} : go 102 257 ls (.inl 160 :: st) m = go 102 259 ls (.inr (.inr (47, some (mC m 47))) :: st) (al m 47 160 160) := e_1 d102_257 (Or.inl rfl) (by rw [xi, pI, show lk naL 102 257 = some 47 by decide +kernel, Option.bind_some, if_pos ⟨by decide, by decide, by decide, by decide⟩]; rfl)
theorem s102_257k288 {ls : LV} {st : List AV} {m : MM} : go 102 257 ls (.inl 288 :: st) m = go 102 259 ls (.inr (.inr (47, some (mC m 47))) :: st) (al m 47 288 288) := e_1 d102_257 (Or.inl rfl) (by rw [xi, pI, show lk naL 102 257 = some 47 by decide +kernel, Option.bind_some, if_pos ⟨by decide, by decide, by decide, by decide⟩]; rfl)
theorem s102_257k512 {ls : LV} {st : List AV} {m : MM} : go 102 257 ls (.inl 512 :: st) m = go 102 259 ls (.inr (.inr (47, some (mC m 47))) :: st) (al m 47 512 512) := e_1 d102_257 (Or.inl rfl) (by rw [xi, pI, show lk naL 102 257 = some 47 by decide +kernel, Option.bind_some, if_pos ⟨by decide, by decide, by decide, by decide⟩]; rfl)
theorem s102_257k600 {ls : LV} {st : List AV} {m : MM} : go 102 257 ls (.inl 600 :: st) m = go 102 259 ls (.inr (.inr (47, some (mC m 47))) :: st) (al m 47 600 600) := e_1 d102_257 (Or.inl rfl) (by rw [xi, pI, show lk naL 102 257 = some 47 by decide +kernel, Option.bind_some, if_pos ⟨by decide, by decide, by decide, by decide⟩]; rfl)
theorem s102_257k6400 {ls : LV} {st : List AV} {m : MM} : go 102 257 ls (.inl 6400 :: st) m = go 102 259 ls (.inr (.inr (47, some (mC m 47))) :: st) (al m 47 6400 6400) := e_1 d102_257 (Or.inl rfl) (by rw [xi, pI, show lk naL 102 257 = some 47 by decide +kernel, Option.bind_some, if_pos ⟨by decide, by decide, by decide, by decide⟩]; rfl)
theorem d102_259 : decode (mt 102).2.1 259 = .ok (.putfield 100, 3) := by decide +kernel
theorem s102_259r {ls : LV} {st : List AV} {m : MM} {n : Nat} {p : Option Nat} : go 102 259 ls (.inr (.inr (47, p)) :: .inr (.inr (8, some n)) :: st) m = go 102 262 ls st (sR m 8 n 35 p) := e_put (r := 8) (f := 35) d102_259 (by decide +kernel) (by simp [fc, tk, ek, ekL, fk, fkL]) (by decide +kernel)
theorem s102_259n {ls : LV} {st : List AV} {m : MM} {n w : Nat} : go 102 259 ls (.inr (.inr (w, none)) :: .inr (.inr (8, some n)) :: st) m = go 102 262 ls st (sR m 8 n 35 none) := e_put (r := 8) (f := 35) d102_259 (by decide +kernel) (by simp [fc, tk, ek, ekL, fk, fkL]) (by decide +kernel)
theorem d102_262 : decode (mt 102).2.1 262 = .ok (.aload_n 0, 1) := by decide +kernel
theorem s102_262 {st : List AV} {m : MM} {x : Nat × Option Nat} : go 102 262 [some (.inr (.inr x))] st m = go 102 263 [some (.inr (.inr x))] (.inr (.inr x) :: st) m := e_1 d102_262 (Or.inl rfl) rfl
theorem d102_263 : decode (mt 102).2.1 263 = .ok (.sipush 600, 3) := by decide +kernel
theorem s102_263 {ls : LV} {st : List AV} {m : MM} : go 102 263 ls st m = go 102 266 ls (.inl 600 :: st) m := e_1 d102_263 (Or.inl rfl) rfl
theorem d102_266 : decode (mt 102).2.1 266 = .ok (.newarray .int, 2) := by decide +kernel
theorem s102_266k1 {ls : LV} {st : List AV} {m : MM} : go 102 266 ls (.inl 1 :: st) m = go 102 268 ls (.inr (.inr (48, some (mC m 48))) :: st) (al m 48 1 1) := e_1 d102_266 (Or.inl rfl) (by rw [xi, pI, show lk naL 102 266 = some 48 by decide +kernel, Option.bind_some, if_pos ⟨by decide, by decide, by decide, by decide⟩]; rfl)
theorem s102_266k16 {ls : LV} {st : List AV} {m : MM} : go 102 266 ls (.inl 16 :: st) m = go 102 268 ls (.inr (.inr (48, some (mC m 48))) :: st) (al m 48 16 16) := e_1 d102_266 (Or.inl rfl) (by rw [xi, pI, show lk naL 102 266 = some 48 by decide +kernel, Option.bind_some, if_pos ⟨by decide, by decide, by decide, by decide⟩]; rfl)
theorem s102_266k32 {ls : LV} {st : List AV} {m : MM} : go 102 266 ls (.inl 32 :: st) m = go 102 268 ls (.inr (.inr (48, some (mC m 48))) :: st) (al m 48 32 32) := e_1 d102_266 (Or.inl rfl) (by rw [xi, pI, show lk naL 102 266 = some 48 by decide +kernel, Option.bind_some, if_pos ⟨by decide, by decide, by decide, by decide⟩]; rfl)
theorem s102_266k160 {ls : LV} {st : List AV} {m : MM} : go 102 266 ls (.inl 160 :: st) m = go 102 268 ls (.inr (.inr (48, some (mC m 48))) :: st) (al m 48 160 160) := e_1 d102_266 (Or.inl rfl) (by rw [xi, pI, show lk naL 102 266 = some 48 by decide +kernel, Option.bind_some, if_pos ⟨by decide, by decide, by decide, by decide⟩]; rfl)
theorem s102_266k288 {ls : LV} {st : List AV} {m : MM} : go 102 266 ls (.inl 288 :: st) m = go 102 268 ls (.inr (.inr (48, some (mC m 48))) :: st) (al m 48 288 288) := e_1 d102_266 (Or.inl rfl) (by rw [xi, pI, show lk naL 102 266 = some 48 by decide +kernel, Option.bind_some, if_pos ⟨by decide, by decide, by decide, by decide⟩]; rfl)
theorem s102_266k512 {ls : LV} {st : List AV} {m : MM} : go 102 266 ls (.inl 512 :: st) m = go 102 268 ls (.inr (.inr (48, some (mC m 48))) :: st) (al m 48 512 512) := e_1 d102_266 (Or.inl rfl) (by rw [xi, pI, show lk naL 102 266 = some 48 by decide +kernel, Option.bind_some, if_pos ⟨by decide, by decide, by decide, by decide⟩]; rfl)
theorem s102_266k600 {ls : LV} {st : List AV} {m : MM} : go 102 266 ls (.inl 600 :: st) m = go 102 268 ls (.inr (.inr (48, some (mC m 48))) :: st) (al m 48 600 600) := e_1 d102_266 (Or.inl rfl) (by rw [xi, pI, show lk naL 102 266 = some 48 by decide +kernel, Option.bind_some, if_pos ⟨by decide, by decide, by decide, by decide⟩]; rfl)
theorem s102_266k6400 {ls : LV} {st : List AV} {m : MM} : go 102 266 ls (.inl 6400 :: st) m = go 102 268 ls (.inr (.inr (48, some (mC m 48))) :: st) (al m 48 6400 6400) := e_1 d102_266 (Or.inl rfl) (by rw [xi, pI, show lk naL 102 266 = some 48 by decide +kernel, Option.bind_some, if_pos ⟨by decide, by decide, by decide, by decide⟩]; rfl)
theorem d102_268 : decode (mt 102).2.1 268 = .ok (.putfield 103, 3) := by decide +kernel
theorem s102_268r {ls : LV} {st : List AV} {m : MM} {n : Nat} {p : Option Nat} : go 102 268 ls (.inr (.inr (48, p)) :: .inr (.inr (8, some n)) :: st) m = go 102 271 ls st (sR m 8 n 36 p) := e_put (r := 8) (f := 36) d102_268 (by decide +kernel) (by simp [fc, tk, ek, ekL, fk, fkL]) (by decide +kernel)
theorem s102_268n {ls : LV} {st : List AV} {m : MM} {n w : Nat} : go 102 268 ls (.inr (.inr (w, none)) :: .inr (.inr (8, some n)) :: st) m = go 102 271 ls st (sR m 8 n 36 none) := e_put (r := 8) (f := 36) d102_268 (by decide +kernel) (by simp [fc, tk, ek, ekL, fk, fkL]) (by decide +kernel)
theorem d102_271 : decode (mt 102).2.1 271 = .ok (.aload_n 0, 1) := by decide +kernel
theorem s102_271 {st : List AV} {m : MM} {x : Nat × Option Nat} : go 102 271 [some (.inr (.inr x))] st m = go 102 272 [some (.inr (.inr x))] (.inr (.inr x) :: st) m := e_1 d102_271 (Or.inl rfl) rfl
theorem d102_272 : decode (mt 102).2.1 272 = .ok (.sipush 600, 3) := by decide +kernel
theorem s102_272 {ls : LV} {st : List AV} {m : MM} : go 102 272 ls st m = go 102 275 ls (.inl 600 :: st) m := e_1 d102_272 (Or.inl rfl) rfl
theorem d102_275 : decode (mt 102).2.1 275 = .ok (.newarray .int, 2) := by decide +kernel
theorem s102_275k1 {ls : LV} {st : List AV} {m : MM} : go 102 275 ls (.inl 1 :: st) m = go 102 277 ls (.inr (.inr (49, some (mC m 49))) :: st) (al m 49 1 1) := e_1 d102_275 (Or.inl rfl) (by rw [xi, pI, show lk naL 102 275 = some 49 by decide +kernel, Option.bind_some, if_pos ⟨by decide, by decide, by decide, by decide⟩]; rfl)
theorem s102_275k16 {ls : LV} {st : List AV} {m : MM} : go 102 275 ls (.inl 16 :: st) m = go 102 277 ls (.inr (.inr (49, some (mC m 49))) :: st) (al m 49 16 16) := e_1 d102_275 (Or.inl rfl) (by rw [xi, pI, show lk naL 102 275 = some 49 by decide +kernel, Option.bind_some, if_pos ⟨by decide, by decide, by decide, by decide⟩]; rfl)
theorem s102_275k32 {ls : LV} {st : List AV} {m : MM} : go 102 275 ls (.inl 32 :: st) m = go 102 277 ls (.inr (.inr (49, some (mC m 49))) :: st) (al m 49 32 32) := e_1 d102_275 (Or.inl rfl) (by rw [xi, pI, show lk naL 102 275 = some 49 by decide +kernel, Option.bind_some, if_pos ⟨by decide, by decide, by decide, by decide⟩]; rfl)
theorem s102_275k160 {ls : LV} {st : List AV} {m : MM} : go 102 275 ls (.inl 160 :: st) m = go 102 277 ls (.inr (.inr (49, some (mC m 49))) :: st) (al m 49 160 160) := e_1 d102_275 (Or.inl rfl) (by rw [xi, pI, show lk naL 102 275 = some 49 by decide +kernel, Option.bind_some, if_pos ⟨by decide, by decide, by decide, by decide⟩]; rfl)
theorem s102_275k288 {ls : LV} {st : List AV} {m : MM} : go 102 275 ls (.inl 288 :: st) m = go 102 277 ls (.inr (.inr (49, some (mC m 49))) :: st) (al m 49 288 288) := e_1 d102_275 (Or.inl rfl) (by rw [xi, pI, show lk naL 102 275 = some 49 by decide +kernel, Option.bind_some, if_pos ⟨by decide, by decide, by decide, by decide⟩]; rfl)
theorem s102_275k512 {ls : LV} {st : List AV} {m : MM} : go 102 275 ls (.inl 512 :: st) m = go 102 277 ls (.inr (.inr (49, some (mC m 49))) :: st) (al m 49 512 512) := e_1 d102_275 (Or.inl rfl) (by rw [xi, pI, show lk naL 102 275 = some 49 by decide +kernel, Option.bind_some, if_pos ⟨by decide, by decide, by decide, by decide⟩]; rfl)
theorem s102_275k600 {ls : LV} {st : List AV} {m : MM} : go 102 275 ls (.inl 600 :: st) m = go 102 277 ls (.inr (.inr (49, some (mC m 49))) :: st) (al m 49 600 600) := e_1 d102_275 (Or.inl rfl) (by rw [xi, pI, show lk naL 102 275 = some 49 by decide +kernel, Option.bind_some, if_pos ⟨by decide, by decide, by decide, by decide⟩]; rfl)
theorem s102_275k6400 {ls : LV} {st : List AV} {m : MM} : go 102 275 ls (.inl 6400 :: st) m = go 102 277 ls (.inr (.inr (49, some (mC m 49))) :: st) (al m 49 6400 6400) := e_1 d102_275 (Or.inl rfl) (by rw [xi, pI, show lk naL 102 275 = some 49 by decide +kernel, Option.bind_some, if_pos ⟨by decide, by decide, by decide, by decide⟩]; rfl)
theorem d102_277 : decode (mt 102).2.1 277 = .ok (.putfield 106, 3) := by decide +kernel
theorem s102_277r {ls : LV} {st : List AV} {m : MM} {n : Nat} {p : Option Nat} : go 102 277 ls (.inr (.inr (49, p)) :: .inr (.inr (8, some n)) :: st) m = go 102 280 ls st (sR m 8 n 37 p) := e_put (r := 8) (f := 37) d102_277 (by decide +kernel) (by simp [fc, tk, ek, ekL, fk, fkL]) (by decide +kernel)
theorem s102_277n {ls : LV} {st : List AV} {m : MM} {n w : Nat} : go 102 277 ls (.inr (.inr (w, none)) :: .inr (.inr (8, some n)) :: st) m = go 102 280 ls st (sR m 8 n 37 none) := e_put (r := 8) (f := 37) d102_277 (by decide +kernel) (by simp [fc, tk, ek, ekL, fk, fkL]) (by decide +kernel)
theorem d102_280 : decode (mt 102).2.1 280 = .ok (.aload_n 0, 1) := by decide +kernel
theorem s102_280 {st : List AV} {m : MM} {x : Nat × Option Nat} : go 102 280 [some (.inr (.inr x))] st m = go 102 281 [some (.inr (.inr x))] (.inr (.inr x) :: st) m := e_1 d102_280 (Or.inl rfl) rfl
theorem d102_281 : decode (mt 102).2.1 281 = .ok (.bipush 16, 2) := by decide +kernel
theorem s102_281 {ls : LV} {st : List AV} {m : MM} : go 102 281 ls st m = go 102 283 ls (.inl 16 :: st) m := e_1 d102_281 (Or.inl rfl) rfl
theorem d102_283 : decode (mt 102).2.1 283 = .ok (.newarray .int, 2) := by decide +kernel
theorem s102_283k1 {ls : LV} {st : List AV} {m : MM} : go 102 283 ls (.inl 1 :: st) m = go 102 285 ls (.inr (.inr (50, some (mC m 50))) :: st) (al m 50 1 1) := e_1 d102_283 (Or.inl rfl) (by rw [xi, pI, show lk naL 102 283 = some 50 by decide +kernel, Option.bind_some, if_pos ⟨by decide, by decide, by decide, by decide⟩]; rfl)
theorem s102_283k16 {ls : LV} {st : List AV} {m : MM} : go 102 283 ls (.inl 16 :: st) m = go 102 285 ls (.inr (.inr (50, some (mC m 50))) :: st) (al m 50 16 16) := e_1 d102_283 (Or.inl rfl) (by rw [xi, pI, show lk naL 102 283 = some 50 by decide +kernel, Option.bind_some, if_pos ⟨by decide, by decide, by decide, by decide⟩]; rfl)
theorem s102_283k32 {ls : LV} {st : List AV} {m : MM} : go 102 283 ls (.inl 32 :: st) m = go 102 285 ls (.inr (.inr (50, some (mC m 50))) :: st) (al m 50 32 32) := e_1 d102_283 (Or.inl rfl) (by rw [xi, pI, show lk naL 102 283 = some 50 by decide +kernel, Option.bind_some, if_pos ⟨by decide, by decide, by decide, by decide⟩]; rfl)
theorem s102_283k160 {ls : LV} {st : List AV} {m : MM} : go 102 283 ls (.inl 160 :: st) m = go 102 285 ls (.inr (.inr (50, some (mC m 50))) :: st) (al m 50 160 160) := e_1 d102_283 (Or.inl rfl) (by rw [xi, pI, show lk naL 102 283 = some 50 by decide +kernel, Option.bind_some, if_pos ⟨by decide, by decide, by decide, by decide⟩]; rfl)
theorem s102_283k288 {ls : LV} {st : List AV} {m : MM} : go 102 283 ls (.inl 288 :: st) m = go 102 285 ls (.inr (.inr (50, some (mC m 50))) :: st) (al m 50 288 288) := e_1 d102_283 (Or.inl rfl) (by rw [xi, pI, show lk naL 102 283 = some 50 by decide +kernel, Option.bind_some, if_pos ⟨by decide, by decide, by decide, by decide⟩]; rfl)
theorem s102_283k512 {ls : LV} {st : List AV} {m : MM} : go 102 283 ls (.inl 512 :: st) m = go 102 285 ls (.inr (.inr (50, some (mC m 50))) :: st) (al m 50 512 512) := e_1 d102_283 (Or.inl rfl) (by rw [xi, pI, show lk naL 102 283 = some 50 by decide +kernel, Option.bind_some, if_pos ⟨by decide, by decide, by decide, by decide⟩]; rfl)
theorem s102_283k600 {ls : LV} {st : List AV} {m : MM} : go 102 283 ls (.inl 600 :: st) m = go 102 285 ls (.inr (.inr (50, some (mC m 50))) :: st) (al m 50 600 600) := e_1 d102_283 (Or.inl rfl) (by rw [xi, pI, show lk naL 102 283 = some 50 by decide +kernel, Option.bind_some, if_pos ⟨by decide, by decide, by decide, by decide⟩]; rfl)
theorem s102_283k6400 {ls : LV} {st : List AV} {m : MM} : go 102 283 ls (.inl 6400 :: st) m = go 102 285 ls (.inr (.inr (50, some (mC m 50))) :: st) (al m 50 6400 6400) := e_1 d102_283 (Or.inl rfl) (by rw [xi, pI, show lk naL 102 283 = some 50 by decide +kernel, Option.bind_some, if_pos ⟨by decide, by decide, by decide, by decide⟩]; rfl)
theorem d102_285 : decode (mt 102).2.1 285 = .ok (.putfield 109, 3) := by decide +kernel
theorem s102_285r {ls : LV} {st : List AV} {m : MM} {n : Nat} {p : Option Nat} : go 102 285 ls (.inr (.inr (50, p)) :: .inr (.inr (8, some n)) :: st) m = go 102 288 ls st (sR m 8 n 39 p) := e_put (r := 8) (f := 39) d102_285 (by decide +kernel) (by simp [fc, tk, ek, ekL, fk, fkL]) (by decide +kernel)
theorem s102_285n {ls : LV} {st : List AV} {m : MM} {n w : Nat} : go 102 285 ls (.inr (.inr (w, none)) :: .inr (.inr (8, some n)) :: st) m = go 102 288 ls st (sR m 8 n 39 none) := e_put (r := 8) (f := 39) d102_285 (by decide +kernel) (by simp [fc, tk, ek, ekL, fk, fkL]) (by decide +kernel)
theorem d102_288 : decode (mt 102).2.1 288 = .ok (.aload_n 0, 1) := by decide +kernel
theorem s102_288 {st : List AV} {m : MM} {x : Nat × Option Nat} : go 102 288 [some (.inr (.inr x))] st m = go 102 289 [some (.inr (.inr x))] (.inr (.inr x) :: st) m := e_1 d102_288 (Or.inl rfl) rfl
theorem d102_289 : decode (mt 102).2.1 289 = .ok (.bipush 16, 2) := by decide +kernel
theorem s102_289 {ls : LV} {st : List AV} {m : MM} : go 102 289 ls st m = go 102 291 ls (.inl 16 :: st) m := e_1 d102_289 (Or.inl rfl) rfl
theorem d102_291 : decode (mt 102).2.1 291 = .ok (.newarray .long, 2) := by decide +kernel
theorem s102_291k1 {ls : LV} {st : List AV} {m : MM} : go 102 291 ls (.inl 1 :: st) m = go 102 293 ls (.inr (.inr (51, some (mC m 51))) :: st) (al m 51 1 1) := e_1 d102_291 (Or.inl rfl) (by rw [xi, pI, show lk naL 102 291 = some 51 by decide +kernel, Option.bind_some, if_pos ⟨by decide, by decide, by decide, by decide⟩]; rfl)
theorem s102_291k16 {ls : LV} {st : List AV} {m : MM} : go 102 291 ls (.inl 16 :: st) m = go 102 293 ls (.inr (.inr (51, some (mC m 51))) :: st) (al m 51 16 16) := e_1 d102_291 (Or.inl rfl) (by rw [xi, pI, show lk naL 102 291 = some 51 by decide +kernel, Option.bind_some, if_pos ⟨by decide, by decide, by decide, by decide⟩]; rfl)
theorem s102_291k32 {ls : LV} {st : List AV} {m : MM} : go 102 291 ls (.inl 32 :: st) m = go 102 293 ls (.inr (.inr (51, some (mC m 51))) :: st) (al m 51 32 32) := e_1 d102_291 (Or.inl rfl) (by rw [xi, pI, show lk naL 102 291 = some 51 by decide +kernel, Option.bind_some, if_pos ⟨by decide, by decide, by decide, by decide⟩]; rfl)
theorem s102_291k160 {ls : LV} {st : List AV} {m : MM} : go 102 291 ls (.inl 160 :: st) m = go 102 293 ls (.inr (.inr (51, some (mC m 51))) :: st) (al m 51 160 160) := e_1 d102_291 (Or.inl rfl) (by rw [xi, pI, show lk naL 102 291 = some 51 by decide +kernel, Option.bind_some, if_pos ⟨by decide, by decide, by decide, by decide⟩]; rfl)
theorem s102_291k288 {ls : LV} {st : List AV} {m : MM} : go 102 291 ls (.inl 288 :: st) m = go 102 293 ls (.inr (.inr (51, some (mC m 51))) :: st) (al m 51 288 288) := e_1 d102_291 (Or.inl rfl) (by rw [xi, pI, show lk naL 102 291 = some 51 by decide +kernel, Option.bind_some, if_pos ⟨by decide, by decide, by decide, by decide⟩]; rfl)
theorem s102_291k512 {ls : LV} {st : List AV} {m : MM} : go 102 291 ls (.inl 512 :: st) m = go 102 293 ls (.inr (.inr (51, some (mC m 51))) :: st) (al m 51 512 512) := e_1 d102_291 (Or.inl rfl) (by rw [xi, pI, show lk naL 102 291 = some 51 by decide +kernel, Option.bind_some, if_pos ⟨by decide, by decide, by decide, by decide⟩]; rfl)
theorem s102_291k600 {ls : LV} {st : List AV} {m : MM} : go 102 291 ls (.inl 600 :: st) m = go 102 293 ls (.inr (.inr (51, some (mC m 51))) :: st) (al m 51 600 600) := e_1 d102_291 (Or.inl rfl) (by rw [xi, pI, show lk naL 102 291 = some 51 by decide +kernel, Option.bind_some, if_pos ⟨by decide, by decide, by decide, by decide⟩]; rfl)
theorem s102_291k6400 {ls : LV} {st : List AV} {m : MM} : go 102 291 ls (.inl 6400 :: st) m = go 102 293 ls (.inr (.inr (51, some (mC m 51))) :: st) (al m 51 6400 6400) := e_1 d102_291 (Or.inl rfl) (by rw [xi, pI, show lk naL 102 291 = some 51 by decide +kernel, Option.bind_some, if_pos ⟨by decide, by decide, by decide, by decide⟩]; rfl)
theorem d102_293 : decode (mt 102).2.1 293 = .ok (.putfield 112, 3) := by decide +kernel
theorem s102_293r {ls : LV} {st : List AV} {m : MM} {n : Nat} {p : Option Nat} : go 102 293 ls (.inr (.inr (51, p)) :: .inr (.inr (8, some n)) :: st) m = go 102 296 ls st (sR m 8 n 40 p) := e_put (r := 8) (f := 40) d102_293 (by decide +kernel) (by simp [fc, tk, ek, ekL, fk, fkL]) (by decide +kernel)
theorem s102_293n {ls : LV} {st : List AV} {m : MM} {n w : Nat} : go 102 293 ls (.inr (.inr (w, none)) :: .inr (.inr (8, some n)) :: st) m = go 102 296 ls st (sR m 8 n 40 none) := e_put (r := 8) (f := 40) d102_293 (by decide +kernel) (by simp [fc, tk, ek, ekL, fk, fkL]) (by decide +kernel)
theorem d102_296 : decode (mt 102).2.1 296 = .ok (.return_, 1) := by decide +kernel
theorem s102_296 {ls : LV} {m : MM} : go 102 296 ls [] m = some (none, m) := e_void d102_296 (by decide +kernel)
/-! X7_in: 103 -/
theorem d103_0 : decode (mt 103).2.1 0 = .ok (.lload_n 0, 1) := by decide +kernel
theorem s103_0 {a1 a2 a3 a4 a5 : Option AV} {st : List AV} {m : MM} {x : Int64} : go 103 0 [some (.inr (.inl x)), a1, a2, a3, a4, a5] st m = go 103 1 [some (.inr (.inl x)), a1, a2, a3, a4, a5] (.inr (.inl x) :: st) m := e_1 d103_0 (Or.inl rfl) rfl
theorem d103_1 : decode (mt 103).2.1 1 = .ok (.lload_n 2, 1) := by decide +kernel
theorem s103_1 {a0 a1 a3 a4 a5 : Option AV} {st : List AV} {m : MM} {x : Int64} : go 103 1 [a0, a1, some (.inr (.inl x)), a3, a4, a5] st m = go 103 2 [a0, a1, some (.inr (.inl x)), a3, a4, a5] (.inr (.inl x) :: st) m := e_1 d103_1 (Or.inl rfl) rfl
theorem d103_2 : decode (mt 103).2.1 2 = .ok (.lcmp, 1) := by decide +kernel
theorem s103_2 {ls : LV} {st : List AV} {m : MM} {a b : Int64} : go 103 2 ls (.inr (.inl b) :: .inr (.inl a) :: st) m = go 103 3 ls (.inl (lg_cmp a b) :: st) m := e_1 d103_2 (Or.inl rfl) rfl
theorem d103_3 : decode (mt 103).2.1 3 = .ok (.ifCond .lt 14, 3) := by decide +kernel
theorem s103_3 {ls : LV} {st : List AV} {m : MM} {a : Int32} : go 103 3 ls (.inl a :: st) m = if a < 0 then go 103 17 ls st m else go 103 6 ls st m := e_if (t := 17) (b := hc .lt a 0) d103_3 (Or.inl rfl) (by simp only [xi, pI, jm_some (t := 17) (show ((3 : Nat) : Int) + 14 = ((17 : Nat) : Int) by decide), Option.bind_some]) (by simp [hc])
theorem d103_6 : decode (mt 103).2.1 6 = .ok (.lload_n 0, 1) := by decide +kernel
theorem s103_6 {a1 a2 a3 a4 a5 : Option AV} {st : List AV} {m : MM} {x : Int64} : go 103 6 [some (.inr (.inl x)), a1, a2, a3, a4, a5] st m = go 103 7 [some (.inr (.inl x)), a1, a2, a3, a4, a5] (.inr (.inl x) :: st) m := e_1 d103_6 (Or.inl rfl) rfl
theorem d103_7 : decode (mt 103).2.1 7 = .ok (.lload 4, 2) := by decide +kernel
theorem s103_7 {a0 a1 a2 a3 a5 : Option AV} {st : List AV} {m : MM} {x : Int64} : go 103 7 [a0, a1, a2, a3, some (.inr (.inl x)), a5] st m = go 103 9 [a0, a1, a2, a3, some (.inr (.inl x)), a5] (.inr (.inl x) :: st) m := e_1 d103_7 (Or.inl rfl) rfl
theorem d103_9 : decode (mt 103).2.1 9 = .ok (.lcmp, 1) := by decide +kernel
theorem s103_9 {ls : LV} {st : List AV} {m : MM} {a b : Int64} : go 103 9 ls (.inr (.inl b) :: .inr (.inl a) :: st) m = go 103 10 ls (.inl (lg_cmp a b) :: st) m := e_1 d103_9 (Or.inl rfl) rfl
theorem d103_10 : decode (mt 103).2.1 10 = .ok (.ifCond .gt 7, 3) := by decide +kernel
theorem s103_10 {ls : LV} {st : List AV} {m : MM} {a : Int32} : go 103 10 ls (.inl a :: st) m = if 0 < a then go 103 17 ls st m else go 103 13 ls st m := e_if (t := 17) (b := hc .gt a 0) d103_10 (Or.inl rfl) (by simp only [xi, pI, jm_some (t := 17) (show ((10 : Nat) : Int) + 7 = ((17 : Nat) : Int) by decide), Option.bind_some]) (by simp [hc])
theorem d103_13 : decode (mt 103).2.1 13 = .ok (.iconst 1, 1) := by decide +kernel
theorem s103_13 {ls : LV} {st : List AV} {m : MM} : go 103 13 ls st m = go 103 14 ls (.inl 1 :: st) m := e_1 d103_13 (Or.inl rfl) rfl
theorem d103_14 : decode (mt 103).2.1 14 = .ok (.goto 4, 3) := by decide +kernel
theorem s103_14 {ls : LV} {st : List AV} {m : MM} : go 103 14 ls st m = go 103 18 ls st m := e_1 d103_14 (Or.inl rfl) (by rw [xi, jm_some (t := 18) (by decide)]; rfl)
theorem d103_17 : decode (mt 103).2.1 17 = .ok (.iconst 0, 1) := by decide +kernel
theorem s103_17 {ls : LV} {st : List AV} {m : MM} : go 103 17 ls st m = go 103 18 ls (.inl 0 :: st) m := e_1 d103_17 (Or.inl rfl) rfl
theorem d103_18 : decode (mt 103).2.1 18 = .ok (.ireturn, 1) := by decide +kernel
theorem s103_18b0 {ls : LV} {m : MM} : go 103 18 ls [.inl 0] m = some (some (.inl 0), m) := e_bool d103_18 (by decide +kernel) (by decide)
theorem s103_18b1 {ls : LV} {m : MM} : go 103 18 ls [.inl 1] m = some (some (.inl 1), m) := e_bool d103_18 (by decide +kernel) (by decide)
/-! X7_isPeer: 104 -/
theorem d104_0 : decode (mt 104).2.1 0 = .ok (.iload_n 1, 1) := by decide +kernel
theorem s104_0 {a0 : Option AV} {st : List AV} {m : MM} {x : Int32} : go 104 0 [a0, some (.inl x)] st m = go 104 1 [a0, some (.inl x)] (.inl x :: st) m := e_1 d104_0 (Or.inl rfl) rfl
theorem d104_1 : decode (mt 104).2.1 1 = .ok (.i2l, 1) := by decide +kernel
theorem s104_1 {ls : LV} {st : List AV} {m : MM} {a : Int32} : go 104 1 ls (.inl a :: st) m = go 104 2 ls (.inr (.inl a.toInt64) :: st) m := e_1 d104_1 (Or.inl rfl) rfl
theorem d104_2 : decode (mt 104).2.1 2 = .ok (.lconst 0, 1) := by decide +kernel
theorem s104_2 {ls : LV} {st : List AV} {m : MM} : go 104 2 ls st m = go 104 3 ls (.inr (.inl 0) :: st) m := e_1 d104_2 (Or.inl rfl) rfl
theorem d104_3 : decode (mt 104).2.1 3 = .ok (.aload_n 0, 1) := by decide +kernel
theorem s104_3 {a1 : Option AV} {st : List AV} {m : MM} {x : Nat × Option Nat} : go 104 3 [some (.inr (.inr x)), a1] st m = go 104 4 [some (.inr (.inr x)), a1] (.inr (.inr x) :: st) m := e_1 d104_3 (Or.inl rfl) rfl
theorem d104_4 : decode (mt 104).2.1 4 = .ok (.getfield 115, 3) := by decide +kernel
theorem s104_4 {ls : LV} {st : List AV} {m : MM} {n : Nat} : go 104 4 ls (.inr (.inr (8, some n)) :: st) m = go 104 7 ls (.inl (mI m 8 n 0) :: st) m := e_1 d104_4 (Or.inl rfl) (by rw [xi, pA, show lk fdL (mt 104).2.2.1 115 = some (8, 0) by decide +kernel]; rfl)
theorem d104_7 : decode (mt 104).2.1 7 = .ok (.iconst 1, 1) := by decide +kernel
theorem s104_7 {ls : LV} {st : List AV} {m : MM} : go 104 7 ls st m = go 104 8 ls (.inl 1 :: st) m := e_1 d104_7 (Or.inl rfl) rfl
theorem d104_8 : decode (mt 104).2.1 8 = .ok (.isub, 1) := by decide +kernel
theorem s104_8 {ls : LV} {st : List AV} {m : MM} {a b : Int32} : go 104 8 ls (.inl b :: .inl a :: st) m = go 104 9 ls (.inl (a - b) :: st) m := e_1 d104_8 (Or.inl rfl) rfl
theorem d104_9 : decode (mt 104).2.1 9 = .ok (.i2l, 1) := by decide +kernel
theorem s104_9 {ls : LV} {st : List AV} {m : MM} {a : Int32} : go 104 9 ls (.inl a :: st) m = go 104 10 ls (.inr (.inl a.toInt64) :: st) m := e_1 d104_9 (Or.inl rfl) rfl
theorem d104_10 : decode (mt 104).2.1 10 = .ok (.invokestatic 118, 3) := by decide +kernel
theorem s104_10 {ls : LV} {m : MM} {x0 : Int64} {x1 : Int64} {x2 : Int64} : go 104 10 ls [.inr (.inl x2), .inr (.inl x1), .inr (.inl x0)] m = bd (go 103 0 [some (.inr (.inl x0)), none, some (.inr (.inl x1)), none, some (.inr (.inl x2)), none] [] m) (fun v m2 => go 104 13 ls (v.toList ++ []) m2) := e_stat (y1 := 103) (na := 3) (as := [.inr (.inl x0), .inr (.inl x1), .inr (.inl x2)]) (rest := []) d104_10 (by decide +kernel) rfl (by decide +kernel) (show (ent [.inr (.inl x0), .inr (.inl x1), .inr (.inl x2)]).length ≤ (mt 103).2.2.2.1 from Nat.le_of_ble_eq_true rfl) (cats_le (Nat.le_of_ble_eq_true rfl)) (by decide +kernel)
theorem d104_13 : decode (mt 104).2.1 13 = .ok (.ireturn, 1) := by decide +kernel
theorem s104_13b0 {ls : LV} {m : MM} : go 104 13 ls [.inl 0] m = some (some (.inl 0), m) := e_bool d104_13 (by decide +kernel) (by decide)
theorem s104_13b1 {ls : LV} {m : MM} : go 104 13 ls [.inl 1] m = some (some (.inl 1), m) := e_bool d104_13 (by decide +kernel) (by decide)
/-! X7_isName: 105 -/
theorem d105_0 : decode (mt 105).2.1 0 = .ok (.iconst 0, 1) := by decide +kernel
theorem s105_0 {ls : LV} {st : List AV} {m : MM} : go 105 0 ls st m = go 105 1 ls (.inl 0 :: st) m := e_1 d105_0 (Or.inl rfl) rfl
theorem d105_1 : decode (mt 105).2.1 1 = .ok (.istore_n 2, 1) := by decide +kernel
theorem s105_1i {a0 a2 a3 : Option AV} {z : Int32} {st : List AV} {m : MM} {x : Int32} : go 105 1 [a0, some (.inl z), a2, a3] (.inl x :: st) m = go 105 2 [a0, some (.inl z), some (.inl x), a3] st m := e_1 d105_1 (Or.inl rfl) rfl
theorem s105_1r {a0 a2 a3 : Option AV} {z : Nat × Option Nat} {st : List AV} {m : MM} {x : Int32} : go 105 1 [a0, some (.inr (.inr z)), a2, a3] (.inl x :: st) m = go 105 2 [a0, some (.inr (.inr z)), some (.inl x), a3] st m := e_1 d105_1 (Or.inl rfl) rfl
theorem s105_1n {a0 a2 a3 : Option AV} {st : List AV} {m : MM} {x : Int32} : go 105 1 [a0, none, a2, a3] (.inl x :: st) m = go 105 2 [a0, none, some (.inl x), a3] st m := e_1 d105_1 (Or.inl rfl) rfl
theorem d105_2 : decode (mt 105).2.1 2 = .ok (.iconst 0, 1) := by decide +kernel
theorem s105_2 {ls : LV} {st : List AV} {m : MM} : go 105 2 ls st m = go 105 3 ls (.inl 0 :: st) m := e_1 d105_2 (Or.inl rfl) rfl
theorem d105_3 : decode (mt 105).2.1 3 = .ok (.istore_n 3, 1) := by decide +kernel
theorem s105_3i {a0 a1 a3 : Option AV} {z : Int32} {st : List AV} {m : MM} {x : Int32} : go 105 3 [a0, a1, some (.inl z), a3] (.inl x :: st) m = go 105 4 [a0, a1, some (.inl z), some (.inl x)] st m := e_1 d105_3 (Or.inl rfl) rfl
theorem s105_3r {a0 a1 a3 : Option AV} {z : Nat × Option Nat} {st : List AV} {m : MM} {x : Int32} : go 105 3 [a0, a1, some (.inr (.inr z)), a3] (.inl x :: st) m = go 105 4 [a0, a1, some (.inr (.inr z)), some (.inl x)] st m := e_1 d105_3 (Or.inl rfl) rfl
theorem s105_3n {a0 a1 a3 : Option AV} {st : List AV} {m : MM} {x : Int32} : go 105 3 [a0, a1, none, a3] (.inl x :: st) m = go 105 4 [a0, a1, none, some (.inl x)] st m := e_1 d105_3 (Or.inl rfl) rfl
theorem d105_4 : decode (mt 105).2.1 4 = .ok (.iload_n 3, 1) := by decide +kernel
theorem s105_4 {a0 a1 a2 : Option AV} {st : List AV} {m : MM} {x : Int32} : go 105 4 [a0, a1, a2, some (.inl x)] st m = go 105 5 [a0, a1, a2, some (.inl x)] (.inl x :: st) m := e_1 d105_4 (Or.inl rfl) rfl
theorem d105_5 : decode (mt 105).2.1 5 = .ok (.aload_n 0, 1) := by decide +kernel
theorem s105_5 {a1 a2 a3 : Option AV} {st : List AV} {m : MM} {x : Nat × Option Nat} : go 105 5 [some (.inr (.inr x)), a1, a2, a3] st m = go 105 6 [some (.inr (.inr x)), a1, a2, a3] (.inr (.inr x) :: st) m := e_1 d105_5 (Or.inl rfl) rfl
theorem d105_6 : decode (mt 105).2.1 6 = .ok (.getfield 115, 3) := by decide +kernel
theorem s105_6 {ls : LV} {st : List AV} {m : MM} {n : Nat} : go 105 6 ls (.inr (.inr (8, some n)) :: st) m = go 105 9 ls (.inl (mI m 8 n 0) :: st) m := e_1 d105_6 (Or.inl rfl) (by rw [xi, pA, show lk fdL (mt 105).2.2.1 115 = some (8, 0) by decide +kernel]; rfl)
theorem d105_9 : decode (mt 105).2.1 9 = .ok (.if_icmp .ge 29, 3) := by decide +kernel
theorem s105_9 {ls : LV} {st : List AV} {m : MM} {a b : Int32} : go 105 9 ls (.inl b :: .inl a :: st) m = if b ≤ a then go 105 38 ls st m else go 105 12 ls st m := e_if (t := 38) (b := hc .ge a b) d105_9 (Or.inl rfl) (by simp only [xi, pI, jm_some (t := 38) (show ((9 : Nat) : Int) + 29 = ((38 : Nat) : Int) by decide), Option.bind_some]) (by simp [hc])
theorem d105_12 : decode (mt 105).2.1 12 = .ok (.iload_n 2, 1) := by decide +kernel
theorem s105_12 {a0 a1 a3 : Option AV} {st : List AV} {m : MM} {x : Int32} : go 105 12 [a0, a1, some (.inl x), a3] st m = go 105 13 [a0, a1, some (.inl x), a3] (.inl x :: st) m := e_1 d105_12 (Or.inl rfl) rfl
theorem d105_13 : decode (mt 105).2.1 13 = .ok (.ifCond .ne 13, 3) := by decide +kernel
theorem s105_13 {ls : LV} {st : List AV} {m : MM} {a : Int32} : go 105 13 ls (.inl a :: st) m = if ¬ a = 0 then go 105 26 ls st m else go 105 16 ls st m := e_if (t := 26) (b := hc .ne a 0) d105_13 (Or.inl rfl) (by simp only [xi, pI, jm_some (t := 26) (show ((13 : Nat) : Int) + 13 = ((26 : Nat) : Int) by decide), Option.bind_some]) (by simp [hc])
theorem d105_16 : decode (mt 105).2.1 16 = .ok (.aload_n 0, 1) := by decide +kernel
theorem s105_16 {a1 a2 a3 : Option AV} {st : List AV} {m : MM} {x : Nat × Option Nat} : go 105 16 [some (.inr (.inr x)), a1, a2, a3] st m = go 105 17 [some (.inr (.inr x)), a1, a2, a3] (.inr (.inr x) :: st) m := e_1 d105_16 (Or.inl rfl) rfl
theorem d105_17 : decode (mt 105).2.1 17 = .ok (.getfield 13, 3) := by decide +kernel
theorem s105_17 {ls : LV} {st : List AV} {m : MM} {n : Nat} : go 105 17 ls (.inr (.inr (8, some n)) :: st) m = go 105 20 ls (.inr (.inr (19, mR m 8 n 2)) :: st) m := e_1 d105_17 (Or.inl rfl) (by rw [xi, pA, show lk fdL (mt 105).2.2.1 13 = some (8, 2) by decide +kernel]; rfl)
theorem d105_20 : decode (mt 105).2.1 20 = .ok (.iload_n 3, 1) := by decide +kernel
theorem s105_20 {a0 a1 a2 : Option AV} {st : List AV} {m : MM} {x : Int32} : go 105 20 [a0, a1, a2, some (.inl x)] st m = go 105 21 [a0, a1, a2, some (.inl x)] (.inl x :: st) m := e_1 d105_20 (Or.inl rfl) rfl
theorem d105_21 : decode (mt 105).2.1 21 = .ok (.iaload, 1) := by decide +kernel
theorem s105_21 {ls : LV} {st : List AV} {m : MM} {n : Nat} {i : Int32} : go 105 21 ls (.inl i :: .inr (.inr (19, some n)) :: st) m = ixk (ix i (mN m 19 n)) (fun j => go 105 22 ls (.inl (mI m 19 n j) :: st) m) := e_ald d105_21 (fun j hj => by simp only [xi, pI, pA, hj, Option.bind_some]; rfl) (fun hj => by simp only [xi, pI, pA, hj, Option.bind_none])
theorem d105_22 : decode (mt 105).2.1 22 = .ok (.iload_n 1, 1) := by decide +kernel
theorem s105_22 {a0 a2 a3 : Option AV} {st : List AV} {m : MM} {x : Int32} : go 105 22 [a0, some (.inl x), a2, a3] st m = go 105 23 [a0, some (.inl x), a2, a3] (.inl x :: st) m := e_1 d105_22 (Or.inl rfl) rfl
theorem d105_23 : decode (mt 105).2.1 23 = .ok (.if_icmp .ne 7, 3) := by decide +kernel
theorem s105_23 {ls : LV} {st : List AV} {m : MM} {a b : Int32} : go 105 23 ls (.inl b :: .inl a :: st) m = if ¬ a = b then go 105 30 ls st m else go 105 26 ls st m := e_if (t := 30) (b := hc .ne a b) d105_23 (Or.inl rfl) (by simp only [xi, pI, jm_some (t := 30) (show ((23 : Nat) : Int) + 7 = ((30 : Nat) : Int) by decide), Option.bind_some]) (by simp [hc])
theorem d105_26 : decode (mt 105).2.1 26 = .ok (.iconst 1, 1) := by decide +kernel
theorem s105_26 {ls : LV} {st : List AV} {m : MM} : go 105 26 ls st m = go 105 27 ls (.inl 1 :: st) m := e_1 d105_26 (Or.inl rfl) rfl
theorem d105_27 : decode (mt 105).2.1 27 = .ok (.goto 4, 3) := by decide +kernel
theorem s105_27 {ls : LV} {st : List AV} {m : MM} : go 105 27 ls st m = go 105 31 ls st m := e_1 d105_27 (Or.inl rfl) (by rw [xi, jm_some (t := 31) (by decide)]; rfl)
theorem d105_30 : decode (mt 105).2.1 30 = .ok (.iconst 0, 1) := by decide +kernel
theorem s105_30 {ls : LV} {st : List AV} {m : MM} : go 105 30 ls st m = go 105 31 ls (.inl 0 :: st) m := e_1 d105_30 (Or.inl rfl) rfl
theorem d105_31 : decode (mt 105).2.1 31 = .ok (.istore_n 2, 1) := by decide +kernel
theorem s105_31i {a0 a2 a3 : Option AV} {z : Int32} {st : List AV} {m : MM} {x : Int32} : go 105 31 [a0, some (.inl z), a2, a3] (.inl x :: st) m = go 105 32 [a0, some (.inl z), some (.inl x), a3] st m := e_1 d105_31 (Or.inl rfl) rfl
theorem s105_31r {a0 a2 a3 : Option AV} {z : Nat × Option Nat} {st : List AV} {m : MM} {x : Int32} : go 105 31 [a0, some (.inr (.inr z)), a2, a3] (.inl x :: st) m = go 105 32 [a0, some (.inr (.inr z)), some (.inl x), a3] st m := e_1 d105_31 (Or.inl rfl) rfl
theorem s105_31n {a0 a2 a3 : Option AV} {st : List AV} {m : MM} {x : Int32} : go 105 31 [a0, none, a2, a3] (.inl x :: st) m = go 105 32 [a0, none, some (.inl x), a3] st m := e_1 d105_31 (Or.inl rfl) rfl
theorem d105_32 : decode (mt 105).2.1 32 = .ok (.iinc 3 1, 3) := by decide +kernel
theorem s105_32i {a0 a1 : Option AV} {z : Int32} {st : List AV} {m : MM} {x : Int32} : go 105 32 [a0, a1, some (.inl z), some (.inl x)] st m = go 105 35 [a0, a1, some (.inl z), some (.inl (x + 1))] st m := e_1 d105_32 (Or.inl rfl) rfl
theorem s105_32r {a0 a1 : Option AV} {z : Nat × Option Nat} {st : List AV} {m : MM} {x : Int32} : go 105 32 [a0, a1, some (.inr (.inr z)), some (.inl x)] st m = go 105 35 [a0, a1, some (.inr (.inr z)), some (.inl (x + 1))] st m := e_1 d105_32 (Or.inl rfl) rfl
theorem s105_32n {a0 a1 : Option AV} {st : List AV} {m : MM} {x : Int32} : go 105 32 [a0, a1, none, some (.inl x)] st m = go 105 35 [a0, a1, none, some (.inl (x + 1))] st m := e_1 d105_32 (Or.inl rfl) rfl
theorem d105_35 : decode (mt 105).2.1 35 = .ok (.goto (-31), 3) := by decide +kernel
theorem s105_35 {ls : LV} {st : List AV} {m : MM} : go 105 35 ls st m = go 105 4 ls st m := e_1 d105_35 (Or.inl rfl) (by rw [xi, jm_some (t := 4) (by decide)]; rfl)
theorem d105_38 : decode (mt 105).2.1 38 = .ok (.iload_n 2, 1) := by decide +kernel
theorem s105_38 {a0 a1 a3 : Option AV} {st : List AV} {m : MM} {x : Int32} : go 105 38 [a0, a1, some (.inl x), a3] st m = go 105 39 [a0, a1, some (.inl x), a3] (.inl x :: st) m := e_1 d105_38 (Or.inl rfl) rfl
theorem d105_39 : decode (mt 105).2.1 39 = .ok (.ireturn, 1) := by decide +kernel
theorem s105_39b0 {ls : LV} {m : MM} : go 105 39 ls [.inl 0] m = some (some (.inl 0), m) := e_bool d105_39 (by decide +kernel) (by decide)
theorem s105_39b1 {ls : LV} {m : MM} : go 105 39 ls [.inl 1] m = some (some (.inl 1), m) := e_bool d105_39 (by decide +kernel) (by decide)
/-! X7_made: 106 -/
theorem d106_0 : decode (mt 106).2.1 0 = .ok (.aload_n 0, 1) := by decide +kernel
theorem s106_0 {a1 a2 a3 : Option AV} {st : List AV} {m : MM} {x : Nat × Option Nat} : go 106 0 [some (.inr (.inr x)), a1, a2, a3] st m = go 106 1 [some (.inr (.inr x)), a1, a2, a3] (.inr (.inr x) :: st) m := e_1 d106_0 (Or.inl rfl) rfl
theorem d106_1 : decode (mt 106).2.1 1 = .ok (.getfield 115, 3) := by decide +kernel
theorem s106_1 {ls : LV} {st : List AV} {m : MM} {n : Nat} : go 106 1 ls (.inr (.inr (8, some n)) :: st) m = go 106 4 ls (.inl (mI m 8 n 0) :: st) m := e_1 d106_1 (Or.inl rfl) (by rw [xi, pA, show lk fdL (mt 106).2.2.1 115 = some (8, 0) by decide +kernel]; rfl)
theorem d106_4 : decode (mt 106).2.1 4 = .ok (.istore_n 3, 1) := by decide +kernel
theorem s106_4i {a0 a1 a3 : Option AV} {z : Int32} {st : List AV} {m : MM} {x : Int32} : go 106 4 [a0, a1, some (.inl z), a3] (.inl x :: st) m = go 106 5 [a0, a1, some (.inl z), some (.inl x)] st m := e_1 d106_4 (Or.inl rfl) rfl
theorem s106_4r {a0 a1 a3 : Option AV} {z : Nat × Option Nat} {st : List AV} {m : MM} {x : Int32} : go 106 4 [a0, a1, some (.inr (.inr z)), a3] (.inl x :: st) m = go 106 5 [a0, a1, some (.inr (.inr z)), some (.inl x)] st m := e_1 d106_4 (Or.inl rfl) rfl
theorem s106_4n {a0 a1 a3 : Option AV} {st : List AV} {m : MM} {x : Int32} : go 106 4 [a0, a1, none, a3] (.inl x :: st) m = go 106 5 [a0, a1, none, some (.inl x)] st m := e_1 d106_4 (Or.inl rfl) rfl
theorem d106_5 : decode (mt 106).2.1 5 = .ok (.aload_n 0, 1) := by decide +kernel
theorem s106_5 {a1 a2 a3 : Option AV} {st : List AV} {m : MM} {x : Nat × Option Nat} : go 106 5 [some (.inr (.inr x)), a1, a2, a3] st m = go 106 6 [some (.inr (.inr x)), a1, a2, a3] (.inr (.inr x) :: st) m := e_1 d106_5 (Or.inl rfl) rfl
theorem d106_6 : decode (mt 106).2.1 6 = .ok (.dup, 1) := by decide +kernel
theorem s106_6 {ls : LV} {st : List AV} {m : MM} {x : Nat × Option Nat} : go 106 6 ls (.inr (.inr x) :: st) m = go 106 7 ls (.inr (.inr x) :: .inr (.inr x) :: st) m := e_1 d106_6 (Or.inl rfl) rfl
theorem d106_7 : decode (mt 106).2.1 7 = .ok (.getfield 115, 3) := by decide +kernel
theorem s106_7 {ls : LV} {st : List AV} {m : MM} {n : Nat} : go 106 7 ls (.inr (.inr (8, some n)) :: st) m = go 106 10 ls (.inl (mI m 8 n 0) :: st) m := e_1 d106_7 (Or.inl rfl) (by rw [xi, pA, show lk fdL (mt 106).2.2.1 115 = some (8, 0) by decide +kernel]; rfl)
theorem d106_10 : decode (mt 106).2.1 10 = .ok (.iconst 1, 1) := by decide +kernel
theorem s106_10 {ls : LV} {st : List AV} {m : MM} : go 106 10 ls st m = go 106 11 ls (.inl 1 :: st) m := e_1 d106_10 (Or.inl rfl) rfl
theorem d106_11 : decode (mt 106).2.1 11 = .ok (.iadd, 1) := by decide +kernel
theorem s106_11 {ls : LV} {st : List AV} {m : MM} {a b : Int32} : go 106 11 ls (.inl b :: .inl a :: st) m = go 106 12 ls (.inl (a + b) :: st) m := e_1 d106_11 (Or.inl rfl) rfl
theorem d106_12 : decode (mt 106).2.1 12 = .ok (.putfield 115, 3) := by decide +kernel
theorem s106_12 {ls : LV} {st : List AV} {m : MM} {n : Nat} {x : Int32} : go 106 12 ls (.inl x :: .inr (.inr (8, some n)) :: st) m = go 106 15 ls st (sI m 8 n 0 x) := e_put (r := 8) (f := 0) d106_12 (by decide +kernel) rfl (by decide +kernel)
theorem d106_15 : decode (mt 106).2.1 15 = .ok (.aload_n 0, 1) := by decide +kernel
theorem s106_15 {a1 a2 a3 : Option AV} {st : List AV} {m : MM} {x : Nat × Option Nat} : go 106 15 [some (.inr (.inr x)), a1, a2, a3] st m = go 106 16 [some (.inr (.inr x)), a1, a2, a3] (.inr (.inr x) :: st) m := e_1 d106_15 (Or.inl rfl) rfl
theorem d106_16 : decode (mt 106).2.1 16 = .ok (.getfield 13, 3) := by decide +kernel
theorem s106_16 {ls : LV} {st : List AV} {m : MM} {n : Nat} : go 106 16 ls (.inr (.inr (8, some n)) :: st) m = go 106 19 ls (.inr (.inr (19, mR m 8 n 2)) :: st) m := e_1 d106_16 (Or.inl rfl) (by rw [xi, pA, show lk fdL (mt 106).2.2.1 13 = some (8, 2) by decide +kernel]; rfl)
theorem d106_19 : decode (mt 106).2.1 19 = .ok (.iload_n 3, 1) := by decide +kernel
theorem s106_19 {a0 a1 a2 : Option AV} {st : List AV} {m : MM} {x : Int32} : go 106 19 [a0, a1, a2, some (.inl x)] st m = go 106 20 [a0, a1, a2, some (.inl x)] (.inl x :: st) m := e_1 d106_19 (Or.inl rfl) rfl
theorem d106_20 : decode (mt 106).2.1 20 = .ok (.iload_n 1, 1) := by decide +kernel
theorem s106_20 {a0 a2 a3 : Option AV} {st : List AV} {m : MM} {x : Int32} : go 106 20 [a0, some (.inl x), a2, a3] st m = go 106 21 [a0, some (.inl x), a2, a3] (.inl x :: st) m := e_1 d106_20 (Or.inl rfl) rfl
theorem d106_21 : decode (mt 106).2.1 21 = .ok (.iastore, 1) := by decide +kernel
theorem s106_21 {ls : LV} {st : List AV} {m : MM} {n : Nat} {i : Int32} {x : Int32} : go 106 21 ls (.inl x :: .inl i :: .inr (.inr (19, some n)) :: st) m = ixk (ix i (mN m 19 n)) (fun j => go 106 22 ls st (sI m 19 n j x)) := e_ald d106_21 (fun j hj => by simp only [xi, pI, pL, pR, pA, hj, Option.bind_some]; exact if_pos ⟨rfl, by decide⟩) (fun hj => by simp only [xi, pI, pL, pR, pA, hj, Option.bind_none])
theorem d106_22 : decode (mt 106).2.1 22 = .ok (.aload_n 0, 1) := by decide +kernel
theorem s106_22 {a1 a2 a3 : Option AV} {st : List AV} {m : MM} {x : Nat × Option Nat} : go 106 22 [some (.inr (.inr x)), a1, a2, a3] st m = go 106 23 [some (.inr (.inr x)), a1, a2, a3] (.inr (.inr x) :: st) m := e_1 d106_22 (Or.inl rfl) rfl
theorem d106_23 : decode (mt 106).2.1 23 = .ok (.getfield 17, 3) := by decide +kernel
theorem s106_23 {ls : LV} {st : List AV} {m : MM} {n : Nat} : go 106 23 ls (.inr (.inr (8, some n)) :: st) m = go 106 26 ls (.inr (.inr (20, mR m 8 n 3)) :: st) m := e_1 d106_23 (Or.inl rfl) (by rw [xi, pA, show lk fdL (mt 106).2.2.1 17 = some (8, 3) by decide +kernel]; rfl)
theorem d106_26 : decode (mt 106).2.1 26 = .ok (.iload_n 3, 1) := by decide +kernel
theorem s106_26 {a0 a1 a2 : Option AV} {st : List AV} {m : MM} {x : Int32} : go 106 26 [a0, a1, a2, some (.inl x)] st m = go 106 27 [a0, a1, a2, some (.inl x)] (.inl x :: st) m := e_1 d106_26 (Or.inl rfl) rfl
theorem d106_27 : decode (mt 106).2.1 27 = .ok (.iload_n 2, 1) := by decide +kernel
theorem s106_27 {a0 a1 a3 : Option AV} {st : List AV} {m : MM} {x : Int32} : go 106 27 [a0, a1, some (.inl x), a3] st m = go 106 28 [a0, a1, some (.inl x), a3] (.inl x :: st) m := e_1 d106_27 (Or.inl rfl) rfl
theorem d106_28 : decode (mt 106).2.1 28 = .ok (.iastore, 1) := by decide +kernel
theorem s106_28 {ls : LV} {st : List AV} {m : MM} {n : Nat} {i : Int32} {x : Int32} : go 106 28 ls (.inl x :: .inl i :: .inr (.inr (20, some n)) :: st) m = ixk (ix i (mN m 20 n)) (fun j => go 106 29 ls st (sI m 20 n j x)) := e_ald d106_28 (fun j hj => by simp only [xi, pI, pL, pR, pA, hj, Option.bind_some]; exact if_pos ⟨rfl, by decide⟩) (fun hj => by simp only [xi, pI, pL, pR, pA, hj, Option.bind_none])
theorem d106_29 : decode (mt 106).2.1 29 = .ok (.aload_n 0, 1) := by decide +kernel
theorem s106_29 {a1 a2 a3 : Option AV} {st : List AV} {m : MM} {x : Nat × Option Nat} : go 106 29 [some (.inr (.inr x)), a1, a2, a3] st m = go 106 30 [some (.inr (.inr x)), a1, a2, a3] (.inr (.inr x) :: st) m := e_1 d106_29 (Or.inl rfl) rfl
theorem d106_30 : decode (mt 106).2.1 30 = .ok (.getfield 20, 3) := by decide +kernel
theorem s106_30 {ls : LV} {st : List AV} {m : MM} {n : Nat} : go 106 30 ls (.inr (.inr (8, some n)) :: st) m = go 106 33 ls (.inr (.inr (21, mR m 8 n 4)) :: st) m := e_1 d106_30 (Or.inl rfl) (by rw [xi, pA, show lk fdL (mt 106).2.2.1 20 = some (8, 4) by decide +kernel]; rfl)
theorem d106_33 : decode (mt 106).2.1 33 = .ok (.iload_n 3, 1) := by decide +kernel
theorem s106_33 {a0 a1 a2 : Option AV} {st : List AV} {m : MM} {x : Int32} : go 106 33 [a0, a1, a2, some (.inl x)] st m = go 106 34 [a0, a1, a2, some (.inl x)] (.inl x :: st) m := e_1 d106_33 (Or.inl rfl) rfl
theorem d106_34 : decode (mt 106).2.1 34 = .ok (.iconst 0, 1) := by decide +kernel
theorem s106_34 {ls : LV} {st : List AV} {m : MM} : go 106 34 ls st m = go 106 35 ls (.inl 0 :: st) m := e_1 d106_34 (Or.inl rfl) rfl
theorem d106_35 : decode (mt 106).2.1 35 = .ok (.iastore, 1) := by decide +kernel
theorem s106_35 {ls : LV} {st : List AV} {m : MM} {n : Nat} {i : Int32} {x : Int32} : go 106 35 ls (.inl x :: .inl i :: .inr (.inr (21, some n)) :: st) m = ixk (ix i (mN m 21 n)) (fun j => go 106 36 ls st (sI m 21 n j x)) := e_ald d106_35 (fun j hj => by simp only [xi, pI, pL, pR, pA, hj, Option.bind_some]; exact if_pos ⟨rfl, by decide⟩) (fun hj => by simp only [xi, pI, pL, pR, pA, hj, Option.bind_none])
theorem d106_36 : decode (mt 106).2.1 36 = .ok (.aload_n 0, 1) := by decide +kernel
theorem s106_36 {a1 a2 a3 : Option AV} {st : List AV} {m : MM} {x : Nat × Option Nat} : go 106 36 [some (.inr (.inr x)), a1, a2, a3] st m = go 106 37 [some (.inr (.inr x)), a1, a2, a3] (.inr (.inr x) :: st) m := e_1 d106_36 (Or.inl rfl) rfl
theorem d106_37 : decode (mt 106).2.1 37 = .ok (.getfield 23, 3) := by decide +kernel
theorem s106_37 {ls : LV} {st : List AV} {m : MM} {n : Nat} : go 106 37 ls (.inr (.inr (8, some n)) :: st) m = go 106 40 ls (.inr (.inr (22, mR m 8 n 5)) :: st) m := e_1 d106_37 (Or.inl rfl) (by rw [xi, pA, show lk fdL (mt 106).2.2.1 23 = some (8, 5) by decide +kernel]; rfl)
theorem d106_40 : decode (mt 106).2.1 40 = .ok (.iload_n 3, 1) := by decide +kernel
theorem s106_40 {a0 a1 a2 : Option AV} {st : List AV} {m : MM} {x : Int32} : go 106 40 [a0, a1, a2, some (.inl x)] st m = go 106 41 [a0, a1, a2, some (.inl x)] (.inl x :: st) m := e_1 d106_40 (Or.inl rfl) rfl
theorem d106_41 : decode (mt 106).2.1 41 = .ok (.iconst 0, 1) := by decide +kernel
theorem s106_41 {ls : LV} {st : List AV} {m : MM} : go 106 41 ls st m = go 106 42 ls (.inl 0 :: st) m := e_1 d106_41 (Or.inl rfl) rfl
theorem d106_42 : decode (mt 106).2.1 42 = .ok (.iastore, 1) := by decide +kernel
theorem s106_42 {ls : LV} {st : List AV} {m : MM} {n : Nat} {i : Int32} {x : Int32} : go 106 42 ls (.inl x :: .inl i :: .inr (.inr (22, some n)) :: st) m = ixk (ix i (mN m 22 n)) (fun j => go 106 43 ls st (sI m 22 n j x)) := e_ald d106_42 (fun j hj => by simp only [xi, pI, pL, pR, pA, hj, Option.bind_some]; exact if_pos ⟨rfl, by decide⟩) (fun hj => by simp only [xi, pI, pL, pR, pA, hj, Option.bind_none])
theorem d106_43 : decode (mt 106).2.1 43 = .ok (.aload_n 0, 1) := by decide +kernel
theorem s106_43 {a1 a2 a3 : Option AV} {st : List AV} {m : MM} {x : Nat × Option Nat} : go 106 43 [some (.inr (.inr x)), a1, a2, a3] st m = go 106 44 [some (.inr (.inr x)), a1, a2, a3] (.inr (.inr x) :: st) m := e_1 d106_43 (Or.inl rfl) rfl
theorem d106_44 : decode (mt 106).2.1 44 = .ok (.getfield 36, 3) := by decide +kernel
theorem s106_44 {ls : LV} {st : List AV} {m : MM} {n : Nat} : go 106 44 ls (.inr (.inr (8, some n)) :: st) m = go 106 47 ls (.inr (.inr (26, mR m 8 n 9)) :: st) m := e_1 d106_44 (Or.inl rfl) (by rw [xi, pA, show lk fdL (mt 106).2.2.1 36 = some (8, 9) by decide +kernel]; rfl)
theorem d106_47 : decode (mt 106).2.1 47 = .ok (.iload_n 3, 1) := by decide +kernel
theorem s106_47 {a0 a1 a2 : Option AV} {st : List AV} {m : MM} {x : Int32} : go 106 47 [a0, a1, a2, some (.inl x)] st m = go 106 48 [a0, a1, a2, some (.inl x)] (.inl x :: st) m := e_1 d106_47 (Or.inl rfl) rfl
theorem d106_48 : decode (mt 106).2.1 48 = .ok (.bipush (-4), 2) := by decide +kernel
theorem s106_48 {ls : LV} {st : List AV} {m : MM} : go 106 48 ls st m = go 106 50 ls (.inl (-4) :: st) m := e_1 d106_48 (Or.inl rfl) rfl
theorem d106_50 : decode (mt 106).2.1 50 = .ok (.iastore, 1) := by decide +kernel
theorem s106_50 {ls : LV} {st : List AV} {m : MM} {n : Nat} {i : Int32} {x : Int32} : go 106 50 ls (.inl x :: .inl i :: .inr (.inr (26, some n)) :: st) m = ixk (ix i (mN m 26 n)) (fun j => go 106 51 ls st (sI m 26 n j x)) := e_ald d106_50 (fun j hj => by simp only [xi, pI, pL, pR, pA, hj, Option.bind_some]; exact if_pos ⟨rfl, by decide⟩) (fun hj => by simp only [xi, pI, pL, pR, pA, hj, Option.bind_none])
theorem d106_51 : decode (mt 106).2.1 51 = .ok (.aload_n 0, 1) := by decide +kernel
theorem s106_51 {a1 a2 a3 : Option AV} {st : List AV} {m : MM} {x : Nat × Option Nat} : go 106 51 [some (.inr (.inr x)), a1, a2, a3] st m = go 106 52 [some (.inr (.inr x)), a1, a2, a3] (.inr (.inr x) :: st) m := e_1 d106_51 (Or.inl rfl) rfl
theorem d106_52 : decode (mt 106).2.1 52 = .ok (.getfield 39, 3) := by decide +kernel
theorem s106_52 {ls : LV} {st : List AV} {m : MM} {n : Nat} : go 106 52 ls (.inr (.inr (8, some n)) :: st) m = go 106 55 ls (.inr (.inr (27, mR m 8 n 10)) :: st) m := e_1 d106_52 (Or.inl rfl) (by rw [xi, pA, show lk fdL (mt 106).2.2.1 39 = some (8, 10) by decide +kernel]; rfl)
theorem d106_55 : decode (mt 106).2.1 55 = .ok (.iload_n 3, 1) := by decide +kernel
theorem s106_55 {a0 a1 a2 : Option AV} {st : List AV} {m : MM} {x : Int32} : go 106 55 [a0, a1, a2, some (.inl x)] st m = go 106 56 [a0, a1, a2, some (.inl x)] (.inl x :: st) m := e_1 d106_55 (Or.inl rfl) rfl
theorem d106_56 : decode (mt 106).2.1 56 = .ok (.bipush (-4), 2) := by decide +kernel
theorem s106_56 {ls : LV} {st : List AV} {m : MM} : go 106 56 ls st m = go 106 58 ls (.inl (-4) :: st) m := e_1 d106_56 (Or.inl rfl) rfl
theorem d106_58 : decode (mt 106).2.1 58 = .ok (.iastore, 1) := by decide +kernel
theorem s106_58 {ls : LV} {st : List AV} {m : MM} {n : Nat} {i : Int32} {x : Int32} : go 106 58 ls (.inl x :: .inl i :: .inr (.inr (27, some n)) :: st) m = ixk (ix i (mN m 27 n)) (fun j => go 106 59 ls st (sI m 27 n j x)) := e_ald d106_58 (fun j hj => by simp only [xi, pI, pL, pR, pA, hj, Option.bind_some]; exact if_pos ⟨rfl, by decide⟩) (fun hj => by simp only [xi, pI, pL, pR, pA, hj, Option.bind_none])
theorem d106_59 : decode (mt 106).2.1 59 = .ok (.aload_n 0, 1) := by decide +kernel
theorem s106_59 {a1 a2 a3 : Option AV} {st : List AV} {m : MM} {x : Nat × Option Nat} : go 106 59 [some (.inr (.inr x)), a1, a2, a3] st m = go 106 60 [some (.inr (.inr x)), a1, a2, a3] (.inr (.inr x) :: st) m := e_1 d106_59 (Or.inl rfl) rfl
theorem d106_60 : decode (mt 106).2.1 60 = .ok (.getfield 42, 3) := by decide +kernel
theorem s106_60 {ls : LV} {st : List AV} {m : MM} {n : Nat} : go 106 60 ls (.inr (.inr (8, some n)) :: st) m = go 106 63 ls (.inr (.inr (28, mR m 8 n 11)) :: st) m := e_1 d106_60 (Or.inl rfl) (by rw [xi, pA, show lk fdL (mt 106).2.2.1 42 = some (8, 11) by decide +kernel]; rfl)
theorem d106_63 : decode (mt 106).2.1 63 = .ok (.iload_n 3, 1) := by decide +kernel
theorem s106_63 {a0 a1 a2 : Option AV} {st : List AV} {m : MM} {x : Int32} : go 106 63 [a0, a1, a2, some (.inl x)] st m = go 106 64 [a0, a1, a2, some (.inl x)] (.inl x :: st) m := e_1 d106_63 (Or.inl rfl) rfl
theorem d106_64 : decode (mt 106).2.1 64 = .ok (.iconst 0, 1) := by decide +kernel
theorem s106_64 {ls : LV} {st : List AV} {m : MM} : go 106 64 ls st m = go 106 65 ls (.inl 0 :: st) m := e_1 d106_64 (Or.inl rfl) rfl
theorem d106_65 : decode (mt 106).2.1 65 = .ok (.iastore, 1) := by decide +kernel
theorem s106_65 {ls : LV} {st : List AV} {m : MM} {n : Nat} {i : Int32} {x : Int32} : go 106 65 ls (.inl x :: .inl i :: .inr (.inr (28, some n)) :: st) m = ixk (ix i (mN m 28 n)) (fun j => go 106 66 ls st (sI m 28 n j x)) := e_ald d106_65 (fun j hj => by simp only [xi, pI, pL, pR, pA, hj, Option.bind_some]; exact if_pos ⟨rfl, by decide⟩) (fun hj => by simp only [xi, pI, pL, pR, pA, hj, Option.bind_none])
theorem d106_66 : decode (mt 106).2.1 66 = .ok (.aload_n 0, 1) := by decide +kernel
theorem s106_66 {a1 a2 a3 : Option AV} {st : List AV} {m : MM} {x : Nat × Option Nat} : go 106 66 [some (.inr (.inr x)), a1, a2, a3] st m = go 106 67 [some (.inr (.inr x)), a1, a2, a3] (.inr (.inr x) :: st) m := e_1 d106_66 (Or.inl rfl) rfl
theorem d106_67 : decode (mt 106).2.1 67 = .ok (.iload_n 3, 1) := by decide +kernel
theorem s106_67 {a0 a1 a2 : Option AV} {st : List AV} {m : MM} {x : Int32} : go 106 67 [a0, a1, a2, some (.inl x)] st m = go 106 68 [a0, a1, a2, some (.inl x)] (.inl x :: st) m := e_1 d106_67 (Or.inl rfl) rfl
theorem d106_68 : decode (mt 106).2.1 68 = .ok (.iconst 0, 1) := by decide +kernel
theorem s106_68 {ls : LV} {st : List AV} {m : MM} : go 106 68 ls st m = go 106 69 ls (.inl 0 :: st) m := e_1 d106_68 (Or.inl rfl) rfl
theorem d106_69 : decode (mt 106).2.1 69 = .ok (.invokevirtual 122, 3) := by decide +kernel
theorem s106_69 {ls : LV} {m : MM} {x0 : Int32} {x1 : Int32} {n : Nat} : go 106 69 ls [.inl x1, .inl x0, .inr (.inr (8, some n))] m = bd (go 107 0 [some (.inr (.inr (8, some n))), some (.inl x0), some (.inl x1), none] [] m) (fun v m2 => go 106 72 ls (v.toList ++ []) m2) := e_virt (y1 := 107) (na := 2) (as := [.inl x0, .inl x1]) (rest := []) d106_69 (by decide +kernel) rfl (by decide +kernel) (show (ent [.inr (.inr (8, some n)), .inl x0, .inl x1]).length ≤ (mt 107).2.2.2.1 from Nat.le_of_ble_eq_true rfl) (cats_le (Nat.le_of_ble_eq_true rfl)) (by decide +kernel)
theorem d106_72 : decode (mt 106).2.1 72 = .ok (.iload_n 3, 1) := by decide +kernel
theorem s106_72 {a0 a1 a2 : Option AV} {st : List AV} {m : MM} {x : Int32} : go 106 72 [a0, a1, a2, some (.inl x)] st m = go 106 73 [a0, a1, a2, some (.inl x)] (.inl x :: st) m := e_1 d106_72 (Or.inl rfl) rfl
theorem d106_73 : decode (mt 106).2.1 73 = .ok (.ireturn, 1) := by decide +kernel
theorem s106_73 {ls : LV} {m : MM} {x : Int32} : go 106 73 ls [.inl x] m = some (some (.inl x), m) := e_int d106_73 (by decide +kernel)
/-! X7_noPlaces: 107 -/
theorem d107_0 : decode (mt 107).2.1 0 = .ok (.iload_n 2, 1) := by decide +kernel
theorem s107_0 {a0 a1 a3 : Option AV} {st : List AV} {m : MM} {x : Int32} : go 107 0 [a0, a1, some (.inl x), a3] st m = go 107 1 [a0, a1, some (.inl x), a3] (.inl x :: st) m := e_1 d107_0 (Or.inl rfl) rfl
theorem d107_1 : decode (mt 107).2.1 1 = .ok (.istore_n 3, 1) := by decide +kernel
theorem s107_1i {a0 a1 a3 : Option AV} {z : Int32} {st : List AV} {m : MM} {x : Int32} : go 107 1 [a0, a1, some (.inl z), a3] (.inl x :: st) m = go 107 2 [a0, a1, some (.inl z), some (.inl x)] st m := e_1 d107_1 (Or.inl rfl) rfl
theorem s107_1r {a0 a1 a3 : Option AV} {z : Nat × Option Nat} {st : List AV} {m : MM} {x : Int32} : go 107 1 [a0, a1, some (.inr (.inr z)), a3] (.inl x :: st) m = go 107 2 [a0, a1, some (.inr (.inr z)), some (.inl x)] st m := e_1 d107_1 (Or.inl rfl) rfl
theorem s107_1n {a0 a1 a3 : Option AV} {st : List AV} {m : MM} {x : Int32} : go 107 1 [a0, a1, none, a3] (.inl x :: st) m = go 107 2 [a0, a1, none, some (.inl x)] st m := e_1 d107_1 (Or.inl rfl) rfl
theorem d107_2 : decode (mt 107).2.1 2 = .ok (.iload_n 3, 1) := by decide +kernel
theorem s107_2 {a0 a1 a2 : Option AV} {st : List AV} {m : MM} {x : Int32} : go 107 2 [a0, a1, a2, some (.inl x)] st m = go 107 3 [a0, a1, a2, some (.inl x)] (.inl x :: st) m := e_1 d107_2 (Or.inl rfl) rfl
theorem d107_3 : decode (mt 107).2.1 3 = .ok (.bipush 9, 2) := by decide +kernel
theorem s107_3 {ls : LV} {st : List AV} {m : MM} : go 107 3 ls st m = go 107 5 ls (.inl 9 :: st) m := e_1 d107_3 (Or.inl rfl) rfl
theorem d107_5 : decode (mt 107).2.1 5 = .ok (.if_icmp .ge 47, 3) := by decide +kernel
theorem s107_5 {ls : LV} {st : List AV} {m : MM} {a b : Int32} : go 107 5 ls (.inl b :: .inl a :: st) m = if b ≤ a then go 107 52 ls st m else go 107 8 ls st m := e_if (t := 52) (b := hc .ge a b) d107_5 (Or.inl rfl) (by simp only [xi, pI, jm_some (t := 52) (show ((5 : Nat) : Int) + 47 = ((52 : Nat) : Int) by decide), Option.bind_some]) (by simp [hc])
theorem d107_8 : decode (mt 107).2.1 8 = .ok (.aload_n 0, 1) := by decide +kernel
theorem s107_8 {a1 a2 a3 : Option AV} {st : List AV} {m : MM} {x : Nat × Option Nat} : go 107 8 [some (.inr (.inr x)), a1, a2, a3] st m = go 107 9 [some (.inr (.inr x)), a1, a2, a3] (.inr (.inr x) :: st) m := e_1 d107_8 (Or.inl rfl) rfl
theorem d107_9 : decode (mt 107).2.1 9 = .ok (.getfield 26, 3) := by decide +kernel
theorem s107_9 {ls : LV} {st : List AV} {m : MM} {n : Nat} : go 107 9 ls (.inr (.inr (8, some n)) :: st) m = go 107 12 ls (.inr (.inr (23, mR m 8 n 6)) :: st) m := e_1 d107_9 (Or.inl rfl) (by rw [xi, pA, show lk fdL (mt 107).2.2.1 26 = some (8, 6) by decide +kernel]; rfl)
theorem d107_12 : decode (mt 107).2.1 12 = .ok (.bipush 9, 2) := by decide +kernel
theorem s107_12 {ls : LV} {st : List AV} {m : MM} : go 107 12 ls st m = go 107 14 ls (.inl 9 :: st) m := e_1 d107_12 (Or.inl rfl) rfl
theorem d107_14 : decode (mt 107).2.1 14 = .ok (.iload_n 1, 1) := by decide +kernel
theorem s107_14 {a0 a2 a3 : Option AV} {st : List AV} {m : MM} {x : Int32} : go 107 14 [a0, some (.inl x), a2, a3] st m = go 107 15 [a0, some (.inl x), a2, a3] (.inl x :: st) m := e_1 d107_14 (Or.inl rfl) rfl
theorem d107_15 : decode (mt 107).2.1 15 = .ok (.imul, 1) := by decide +kernel
theorem s107_15 {ls : LV} {st : List AV} {m : MM} {a b : Int32} : go 107 15 ls (.inl b :: .inl a :: st) m = go 107 16 ls (.inl (a * b) :: st) m := e_1 d107_15 (Or.inl rfl) rfl
theorem d107_16 : decode (mt 107).2.1 16 = .ok (.iload_n 3, 1) := by decide +kernel
theorem s107_16 {a0 a1 a2 : Option AV} {st : List AV} {m : MM} {x : Int32} : go 107 16 [a0, a1, a2, some (.inl x)] st m = go 107 17 [a0, a1, a2, some (.inl x)] (.inl x :: st) m := e_1 d107_16 (Or.inl rfl) rfl
theorem d107_17 : decode (mt 107).2.1 17 = .ok (.iadd, 1) := by decide +kernel
theorem s107_17 {ls : LV} {st : List AV} {m : MM} {a b : Int32} : go 107 17 ls (.inl b :: .inl a :: st) m = go 107 18 ls (.inl (a + b) :: st) m := e_1 d107_17 (Or.inl rfl) rfl
theorem d107_18 : decode (mt 107).2.1 18 = .ok (.iconst 0, 1) := by decide +kernel
theorem s107_18 {ls : LV} {st : List AV} {m : MM} : go 107 18 ls st m = go 107 19 ls (.inl 0 :: st) m := e_1 d107_18 (Or.inl rfl) rfl
theorem d107_19 : decode (mt 107).2.1 19 = .ok (.bastore, 1) := by decide +kernel
theorem s107_19b0 {ls : LV} {st : List AV} {m : MM} {n : Nat} {i : Int32} : go 107 19 ls (.inl 0 :: .inl i :: .inr (.inr (23, some n)) :: st) m = ixk (ix i (mN m 23 n)) (fun j => go 107 20 ls st (sI m 23 n j 0)) := e_ald d107_19 (fun j hj => by simp only [xi, pI, pL, pR, pA, hj, Option.bind_some]; exact if_pos (Or.inl ⟨rfl, by decide⟩)) (fun hj => by simp only [xi, pI, pL, pR, pA, hj, Option.bind_none])
theorem s107_19b1 {ls : LV} {st : List AV} {m : MM} {n : Nat} {i : Int32} : go 107 19 ls (.inl 1 :: .inl i :: .inr (.inr (23, some n)) :: st) m = ixk (ix i (mN m 23 n)) (fun j => go 107 20 ls st (sI m 23 n j 1)) := e_ald d107_19 (fun j hj => by simp only [xi, pI, pL, pR, pA, hj, Option.bind_some]; exact if_pos (Or.inl ⟨rfl, by decide⟩)) (fun hj => by simp only [xi, pI, pL, pR, pA, hj, Option.bind_none])
theorem d107_20 : decode (mt 107).2.1 20 = .ok (.aload_n 0, 1) := by decide +kernel
theorem s107_20 {a1 a2 a3 : Option AV} {st : List AV} {m : MM} {x : Nat × Option Nat} : go 107 20 [some (.inr (.inr x)), a1, a2, a3] st m = go 107 21 [some (.inr (.inr x)), a1, a2, a3] (.inr (.inr x) :: st) m := e_1 d107_20 (Or.inl rfl) rfl
theorem d107_21 : decode (mt 107).2.1 21 = .ok (.getfield 30, 3) := by decide +kernel
theorem s107_21 {ls : LV} {st : List AV} {m : MM} {n : Nat} : go 107 21 ls (.inr (.inr (8, some n)) :: st) m = go 107 24 ls (.inr (.inr (24, mR m 8 n 7)) :: st) m := e_1 d107_21 (Or.inl rfl) (by rw [xi, pA, show lk fdL (mt 107).2.2.1 30 = some (8, 7) by decide +kernel]; rfl)
theorem d107_24 : decode (mt 107).2.1 24 = .ok (.bipush 9, 2) := by decide +kernel
theorem s107_24 {ls : LV} {st : List AV} {m : MM} : go 107 24 ls st m = go 107 26 ls (.inl 9 :: st) m := e_1 d107_24 (Or.inl rfl) rfl
theorem d107_26 : decode (mt 107).2.1 26 = .ok (.iload_n 1, 1) := by decide +kernel
theorem s107_26 {a0 a2 a3 : Option AV} {st : List AV} {m : MM} {x : Int32} : go 107 26 [a0, some (.inl x), a2, a3] st m = go 107 27 [a0, some (.inl x), a2, a3] (.inl x :: st) m := e_1 d107_26 (Or.inl rfl) rfl
theorem d107_27 : decode (mt 107).2.1 27 = .ok (.imul, 1) := by decide +kernel
theorem s107_27 {ls : LV} {st : List AV} {m : MM} {a b : Int32} : go 107 27 ls (.inl b :: .inl a :: st) m = go 107 28 ls (.inl (a * b) :: st) m := e_1 d107_27 (Or.inl rfl) rfl
theorem d107_28 : decode (mt 107).2.1 28 = .ok (.iload_n 3, 1) := by decide +kernel
theorem s107_28 {a0 a1 a2 : Option AV} {st : List AV} {m : MM} {x : Int32} : go 107 28 [a0, a1, a2, some (.inl x)] st m = go 107 29 [a0, a1, a2, some (.inl x)] (.inl x :: st) m := e_1 d107_28 (Or.inl rfl) rfl
theorem d107_29 : decode (mt 107).2.1 29 = .ok (.iadd, 1) := by decide +kernel
theorem s107_29 {ls : LV} {st : List AV} {m : MM} {a b : Int32} : go 107 29 ls (.inl b :: .inl a :: st) m = go 107 30 ls (.inl (a + b) :: st) m := e_1 d107_29 (Or.inl rfl) rfl
theorem d107_30 : decode (mt 107).2.1 30 = .ok (.bipush (-4), 2) := by decide +kernel
theorem s107_30 {ls : LV} {st : List AV} {m : MM} : go 107 30 ls st m = go 107 32 ls (.inl (-4) :: st) m := e_1 d107_30 (Or.inl rfl) rfl
theorem d107_32 : decode (mt 107).2.1 32 = .ok (.iastore, 1) := by decide +kernel
theorem s107_32 {ls : LV} {st : List AV} {m : MM} {n : Nat} {i : Int32} {x : Int32} : go 107 32 ls (.inl x :: .inl i :: .inr (.inr (24, some n)) :: st) m = ixk (ix i (mN m 24 n)) (fun j => go 107 33 ls st (sI m 24 n j x)) := e_ald d107_32 (fun j hj => by simp only [xi, pI, pL, pR, pA, hj, Option.bind_some]; exact if_pos ⟨rfl, by decide⟩) (fun hj => by simp only [xi, pI, pL, pR, pA, hj, Option.bind_none])
theorem d107_33 : decode (mt 107).2.1 33 = .ok (.aload_n 0, 1) := by decide +kernel
theorem s107_33 {a1 a2 a3 : Option AV} {st : List AV} {m : MM} {x : Nat × Option Nat} : go 107 33 [some (.inr (.inr x)), a1, a2, a3] st m = go 107 34 [some (.inr (.inr x)), a1, a2, a3] (.inr (.inr x) :: st) m := e_1 d107_33 (Or.inl rfl) rfl
theorem d107_34 : decode (mt 107).2.1 34 = .ok (.getfield 33, 3) := by decide +kernel
theorem s107_34 {ls : LV} {st : List AV} {m : MM} {n : Nat} : go 107 34 ls (.inr (.inr (8, some n)) :: st) m = go 107 37 ls (.inr (.inr (25, mR m 8 n 8)) :: st) m := e_1 d107_34 (Or.inl rfl) (by rw [xi, pA, show lk fdL (mt 107).2.2.1 33 = some (8, 8) by decide +kernel]; rfl)
theorem d107_37 : decode (mt 107).2.1 37 = .ok (.bipush 9, 2) := by decide +kernel
theorem s107_37 {ls : LV} {st : List AV} {m : MM} : go 107 37 ls st m = go 107 39 ls (.inl 9 :: st) m := e_1 d107_37 (Or.inl rfl) rfl
theorem d107_39 : decode (mt 107).2.1 39 = .ok (.iload_n 1, 1) := by decide +kernel
theorem s107_39 {a0 a2 a3 : Option AV} {st : List AV} {m : MM} {x : Int32} : go 107 39 [a0, some (.inl x), a2, a3] st m = go 107 40 [a0, some (.inl x), a2, a3] (.inl x :: st) m := e_1 d107_39 (Or.inl rfl) rfl
theorem d107_40 : decode (mt 107).2.1 40 = .ok (.imul, 1) := by decide +kernel
theorem s107_40 {ls : LV} {st : List AV} {m : MM} {a b : Int32} : go 107 40 ls (.inl b :: .inl a :: st) m = go 107 41 ls (.inl (a * b) :: st) m := e_1 d107_40 (Or.inl rfl) rfl
theorem d107_41 : decode (mt 107).2.1 41 = .ok (.iload_n 3, 1) := by decide +kernel
theorem s107_41 {a0 a1 a2 : Option AV} {st : List AV} {m : MM} {x : Int32} : go 107 41 [a0, a1, a2, some (.inl x)] st m = go 107 42 [a0, a1, a2, some (.inl x)] (.inl x :: st) m := e_1 d107_41 (Or.inl rfl) rfl
theorem d107_42 : decode (mt 107).2.1 42 = .ok (.iadd, 1) := by decide +kernel
theorem s107_42 {ls : LV} {st : List AV} {m : MM} {a b : Int32} : go 107 42 ls (.inl b :: .inl a :: st) m = go 107 43 ls (.inl (a + b) :: st) m := e_1 d107_42 (Or.inl rfl) rfl
theorem d107_43 : decode (mt 107).2.1 43 = .ok (.bipush (-4), 2) := by decide +kernel
theorem s107_43 {ls : LV} {st : List AV} {m : MM} : go 107 43 ls st m = go 107 45 ls (.inl (-4) :: st) m := e_1 d107_43 (Or.inl rfl) rfl
theorem d107_45 : decode (mt 107).2.1 45 = .ok (.iastore, 1) := by decide +kernel
theorem s107_45 {ls : LV} {st : List AV} {m : MM} {n : Nat} {i : Int32} {x : Int32} : go 107 45 ls (.inl x :: .inl i :: .inr (.inr (25, some n)) :: st) m = ixk (ix i (mN m 25 n)) (fun j => go 107 46 ls st (sI m 25 n j x)) := e_ald d107_45 (fun j hj => by simp only [xi, pI, pL, pR, pA, hj, Option.bind_some]; exact if_pos ⟨rfl, by decide⟩) (fun hj => by simp only [xi, pI, pL, pR, pA, hj, Option.bind_none])
theorem d107_46 : decode (mt 107).2.1 46 = .ok (.iinc 3 1, 3) := by decide +kernel
theorem s107_46i {a0 a1 : Option AV} {z : Int32} {st : List AV} {m : MM} {x : Int32} : go 107 46 [a0, a1, some (.inl z), some (.inl x)] st m = go 107 49 [a0, a1, some (.inl z), some (.inl (x + 1))] st m := e_1 d107_46 (Or.inl rfl) rfl
theorem s107_46r {a0 a1 : Option AV} {z : Nat × Option Nat} {st : List AV} {m : MM} {x : Int32} : go 107 46 [a0, a1, some (.inr (.inr z)), some (.inl x)] st m = go 107 49 [a0, a1, some (.inr (.inr z)), some (.inl (x + 1))] st m := e_1 d107_46 (Or.inl rfl) rfl
theorem s107_46n {a0 a1 : Option AV} {st : List AV} {m : MM} {x : Int32} : go 107 46 [a0, a1, none, some (.inl x)] st m = go 107 49 [a0, a1, none, some (.inl (x + 1))] st m := e_1 d107_46 (Or.inl rfl) rfl
theorem d107_49 : decode (mt 107).2.1 49 = .ok (.goto (-47), 3) := by decide +kernel
theorem s107_49 {ls : LV} {st : List AV} {m : MM} : go 107 49 ls st m = go 107 2 ls st m := e_1 d107_49 (Or.inl rfl) (by rw [xi, jm_some (t := 2) (by decide)]; rfl)
theorem d107_52 : decode (mt 107).2.1 52 = .ok (.return_, 1) := by decide +kernel
theorem s107_52 {ls : LV} {m : MM} : go 107 52 ls [] m = some (none, m) := e_void d107_52 (by decide +kernel)
/-! X7_place: 108 -/
theorem d108_0 : decode (mt 108).2.1 0 = .ok (.aload_n 0, 1) := by decide +kernel
theorem s108_0 {a1 a2 a3 a4 : Option AV} {st : List AV} {m : MM} {x : Nat × Option Nat} : go 108 0 [some (.inr (.inr x)), a1, a2, a3, a4] st m = go 108 1 [some (.inr (.inr x)), a1, a2, a3, a4] (.inr (.inr x) :: st) m := e_1 d108_0 (Or.inl rfl) rfl
theorem d108_1 : decode (mt 108).2.1 1 = .ok (.getfield 26, 3) := by decide +kernel
theorem s108_1 {ls : LV} {st : List AV} {m : MM} {n : Nat} : go 108 1 ls (.inr (.inr (8, some n)) :: st) m = go 108 4 ls (.inr (.inr (23, mR m 8 n 6)) :: st) m := e_1 d108_1 (Or.inl rfl) (by rw [xi, pA, show lk fdL (mt 108).2.2.1 26 = some (8, 6) by decide +kernel]; rfl)
theorem d108_4 : decode (mt 108).2.1 4 = .ok (.bipush 9, 2) := by decide +kernel
theorem s108_4 {ls : LV} {st : List AV} {m : MM} : go 108 4 ls st m = go 108 6 ls (.inl 9 :: st) m := e_1 d108_4 (Or.inl rfl) rfl
theorem d108_6 : decode (mt 108).2.1 6 = .ok (.iload_n 1, 1) := by decide +kernel
theorem s108_6 {a0 a2 a3 a4 : Option AV} {st : List AV} {m : MM} {x : Int32} : go 108 6 [a0, some (.inl x), a2, a3, a4] st m = go 108 7 [a0, some (.inl x), a2, a3, a4] (.inl x :: st) m := e_1 d108_6 (Or.inl rfl) rfl
theorem d108_7 : decode (mt 108).2.1 7 = .ok (.imul, 1) := by decide +kernel
theorem s108_7 {ls : LV} {st : List AV} {m : MM} {a b : Int32} : go 108 7 ls (.inl b :: .inl a :: st) m = go 108 8 ls (.inl (a * b) :: st) m := e_1 d108_7 (Or.inl rfl) rfl
theorem d108_8 : decode (mt 108).2.1 8 = .ok (.iload_n 2, 1) := by decide +kernel
theorem s108_8 {a0 a1 a3 a4 : Option AV} {st : List AV} {m : MM} {x : Int32} : go 108 8 [a0, a1, some (.inl x), a3, a4] st m = go 108 9 [a0, a1, some (.inl x), a3, a4] (.inl x :: st) m := e_1 d108_8 (Or.inl rfl) rfl
theorem d108_9 : decode (mt 108).2.1 9 = .ok (.iadd, 1) := by decide +kernel
theorem s108_9 {ls : LV} {st : List AV} {m : MM} {a b : Int32} : go 108 9 ls (.inl b :: .inl a :: st) m = go 108 10 ls (.inl (a + b) :: st) m := e_1 d108_9 (Or.inl rfl) rfl
theorem d108_10 : decode (mt 108).2.1 10 = .ok (.iconst 1, 1) := by decide +kernel
theorem s108_10 {ls : LV} {st : List AV} {m : MM} : go 108 10 ls st m = go 108 11 ls (.inl 1 :: st) m := e_1 d108_10 (Or.inl rfl) rfl
theorem d108_11 : decode (mt 108).2.1 11 = .ok (.bastore, 1) := by decide +kernel
theorem s108_11b0 {ls : LV} {st : List AV} {m : MM} {n : Nat} {i : Int32} : go 108 11 ls (.inl 0 :: .inl i :: .inr (.inr (23, some n)) :: st) m = ixk (ix i (mN m 23 n)) (fun j => go 108 12 ls st (sI m 23 n j 0)) := e_ald d108_11 (fun j hj => by simp only [xi, pI, pL, pR, pA, hj, Option.bind_some]; exact if_pos (Or.inl ⟨rfl, by decide⟩)) (fun hj => by simp only [xi, pI, pL, pR, pA, hj, Option.bind_none])
theorem s108_11b1 {ls : LV} {st : List AV} {m : MM} {n : Nat} {i : Int32} : go 108 11 ls (.inl 1 :: .inl i :: .inr (.inr (23, some n)) :: st) m = ixk (ix i (mN m 23 n)) (fun j => go 108 12 ls st (sI m 23 n j 1)) := e_ald d108_11 (fun j hj => by simp only [xi, pI, pL, pR, pA, hj, Option.bind_some]; exact if_pos (Or.inl ⟨rfl, by decide⟩)) (fun hj => by simp only [xi, pI, pL, pR, pA, hj, Option.bind_none])
theorem d108_12 : decode (mt 108).2.1 12 = .ok (.aload_n 0, 1) := by decide +kernel
theorem s108_12 {a1 a2 a3 a4 : Option AV} {st : List AV} {m : MM} {x : Nat × Option Nat} : go 108 12 [some (.inr (.inr x)), a1, a2, a3, a4] st m = go 108 13 [some (.inr (.inr x)), a1, a2, a3, a4] (.inr (.inr x) :: st) m := e_1 d108_12 (Or.inl rfl) rfl
theorem d108_13 : decode (mt 108).2.1 13 = .ok (.getfield 30, 3) := by decide +kernel
theorem s108_13 {ls : LV} {st : List AV} {m : MM} {n : Nat} : go 108 13 ls (.inr (.inr (8, some n)) :: st) m = go 108 16 ls (.inr (.inr (24, mR m 8 n 7)) :: st) m := e_1 d108_13 (Or.inl rfl) (by rw [xi, pA, show lk fdL (mt 108).2.2.1 30 = some (8, 7) by decide +kernel]; rfl)
theorem d108_16 : decode (mt 108).2.1 16 = .ok (.bipush 9, 2) := by decide +kernel
theorem s108_16 {ls : LV} {st : List AV} {m : MM} : go 108 16 ls st m = go 108 18 ls (.inl 9 :: st) m := e_1 d108_16 (Or.inl rfl) rfl
theorem d108_18 : decode (mt 108).2.1 18 = .ok (.iload_n 1, 1) := by decide +kernel
theorem s108_18 {a0 a2 a3 a4 : Option AV} {st : List AV} {m : MM} {x : Int32} : go 108 18 [a0, some (.inl x), a2, a3, a4] st m = go 108 19 [a0, some (.inl x), a2, a3, a4] (.inl x :: st) m := e_1 d108_18 (Or.inl rfl) rfl
theorem d108_19 : decode (mt 108).2.1 19 = .ok (.imul, 1) := by decide +kernel
theorem s108_19 {ls : LV} {st : List AV} {m : MM} {a b : Int32} : go 108 19 ls (.inl b :: .inl a :: st) m = go 108 20 ls (.inl (a * b) :: st) m := e_1 d108_19 (Or.inl rfl) rfl
theorem d108_20 : decode (mt 108).2.1 20 = .ok (.iload_n 2, 1) := by decide +kernel
theorem s108_20 {a0 a1 a3 a4 : Option AV} {st : List AV} {m : MM} {x : Int32} : go 108 20 [a0, a1, some (.inl x), a3, a4] st m = go 108 21 [a0, a1, some (.inl x), a3, a4] (.inl x :: st) m := e_1 d108_20 (Or.inl rfl) rfl
theorem d108_21 : decode (mt 108).2.1 21 = .ok (.iadd, 1) := by decide +kernel
theorem s108_21 {ls : LV} {st : List AV} {m : MM} {a b : Int32} : go 108 21 ls (.inl b :: .inl a :: st) m = go 108 22 ls (.inl (a + b) :: st) m := e_1 d108_21 (Or.inl rfl) rfl
theorem d108_22 : decode (mt 108).2.1 22 = .ok (.iload_n 3, 1) := by decide +kernel
theorem s108_22 {a0 a1 a2 a4 : Option AV} {st : List AV} {m : MM} {x : Int32} : go 108 22 [a0, a1, a2, some (.inl x), a4] st m = go 108 23 [a0, a1, a2, some (.inl x), a4] (.inl x :: st) m := e_1 d108_22 (Or.inl rfl) rfl
theorem d108_23 : decode (mt 108).2.1 23 = .ok (.iastore, 1) := by decide +kernel
theorem s108_23 {ls : LV} {st : List AV} {m : MM} {n : Nat} {i : Int32} {x : Int32} : go 108 23 ls (.inl x :: .inl i :: .inr (.inr (24, some n)) :: st) m = ixk (ix i (mN m 24 n)) (fun j => go 108 24 ls st (sI m 24 n j x)) := e_ald d108_23 (fun j hj => by simp only [xi, pI, pL, pR, pA, hj, Option.bind_some]; exact if_pos ⟨rfl, by decide⟩) (fun hj => by simp only [xi, pI, pL, pR, pA, hj, Option.bind_none])
theorem d108_24 : decode (mt 108).2.1 24 = .ok (.aload_n 0, 1) := by decide +kernel
theorem s108_24 {a1 a2 a3 a4 : Option AV} {st : List AV} {m : MM} {x : Nat × Option Nat} : go 108 24 [some (.inr (.inr x)), a1, a2, a3, a4] st m = go 108 25 [some (.inr (.inr x)), a1, a2, a3, a4] (.inr (.inr x) :: st) m := e_1 d108_24 (Or.inl rfl) rfl
theorem d108_25 : decode (mt 108).2.1 25 = .ok (.getfield 33, 3) := by decide +kernel
theorem s108_25 {ls : LV} {st : List AV} {m : MM} {n : Nat} : go 108 25 ls (.inr (.inr (8, some n)) :: st) m = go 108 28 ls (.inr (.inr (25, mR m 8 n 8)) :: st) m := e_1 d108_25 (Or.inl rfl) (by rw [xi, pA, show lk fdL (mt 108).2.2.1 33 = some (8, 8) by decide +kernel]; rfl)
theorem d108_28 : decode (mt 108).2.1 28 = .ok (.bipush 9, 2) := by decide +kernel
theorem s108_28 {ls : LV} {st : List AV} {m : MM} : go 108 28 ls st m = go 108 30 ls (.inl 9 :: st) m := e_1 d108_28 (Or.inl rfl) rfl
theorem d108_30 : decode (mt 108).2.1 30 = .ok (.iload_n 1, 1) := by decide +kernel
theorem s108_30 {a0 a2 a3 a4 : Option AV} {st : List AV} {m : MM} {x : Int32} : go 108 30 [a0, some (.inl x), a2, a3, a4] st m = go 108 31 [a0, some (.inl x), a2, a3, a4] (.inl x :: st) m := e_1 d108_30 (Or.inl rfl) rfl
theorem d108_31 : decode (mt 108).2.1 31 = .ok (.imul, 1) := by decide +kernel
theorem s108_31 {ls : LV} {st : List AV} {m : MM} {a b : Int32} : go 108 31 ls (.inl b :: .inl a :: st) m = go 108 32 ls (.inl (a * b) :: st) m := e_1 d108_31 (Or.inl rfl) rfl
theorem d108_32 : decode (mt 108).2.1 32 = .ok (.iload_n 2, 1) := by decide +kernel
theorem s108_32 {a0 a1 a3 a4 : Option AV} {st : List AV} {m : MM} {x : Int32} : go 108 32 [a0, a1, some (.inl x), a3, a4] st m = go 108 33 [a0, a1, some (.inl x), a3, a4] (.inl x :: st) m := e_1 d108_32 (Or.inl rfl) rfl
theorem d108_33 : decode (mt 108).2.1 33 = .ok (.iadd, 1) := by decide +kernel
theorem s108_33 {ls : LV} {st : List AV} {m : MM} {a b : Int32} : go 108 33 ls (.inl b :: .inl a :: st) m = go 108 34 ls (.inl (a + b) :: st) m := e_1 d108_33 (Or.inl rfl) rfl
theorem d108_34 : decode (mt 108).2.1 34 = .ok (.iload 4, 2) := by decide +kernel
theorem s108_34 {a0 a1 a2 a3 : Option AV} {st : List AV} {m : MM} {x : Int32} : go 108 34 [a0, a1, a2, a3, some (.inl x)] st m = go 108 36 [a0, a1, a2, a3, some (.inl x)] (.inl x :: st) m := e_1 d108_34 (Or.inl rfl) rfl
theorem d108_36 : decode (mt 108).2.1 36 = .ok (.iastore, 1) := by decide +kernel
theorem s108_36 {ls : LV} {st : List AV} {m : MM} {n : Nat} {i : Int32} {x : Int32} : go 108 36 ls (.inl x :: .inl i :: .inr (.inr (25, some n)) :: st) m = ixk (ix i (mN m 25 n)) (fun j => go 108 37 ls st (sI m 25 n j x)) := e_ald d108_36 (fun j hj => by simp only [xi, pI, pL, pR, pA, hj, Option.bind_some]; exact if_pos ⟨rfl, by decide⟩) (fun hj => by simp only [xi, pI, pL, pR, pA, hj, Option.bind_none])
theorem d108_37 : decode (mt 108).2.1 37 = .ok (.return_, 1) := by decide +kernel
theorem s108_37 {ls : LV} {m : MM} : go 108 37 ls [] m = some (none, m) := e_void d108_37 (by decide +kernel)
/-! X7_peer: 109 -/
theorem d109_0 : decode (mt 109).2.1 0 = .ok (.aload_n 0, 1) := by decide +kernel
theorem s109_0 {a1 a2 : Option AV} {st : List AV} {m : MM} {x : Nat × Option Nat} : go 109 0 [some (.inr (.inr x)), a1, a2] st m = go 109 1 [some (.inr (.inr x)), a1, a2] (.inr (.inr x) :: st) m := e_1 d109_0 (Or.inl rfl) rfl
theorem d109_1 : decode (mt 109).2.1 1 = .ok (.iload_n 1, 1) := by decide +kernel
theorem s109_1 {a0 a2 : Option AV} {st : List AV} {m : MM} {x : Int32} : go 109 1 [a0, some (.inl x), a2] st m = go 109 2 [a0, some (.inl x), a2] (.inl x :: st) m := e_1 d109_1 (Or.inl rfl) rfl
theorem d109_2 : decode (mt 109).2.1 2 = .ok (.invokevirtual 126, 3) := by decide +kernel
theorem s109_2 {ls : LV} {m : MM} {x0 : Int32} {n : Nat} : go 109 2 ls [.inl x0, .inr (.inr (8, some n))] m = bd (go 105 0 [some (.inr (.inr (8, some n))), some (.inl x0), none, none] [] m) (fun v m2 => go 109 5 ls (v.toList ++ []) m2) := e_virt (y1 := 105) (na := 1) (as := [.inl x0]) (rest := []) d109_2 (by decide +kernel) rfl (by decide +kernel) (show (ent [.inr (.inr (8, some n)), .inl x0]).length ≤ (mt 105).2.2.2.1 from Nat.le_of_ble_eq_true rfl) (cats_le (Nat.le_of_ble_eq_true rfl)) (by decide +kernel)
theorem d109_5 : decode (mt 109).2.1 5 = .ok (.ifCond .ne 15, 3) := by decide +kernel
theorem s109_5 {ls : LV} {st : List AV} {m : MM} {a : Int32} : go 109 5 ls (.inl a :: st) m = if ¬ a = 0 then go 109 20 ls st m else go 109 8 ls st m := e_if (t := 20) (b := hc .ne a 0) d109_5 (Or.inl rfl) (by simp only [xi, pI, jm_some (t := 20) (show ((5 : Nat) : Int) + 15 = ((20 : Nat) : Int) by decide), Option.bind_some]) (by simp [hc])
theorem d109_8 : decode (mt 109).2.1 8 = .ok (.iload_n 2, 1) := by decide +kernel
theorem s109_8 {a0 a1 : Option AV} {st : List AV} {m : MM} {x : Int32} : go 109 8 [a0, a1, some (.inl x)] st m = go 109 9 [a0, a1, some (.inl x)] (.inl x :: st) m := e_1 d109_8 (Or.inl rfl) rfl
theorem d109_9 : decode (mt 109).2.1 9 = .ok (.i2l, 1) := by decide +kernel
theorem s109_9 {ls : LV} {st : List AV} {m : MM} {a : Int32} : go 109 9 ls (.inl a :: st) m = go 109 10 ls (.inr (.inl a.toInt64) :: st) m := e_1 d109_9 (Or.inl rfl) rfl
theorem d109_10 : decode (mt 109).2.1 10 = .ok (.lconst 0, 1) := by decide +kernel
theorem s109_10 {ls : LV} {st : List AV} {m : MM} : go 109 10 ls st m = go 109 11 ls (.inr (.inl 0) :: st) m := e_1 d109_10 (Or.inl rfl) rfl
theorem d109_11 : decode (mt 109).2.1 11 = .ok (.ldc2_w 130, 3) := by decide +kernel
theorem s109_11 {ls : LV} {st : List AV} {m : MM} : go 109 11 ls st m = go 109 14 ls (.inr (.inl 255) :: st) m := e_1 d109_11 (Or.inl rfl) (by rw [xi, show lk c2L (mt 109).2.2.1 130 = some 255 by decide +kernel]; rfl)
theorem d109_14 : decode (mt 109).2.1 14 = .ok (.invokestatic 118, 3) := by decide +kernel
theorem s109_14 {ls : LV} {m : MM} {x0 : Int64} {x1 : Int64} {x2 : Int64} : go 109 14 ls [.inr (.inl x2), .inr (.inl x1), .inr (.inl x0)] m = bd (go 103 0 [some (.inr (.inl x0)), none, some (.inr (.inl x1)), none, some (.inr (.inl x2)), none] [] m) (fun v m2 => go 109 17 ls (v.toList ++ []) m2) := e_stat (y1 := 103) (na := 3) (as := [.inr (.inl x0), .inr (.inl x1), .inr (.inl x2)]) (rest := []) d109_14 (by decide +kernel) rfl (by decide +kernel) (show (ent [.inr (.inl x0), .inr (.inl x1), .inr (.inl x2)]).length ≤ (mt 103).2.2.2.1 from Nat.le_of_ble_eq_true rfl) (cats_le (Nat.le_of_ble_eq_true rfl)) (by decide +kernel)
theorem d109_17 : decode (mt 109).2.1 17 = .ok (.ifCond .ne 5, 3) := by decide +kernel
theorem s109_17 {ls : LV} {st : List AV} {m : MM} {a : Int32} : go 109 17 ls (.inl a :: st) m = if ¬ a = 0 then go 109 22 ls st m else go 109 20 ls st m := e_if (t := 22) (b := hc .ne a 0) d109_17 (Or.inl rfl) (by simp only [xi, pI, jm_some (t := 22) (show ((17 : Nat) : Int) + 5 = ((22 : Nat) : Int) by decide), Option.bind_some]) (by simp [hc])
theorem d109_20 : decode (mt 109).2.1 20 = .ok (.iconst (-1), 1) := by decide +kernel
theorem s109_20 {ls : LV} {st : List AV} {m : MM} : go 109 20 ls st m = go 109 21 ls (.inl (-1) :: st) m := e_1 d109_20 (Or.inl rfl) rfl
theorem d109_21 : decode (mt 109).2.1 21 = .ok (.ireturn, 1) := by decide +kernel
theorem s109_21 {ls : LV} {m : MM} {x : Int32} : go 109 21 ls [.inl x] m = some (some (.inl x), m) := e_int d109_21 (by decide +kernel)
theorem d109_22 : decode (mt 109).2.1 22 = .ok (.aload_n 0, 1) := by decide +kernel
theorem s109_22 {a1 a2 : Option AV} {st : List AV} {m : MM} {x : Nat × Option Nat} : go 109 22 [some (.inr (.inr x)), a1, a2] st m = go 109 23 [some (.inr (.inr x)), a1, a2] (.inr (.inr x) :: st) m := e_1 d109_22 (Or.inl rfl) rfl
theorem d109_23 : decode (mt 109).2.1 23 = .ok (.getfield 115, 3) := by decide +kernel
theorem s109_23 {ls : LV} {st : List AV} {m : MM} {n : Nat} : go 109 23 ls (.inr (.inr (8, some n)) :: st) m = go 109 26 ls (.inl (mI m 8 n 0) :: st) m := e_1 d109_23 (Or.inl rfl) (by rw [xi, pA, show lk fdL (mt 109).2.2.1 115 = some (8, 0) by decide +kernel]; rfl)
theorem d109_26 : decode (mt 109).2.1 26 = .ok (.bipush 32, 2) := by decide +kernel
theorem s109_26 {ls : LV} {st : List AV} {m : MM} : go 109 26 ls st m = go 109 28 ls (.inl 32 :: st) m := e_1 d109_26 (Or.inl rfl) rfl
theorem d109_28 : decode (mt 109).2.1 28 = .ok (.if_icmp .ne 8, 3) := by decide +kernel
theorem s109_28 {ls : LV} {st : List AV} {m : MM} {a b : Int32} : go 109 28 ls (.inl b :: .inl a :: st) m = if ¬ a = b then go 109 36 ls st m else go 109 31 ls st m := e_if (t := 36) (b := hc .ne a b) d109_28 (Or.inl rfl) (by simp only [xi, pI, jm_some (t := 36) (show ((28 : Nat) : Int) + 8 = ((36 : Nat) : Int) by decide), Option.bind_some]) (by simp [hc])
theorem d109_31 : decode (mt 109).2.1 31 = .ok (.bipush (-3), 2) := by decide +kernel
theorem s109_31 {ls : LV} {st : List AV} {m : MM} : go 109 31 ls st m = go 109 33 ls (.inl (-3) :: st) m := e_1 d109_31 (Or.inl rfl) rfl
theorem d109_33 : decode (mt 109).2.1 33 = .ok (.goto 9, 3) := by decide +kernel
theorem s109_33 {ls : LV} {st : List AV} {m : MM} : go 109 33 ls st m = go 109 42 ls st m := e_1 d109_33 (Or.inl rfl) (by rw [xi, jm_some (t := 42) (by decide)]; rfl)
theorem d109_36 : decode (mt 109).2.1 36 = .ok (.aload_n 0, 1) := by decide +kernel
theorem s109_36 {a1 a2 : Option AV} {st : List AV} {m : MM} {x : Nat × Option Nat} : go 109 36 [some (.inr (.inr x)), a1, a2] st m = go 109 37 [some (.inr (.inr x)), a1, a2] (.inr (.inr x) :: st) m := e_1 d109_36 (Or.inl rfl) rfl
theorem d109_37 : decode (mt 109).2.1 37 = .ok (.iload_n 1, 1) := by decide +kernel
theorem s109_37 {a0 a2 : Option AV} {st : List AV} {m : MM} {x : Int32} : go 109 37 [a0, some (.inl x), a2] st m = go 109 38 [a0, some (.inl x), a2] (.inl x :: st) m := e_1 d109_37 (Or.inl rfl) rfl
theorem d109_38 : decode (mt 109).2.1 38 = .ok (.iload_n 2, 1) := by decide +kernel
theorem s109_38 {a0 a1 : Option AV} {st : List AV} {m : MM} {x : Int32} : go 109 38 [a0, a1, some (.inl x)] st m = go 109 39 [a0, a1, some (.inl x)] (.inl x :: st) m := e_1 d109_38 (Or.inl rfl) rfl
theorem d109_39 : decode (mt 109).2.1 39 = .ok (.invokevirtual 132, 3) := by decide +kernel
theorem s109_39 {ls : LV} {m : MM} {x0 : Int32} {x1 : Int32} {n : Nat} : go 109 39 ls [.inl x1, .inl x0, .inr (.inr (8, some n))] m = bd (go 106 0 [some (.inr (.inr (8, some n))), some (.inl x0), some (.inl x1), none] [] m) (fun v m2 => go 109 42 ls (v.toList ++ []) m2) := e_virt (y1 := 106) (na := 2) (as := [.inl x0, .inl x1]) (rest := []) d109_39 (by decide +kernel) rfl (by decide +kernel) (show (ent [.inr (.inr (8, some n)), .inl x0, .inl x1]).length ≤ (mt 106).2.2.2.1 from Nat.le_of_ble_eq_true rfl) (cats_le (Nat.le_of_ble_eq_true rfl)) (by decide +kernel)
theorem d109_42 : decode (mt 109).2.1 42 = .ok (.ireturn, 1) := by decide +kernel
theorem s109_42 {ls : LV} {m : MM} {x : Int32} : go 109 42 ls [.inl x] m = some (some (.inl x), m) := e_int d109_42 (by decide +kernel)
/-! X7_drawn: 110 -/
theorem d110_0 : decode (mt 110).2.1 0 = .ok (.aload_n 0, 1) := by decide +kernel
theorem s110_0 {a1 : Option AV} {st : List AV} {m : MM} {x : Nat × Option Nat} : go 110 0 [some (.inr (.inr x)), a1] st m = go 110 1 [some (.inr (.inr x)), a1] (.inr (.inr x) :: st) m := e_1 d110_0 (Or.inl rfl) rfl
theorem d110_1 : decode (mt 110).2.1 1 = .ok (.iload_n 1, 1) := by decide +kernel
theorem s110_1 {a0 : Option AV} {st : List AV} {m : MM} {x : Int32} : go 110 1 [a0, some (.inl x)] st m = go 110 2 [a0, some (.inl x)] (.inl x :: st) m := e_1 d110_1 (Or.inl rfl) rfl
theorem d110_2 : decode (mt 110).2.1 2 = .ok (.invokevirtual 126, 3) := by decide +kernel
theorem s110_2 {ls : LV} {m : MM} {x0 : Int32} {n : Nat} : go 110 2 ls [.inl x0, .inr (.inr (8, some n))] m = bd (go 105 0 [some (.inr (.inr (8, some n))), some (.inl x0), none, none] [] m) (fun v m2 => go 110 5 ls (v.toList ++ []) m2) := e_virt (y1 := 105) (na := 1) (as := [.inl x0]) (rest := []) d110_2 (by decide +kernel) rfl (by decide +kernel) (show (ent [.inr (.inr (8, some n)), .inl x0]).length ≤ (mt 105).2.2.2.1 from Nat.le_of_ble_eq_true rfl) (cats_le (Nat.le_of_ble_eq_true rfl)) (by decide +kernel)
theorem d110_5 : decode (mt 110).2.1 5 = .ok (.ifCond .eq 5, 3) := by decide +kernel
theorem s110_5 {ls : LV} {st : List AV} {m : MM} {a : Int32} : go 110 5 ls (.inl a :: st) m = if a = 0 then go 110 10 ls st m else go 110 8 ls st m := e_if (t := 10) (b := hc .eq a 0) d110_5 (Or.inl rfl) (by simp only [xi, pI, jm_some (t := 10) (show ((5 : Nat) : Int) + 5 = ((10 : Nat) : Int) by decide), Option.bind_some]) (by simp [hc])
theorem d110_8 : decode (mt 110).2.1 8 = .ok (.iconst (-1), 1) := by decide +kernel
theorem s110_8 {ls : LV} {st : List AV} {m : MM} : go 110 8 ls st m = go 110 9 ls (.inl (-1) :: st) m := e_1 d110_8 (Or.inl rfl) rfl
theorem d110_9 : decode (mt 110).2.1 9 = .ok (.ireturn, 1) := by decide +kernel
theorem s110_9 {ls : LV} {m : MM} {x : Int32} : go 110 9 ls [.inl x] m = some (some (.inl x), m) := e_int d110_9 (by decide +kernel)
theorem d110_10 : decode (mt 110).2.1 10 = .ok (.aload_n 0, 1) := by decide +kernel
theorem s110_10 {a1 : Option AV} {st : List AV} {m : MM} {x : Nat × Option Nat} : go 110 10 [some (.inr (.inr x)), a1] st m = go 110 11 [some (.inr (.inr x)), a1] (.inr (.inr x) :: st) m := e_1 d110_10 (Or.inl rfl) rfl
theorem d110_11 : decode (mt 110).2.1 11 = .ok (.getfield 115, 3) := by decide +kernel
theorem s110_11 {ls : LV} {st : List AV} {m : MM} {n : Nat} : go 110 11 ls (.inr (.inr (8, some n)) :: st) m = go 110 14 ls (.inl (mI m 8 n 0) :: st) m := e_1 d110_11 (Or.inl rfl) (by rw [xi, pA, show lk fdL (mt 110).2.2.1 115 = some (8, 0) by decide +kernel]; rfl)
theorem d110_14 : decode (mt 110).2.1 14 = .ok (.bipush 32, 2) := by decide +kernel
theorem s110_14 {ls : LV} {st : List AV} {m : MM} : go 110 14 ls st m = go 110 16 ls (.inl 32 :: st) m := e_1 d110_14 (Or.inl rfl) rfl
theorem d110_16 : decode (mt 110).2.1 16 = .ok (.if_icmp .ne 6, 3) := by decide +kernel
theorem s110_16 {ls : LV} {st : List AV} {m : MM} {a b : Int32} : go 110 16 ls (.inl b :: .inl a :: st) m = if ¬ a = b then go 110 22 ls st m else go 110 19 ls st m := e_if (t := 22) (b := hc .ne a b) d110_16 (Or.inl rfl) (by simp only [xi, pI, jm_some (t := 22) (show ((16 : Nat) : Int) + 6 = ((22 : Nat) : Int) by decide), Option.bind_some]) (by simp [hc])
theorem d110_19 : decode (mt 110).2.1 19 = .ok (.bipush (-3), 2) := by decide +kernel
theorem s110_19 {ls : LV} {st : List AV} {m : MM} : go 110 19 ls st m = go 110 21 ls (.inl (-3) :: st) m := e_1 d110_19 (Or.inl rfl) rfl
theorem d110_21 : decode (mt 110).2.1 21 = .ok (.ireturn, 1) := by decide +kernel
theorem s110_21 {ls : LV} {m : MM} {x : Int32} : go 110 21 ls [.inl x] m = some (some (.inl x), m) := e_int d110_21 (by decide +kernel)
theorem d110_22 : decode (mt 110).2.1 22 = .ok (.aload_n 0, 1) := by decide +kernel
theorem s110_22 {a1 : Option AV} {st : List AV} {m : MM} {x : Nat × Option Nat} : go 110 22 [some (.inr (.inr x)), a1] st m = go 110 23 [some (.inr (.inr x)), a1] (.inr (.inr x) :: st) m := e_1 d110_22 (Or.inl rfl) rfl
theorem d110_23 : decode (mt 110).2.1 23 = .ok (.aload_n 0, 1) := by decide +kernel
theorem s110_23 {a1 : Option AV} {st : List AV} {m : MM} {x : Nat × Option Nat} : go 110 23 [some (.inr (.inr x)), a1] st m = go 110 24 [some (.inr (.inr x)), a1] (.inr (.inr x) :: st) m := e_1 d110_23 (Or.inl rfl) rfl
theorem d110_24 : decode (mt 110).2.1 24 = .ok (.getfield 7, 3) := by decide +kernel
theorem s110_24 {ls : LV} {st : List AV} {m : MM} {n : Nat} : go 110 24 ls (.inr (.inr (8, some n)) :: st) m = go 110 27 ls (.inl (mI m 8 n 1) :: st) m := e_1 d110_24 (Or.inl rfl) (by rw [xi, pA, show lk fdL (mt 110).2.2.1 7 = some (8, 1) by decide +kernel]; rfl)
theorem d110_27 : decode (mt 110).2.1 27 = .ok (.ldc 136, 2) := by decide +kernel
theorem s110_27 {ls : LV} {st : List AV} {m : MM} : go 110 27 ls st m = go 110 29 ls (.inl 1103515245 :: st) m := e_1 d110_27 (Or.inl rfl) (by rw [xi, show lk ciL (mt 110).2.2.1 136 = some 1103515245 by decide +kernel]; rfl)
theorem d110_29 : decode (mt 110).2.1 29 = .ok (.imul, 1) := by decide +kernel
theorem s110_29 {ls : LV} {st : List AV} {m : MM} {a b : Int32} : go 110 29 ls (.inl b :: .inl a :: st) m = go 110 30 ls (.inl (a * b) :: st) m := e_1 d110_29 (Or.inl rfl) rfl
theorem d110_30 : decode (mt 110).2.1 30 = .ok (.sipush 12345, 3) := by decide +kernel
theorem s110_30 {ls : LV} {st : List AV} {m : MM} : go 110 30 ls st m = go 110 33 ls (.inl 12345 :: st) m := e_1 d110_30 (Or.inl rfl) rfl
theorem d110_33 : decode (mt 110).2.1 33 = .ok (.iadd, 1) := by decide +kernel
theorem s110_33 {ls : LV} {st : List AV} {m : MM} {a b : Int32} : go 110 33 ls (.inl b :: .inl a :: st) m = go 110 34 ls (.inl (a + b) :: st) m := e_1 d110_33 (Or.inl rfl) rfl
theorem d110_34 : decode (mt 110).2.1 34 = .ok (.putfield 7, 3) := by decide +kernel
theorem s110_34 {ls : LV} {st : List AV} {m : MM} {n : Nat} {x : Int32} : go 110 34 ls (.inl x :: .inr (.inr (8, some n)) :: st) m = go 110 37 ls st (sI m 8 n 1 x) := e_put (r := 8) (f := 1) d110_34 (by decide +kernel) rfl (by decide +kernel)
theorem d110_37 : decode (mt 110).2.1 37 = .ok (.aload_n 0, 1) := by decide +kernel
theorem s110_37 {a1 : Option AV} {st : List AV} {m : MM} {x : Nat × Option Nat} : go 110 37 [some (.inr (.inr x)), a1] st m = go 110 38 [some (.inr (.inr x)), a1] (.inr (.inr x) :: st) m := e_1 d110_37 (Or.inl rfl) rfl
theorem d110_38 : decode (mt 110).2.1 38 = .ok (.iload_n 1, 1) := by decide +kernel
theorem s110_38 {a0 : Option AV} {st : List AV} {m : MM} {x : Int32} : go 110 38 [a0, some (.inl x)] st m = go 110 39 [a0, some (.inl x)] (.inl x :: st) m := e_1 d110_38 (Or.inl rfl) rfl
theorem d110_39 : decode (mt 110).2.1 39 = .ok (.aload_n 0, 1) := by decide +kernel
theorem s110_39 {a1 : Option AV} {st : List AV} {m : MM} {x : Nat × Option Nat} : go 110 39 [some (.inr (.inr x)), a1] st m = go 110 40 [some (.inr (.inr x)), a1] (.inr (.inr x) :: st) m := e_1 d110_39 (Or.inl rfl) rfl
theorem d110_40 : decode (mt 110).2.1 40 = .ok (.getfield 7, 3) := by decide +kernel
theorem s110_40 {ls : LV} {st : List AV} {m : MM} {n : Nat} : go 110 40 ls (.inr (.inr (8, some n)) :: st) m = go 110 43 ls (.inl (mI m 8 n 1) :: st) m := e_1 d110_40 (Or.inl rfl) (by rw [xi, pA, show lk fdL (mt 110).2.2.1 7 = some (8, 1) by decide +kernel]; rfl)
theorem d110_43 : decode (mt 110).2.1 43 = .ok (.bipush 16, 2) := by decide +kernel
theorem s110_43 {ls : LV} {st : List AV} {m : MM} : go 110 43 ls st m = go 110 45 ls (.inl 16 :: st) m := e_1 d110_43 (Or.inl rfl) rfl
theorem d110_45 : decode (mt 110).2.1 45 = .ok (.ishr, 1) := by decide +kernel
theorem s110_45 {ls : LV} {st : List AV} {m : MM} {a b : Int32} : go 110 45 ls (.inl b :: .inl a :: st) m = go 110 46 ls (.inl (a >>> (b &&& 31)) :: st) m := e_1 d110_45 (Or.inl rfl) rfl
theorem d110_46 : decode (mt 110).2.1 46 = .ok (.sipush 255, 3) := by decide +kernel
theorem s110_46 {ls : LV} {st : List AV} {m : MM} : go 110 46 ls st m = go 110 49 ls (.inl 255 :: st) m := e_1 d110_46 (Or.inl rfl) rfl
theorem d110_49 : decode (mt 110).2.1 49 = .ok (.iand, 1) := by decide +kernel
theorem s110_49 {ls : LV} {st : List AV} {m : MM} {a b : Int32} : go 110 49 ls (.inl b :: .inl a :: st) m = go 110 50 ls (.inl (a &&& b) :: st) m := e_1 d110_49 (Or.inl rfl) rfl
theorem d110_50 : decode (mt 110).2.1 50 = .ok (.invokevirtual 132, 3) := by decide +kernel
theorem s110_50 {ls : LV} {m : MM} {x0 : Int32} {x1 : Int32} {n : Nat} : go 110 50 ls [.inl x1, .inl x0, .inr (.inr (8, some n))] m = bd (go 106 0 [some (.inr (.inr (8, some n))), some (.inl x0), some (.inl x1), none] [] m) (fun v m2 => go 110 53 ls (v.toList ++ []) m2) := e_virt (y1 := 106) (na := 2) (as := [.inl x0, .inl x1]) (rest := []) d110_50 (by decide +kernel) rfl (by decide +kernel) (show (ent [.inr (.inr (8, some n)), .inl x0, .inl x1]).length ≤ (mt 106).2.2.2.1 from Nat.le_of_ble_eq_true rfl) (cats_le (Nat.le_of_ble_eq_true rfl)) (by decide +kernel)
theorem d110_53 : decode (mt 110).2.1 53 = .ok (.ireturn, 1) := by decide +kernel
theorem s110_53 {ls : LV} {m : MM} {x : Int32} : go 110 53 ls [.inl x] m = some (some (.inl x), m) := e_int d110_53 (by decide +kernel)
/-! X7_seed: 111 -/
theorem d111_0 : decode (mt 111).2.1 0 = .ok (.aload_n 0, 1) := by decide +kernel
theorem s111_0 {a1 : Option AV} {st : List AV} {m : MM} {x : Nat × Option Nat} : go 111 0 [some (.inr (.inr x)), a1] st m = go 111 1 [some (.inr (.inr x)), a1] (.inr (.inr x) :: st) m := e_1 d111_0 (Or.inl rfl) rfl
theorem d111_1 : decode (mt 111).2.1 1 = .ok (.iload_n 1, 1) := by decide +kernel
theorem s111_1 {a0 : Option AV} {st : List AV} {m : MM} {x : Int32} : go 111 1 [a0, some (.inl x)] st m = go 111 2 [a0, some (.inl x)] (.inl x :: st) m := e_1 d111_1 (Or.inl rfl) rfl
theorem d111_2 : decode (mt 111).2.1 2 = .ok (.putfield 7, 3) := by decide +kernel
theorem s111_2 {ls : LV} {st : List AV} {m : MM} {n : Nat} {x : Int32} : go 111 2 ls (.inl x :: .inr (.inr (8, some n)) :: st) m = go 111 5 ls st (sI m 8 n 1 x) := e_put (r := 8) (f := 1) d111_2 (by decide +kernel) rfl (by decide +kernel)
theorem d111_5 : decode (mt 111).2.1 5 = .ok (.iconst 1, 1) := by decide +kernel
theorem s111_5 {ls : LV} {st : List AV} {m : MM} : go 111 5 ls st m = go 111 6 ls (.inl 1 :: st) m := e_1 d111_5 (Or.inl rfl) rfl
theorem d111_6 : decode (mt 111).2.1 6 = .ok (.ireturn, 1) := by decide +kernel
theorem s111_6 {ls : LV} {m : MM} {x : Int32} : go 111 6 ls [.inl x] m = some (some (.inl x), m) := e_int d111_6 (by decide +kernel)
/-! X7_leftOf: 112 -/
theorem d112_0 : decode (mt 112).2.1 0 = .ok (.aload_n 0, 1) := by decide +kernel
theorem s112_0 {a1 a2 : Option AV} {st : List AV} {m : MM} {x : Nat × Option Nat} : go 112 0 [some (.inr (.inr x)), a1, a2] st m = go 112 1 [some (.inr (.inr x)), a1, a2] (.inr (.inr x) :: st) m := e_1 d112_0 (Or.inl rfl) rfl
theorem d112_1 : decode (mt 112).2.1 1 = .ok (.getfield 26, 3) := by decide +kernel
theorem s112_1 {ls : LV} {st : List AV} {m : MM} {n : Nat} : go 112 1 ls (.inr (.inr (8, some n)) :: st) m = go 112 4 ls (.inr (.inr (23, mR m 8 n 6)) :: st) m := e_1 d112_1 (Or.inl rfl) (by rw [xi, pA, show lk fdL (mt 112).2.2.1 26 = some (8, 6) by decide +kernel]; rfl)
theorem d112_4 : decode (mt 112).2.1 4 = .ok (.bipush 9, 2) := by decide +kernel
theorem s112_4 {ls : LV} {st : List AV} {m : MM} : go 112 4 ls st m = go 112 6 ls (.inl 9 :: st) m := e_1 d112_4 (Or.inl rfl) rfl
theorem d112_6 : decode (mt 112).2.1 6 = .ok (.iload_n 1, 1) := by decide +kernel
theorem s112_6 {a0 a2 : Option AV} {st : List AV} {m : MM} {x : Int32} : go 112 6 [a0, some (.inl x), a2] st m = go 112 7 [a0, some (.inl x), a2] (.inl x :: st) m := e_1 d112_6 (Or.inl rfl) rfl
theorem d112_7 : decode (mt 112).2.1 7 = .ok (.imul, 1) := by decide +kernel
theorem s112_7 {ls : LV} {st : List AV} {m : MM} {a b : Int32} : go 112 7 ls (.inl b :: .inl a :: st) m = go 112 8 ls (.inl (a * b) :: st) m := e_1 d112_7 (Or.inl rfl) rfl
theorem d112_8 : decode (mt 112).2.1 8 = .ok (.iload_n 2, 1) := by decide +kernel
theorem s112_8 {a0 a1 : Option AV} {st : List AV} {m : MM} {x : Int32} : go 112 8 [a0, a1, some (.inl x)] st m = go 112 9 [a0, a1, some (.inl x)] (.inl x :: st) m := e_1 d112_8 (Or.inl rfl) rfl
theorem d112_9 : decode (mt 112).2.1 9 = .ok (.iadd, 1) := by decide +kernel
theorem s112_9 {ls : LV} {st : List AV} {m : MM} {a b : Int32} : go 112 9 ls (.inl b :: .inl a :: st) m = go 112 10 ls (.inl (a + b) :: st) m := e_1 d112_9 (Or.inl rfl) rfl
theorem d112_10 : decode (mt 112).2.1 10 = .ok (.baload, 1) := by decide +kernel
theorem s112_10 {ls : LV} {st : List AV} {m : MM} {n : Nat} {i : Int32} : go 112 10 ls (.inl i :: .inr (.inr (23, some n)) :: st) m = ixk (ix i (mN m 23 n)) (fun j => go 112 11 ls (.inl (mI m 23 n j) :: st) m) := e_ald d112_10 (fun j hj => by simp only [xi, pI, pA, hj, Option.bind_some]; rfl) (fun hj => by simp only [xi, pI, pA, hj, Option.bind_none])
theorem d112_11 : decode (mt 112).2.1 11 = .ok (.ifCond .eq 17, 3) := by decide +kernel
theorem s112_11 {ls : LV} {st : List AV} {m : MM} {a : Int32} : go 112 11 ls (.inl a :: st) m = if a = 0 then go 112 28 ls st m else go 112 14 ls st m := e_if (t := 28) (b := hc .eq a 0) d112_11 (Or.inl rfl) (by simp only [xi, pI, jm_some (t := 28) (show ((11 : Nat) : Int) + 17 = ((28 : Nat) : Int) by decide), Option.bind_some]) (by simp [hc])
theorem d112_14 : decode (mt 112).2.1 14 = .ok (.aload_n 0, 1) := by decide +kernel
theorem s112_14 {a1 a2 : Option AV} {st : List AV} {m : MM} {x : Nat × Option Nat} : go 112 14 [some (.inr (.inr x)), a1, a2] st m = go 112 15 [some (.inr (.inr x)), a1, a2] (.inr (.inr x) :: st) m := e_1 d112_14 (Or.inl rfl) rfl
theorem d112_15 : decode (mt 112).2.1 15 = .ok (.getfield 30, 3) := by decide +kernel
theorem s112_15 {ls : LV} {st : List AV} {m : MM} {n : Nat} : go 112 15 ls (.inr (.inr (8, some n)) :: st) m = go 112 18 ls (.inr (.inr (24, mR m 8 n 7)) :: st) m := e_1 d112_15 (Or.inl rfl) (by rw [xi, pA, show lk fdL (mt 112).2.2.1 30 = some (8, 7) by decide +kernel]; rfl)
theorem d112_18 : decode (mt 112).2.1 18 = .ok (.bipush 9, 2) := by decide +kernel
theorem s112_18 {ls : LV} {st : List AV} {m : MM} : go 112 18 ls st m = go 112 20 ls (.inl 9 :: st) m := e_1 d112_18 (Or.inl rfl) rfl
theorem d112_20 : decode (mt 112).2.1 20 = .ok (.iload_n 1, 1) := by decide +kernel
theorem s112_20 {a0 a2 : Option AV} {st : List AV} {m : MM} {x : Int32} : go 112 20 [a0, some (.inl x), a2] st m = go 112 21 [a0, some (.inl x), a2] (.inl x :: st) m := e_1 d112_20 (Or.inl rfl) rfl
theorem d112_21 : decode (mt 112).2.1 21 = .ok (.imul, 1) := by decide +kernel
theorem s112_21 {ls : LV} {st : List AV} {m : MM} {a b : Int32} : go 112 21 ls (.inl b :: .inl a :: st) m = go 112 22 ls (.inl (a * b) :: st) m := e_1 d112_21 (Or.inl rfl) rfl
theorem d112_22 : decode (mt 112).2.1 22 = .ok (.iload_n 2, 1) := by decide +kernel
theorem s112_22 {a0 a1 : Option AV} {st : List AV} {m : MM} {x : Int32} : go 112 22 [a0, a1, some (.inl x)] st m = go 112 23 [a0, a1, some (.inl x)] (.inl x :: st) m := e_1 d112_22 (Or.inl rfl) rfl
theorem d112_23 : decode (mt 112).2.1 23 = .ok (.iadd, 1) := by decide +kernel
theorem s112_23 {ls : LV} {st : List AV} {m : MM} {a b : Int32} : go 112 23 ls (.inl b :: .inl a :: st) m = go 112 24 ls (.inl (a + b) :: st) m := e_1 d112_23 (Or.inl rfl) rfl
theorem d112_24 : decode (mt 112).2.1 24 = .ok (.iaload, 1) := by decide +kernel
theorem s112_24 {ls : LV} {st : List AV} {m : MM} {n : Nat} {i : Int32} : go 112 24 ls (.inl i :: .inr (.inr (24, some n)) :: st) m = ixk (ix i (mN m 24 n)) (fun j => go 112 25 ls (.inl (mI m 24 n j) :: st) m) := e_ald d112_24 (fun j hj => by simp only [xi, pI, pA, hj, Option.bind_some]; rfl) (fun hj => by simp only [xi, pI, pA, hj, Option.bind_none])
theorem d112_25 : decode (mt 112).2.1 25 = .ok (.goto 5, 3) := by decide +kernel
theorem s112_25 {ls : LV} {st : List AV} {m : MM} : go 112 25 ls st m = go 112 30 ls st m := e_1 d112_25 (Or.inl rfl) (by rw [xi, jm_some (t := 30) (by decide)]; rfl)
theorem d112_28 : decode (mt 112).2.1 28 = .ok (.bipush (-4), 2) := by decide +kernel
theorem s112_28 {ls : LV} {st : List AV} {m : MM} : go 112 28 ls st m = go 112 30 ls (.inl (-4) :: st) m := e_1 d112_28 (Or.inl rfl) rfl
theorem d112_30 : decode (mt 112).2.1 30 = .ok (.ireturn, 1) := by decide +kernel
theorem s112_30 {ls : LV} {m : MM} {x : Int32} : go 112 30 ls [.inl x] m = some (some (.inl x), m) := e_int d112_30 (by decide +kernel)
/-! X7_rightOf: 113 -/
theorem d113_0 : decode (mt 113).2.1 0 = .ok (.aload_n 0, 1) := by decide +kernel
theorem s113_0 {a1 a2 : Option AV} {st : List AV} {m : MM} {x : Nat × Option Nat} : go 113 0 [some (.inr (.inr x)), a1, a2] st m = go 113 1 [some (.inr (.inr x)), a1, a2] (.inr (.inr x) :: st) m := e_1 d113_0 (Or.inl rfl) rfl
theorem d113_1 : decode (mt 113).2.1 1 = .ok (.getfield 26, 3) := by decide +kernel
theorem s113_1 {ls : LV} {st : List AV} {m : MM} {n : Nat} : go 113 1 ls (.inr (.inr (8, some n)) :: st) m = go 113 4 ls (.inr (.inr (23, mR m 8 n 6)) :: st) m := e_1 d113_1 (Or.inl rfl) (by rw [xi, pA, show lk fdL (mt 113).2.2.1 26 = some (8, 6) by decide +kernel]; rfl)
theorem d113_4 : decode (mt 113).2.1 4 = .ok (.bipush 9, 2) := by decide +kernel
theorem s113_4 {ls : LV} {st : List AV} {m : MM} : go 113 4 ls st m = go 113 6 ls (.inl 9 :: st) m := e_1 d113_4 (Or.inl rfl) rfl
theorem d113_6 : decode (mt 113).2.1 6 = .ok (.iload_n 1, 1) := by decide +kernel
theorem s113_6 {a0 a2 : Option AV} {st : List AV} {m : MM} {x : Int32} : go 113 6 [a0, some (.inl x), a2] st m = go 113 7 [a0, some (.inl x), a2] (.inl x :: st) m := e_1 d113_6 (Or.inl rfl) rfl
theorem d113_7 : decode (mt 113).2.1 7 = .ok (.imul, 1) := by decide +kernel
theorem s113_7 {ls : LV} {st : List AV} {m : MM} {a b : Int32} : go 113 7 ls (.inl b :: .inl a :: st) m = go 113 8 ls (.inl (a * b) :: st) m := e_1 d113_7 (Or.inl rfl) rfl
theorem d113_8 : decode (mt 113).2.1 8 = .ok (.iload_n 2, 1) := by decide +kernel
theorem s113_8 {a0 a1 : Option AV} {st : List AV} {m : MM} {x : Int32} : go 113 8 [a0, a1, some (.inl x)] st m = go 113 9 [a0, a1, some (.inl x)] (.inl x :: st) m := e_1 d113_8 (Or.inl rfl) rfl
theorem d113_9 : decode (mt 113).2.1 9 = .ok (.iadd, 1) := by decide +kernel
theorem s113_9 {ls : LV} {st : List AV} {m : MM} {a b : Int32} : go 113 9 ls (.inl b :: .inl a :: st) m = go 113 10 ls (.inl (a + b) :: st) m := e_1 d113_9 (Or.inl rfl) rfl
theorem d113_10 : decode (mt 113).2.1 10 = .ok (.baload, 1) := by decide +kernel
theorem s113_10 {ls : LV} {st : List AV} {m : MM} {n : Nat} {i : Int32} : go 113 10 ls (.inl i :: .inr (.inr (23, some n)) :: st) m = ixk (ix i (mN m 23 n)) (fun j => go 113 11 ls (.inl (mI m 23 n j) :: st) m) := e_ald d113_10 (fun j hj => by simp only [xi, pI, pA, hj, Option.bind_some]; rfl) (fun hj => by simp only [xi, pI, pA, hj, Option.bind_none])
theorem d113_11 : decode (mt 113).2.1 11 = .ok (.ifCond .eq 17, 3) := by decide +kernel
theorem s113_11 {ls : LV} {st : List AV} {m : MM} {a : Int32} : go 113 11 ls (.inl a :: st) m = if a = 0 then go 113 28 ls st m else go 113 14 ls st m := e_if (t := 28) (b := hc .eq a 0) d113_11 (Or.inl rfl) (by simp only [xi, pI, jm_some (t := 28) (show ((11 : Nat) : Int) + 17 = ((28 : Nat) : Int) by decide), Option.bind_some]) (by simp [hc])
theorem d113_14 : decode (mt 113).2.1 14 = .ok (.aload_n 0, 1) := by decide +kernel
theorem s113_14 {a1 a2 : Option AV} {st : List AV} {m : MM} {x : Nat × Option Nat} : go 113 14 [some (.inr (.inr x)), a1, a2] st m = go 113 15 [some (.inr (.inr x)), a1, a2] (.inr (.inr x) :: st) m := e_1 d113_14 (Or.inl rfl) rfl
theorem d113_15 : decode (mt 113).2.1 15 = .ok (.getfield 33, 3) := by decide +kernel
theorem s113_15 {ls : LV} {st : List AV} {m : MM} {n : Nat} : go 113 15 ls (.inr (.inr (8, some n)) :: st) m = go 113 18 ls (.inr (.inr (25, mR m 8 n 8)) :: st) m := e_1 d113_15 (Or.inl rfl) (by rw [xi, pA, show lk fdL (mt 113).2.2.1 33 = some (8, 8) by decide +kernel]; rfl)
theorem d113_18 : decode (mt 113).2.1 18 = .ok (.bipush 9, 2) := by decide +kernel
theorem s113_18 {ls : LV} {st : List AV} {m : MM} : go 113 18 ls st m = go 113 20 ls (.inl 9 :: st) m := e_1 d113_18 (Or.inl rfl) rfl
theorem d113_20 : decode (mt 113).2.1 20 = .ok (.iload_n 1, 1) := by decide +kernel
theorem s113_20 {a0 a2 : Option AV} {st : List AV} {m : MM} {x : Int32} : go 113 20 [a0, some (.inl x), a2] st m = go 113 21 [a0, some (.inl x), a2] (.inl x :: st) m := e_1 d113_20 (Or.inl rfl) rfl
theorem d113_21 : decode (mt 113).2.1 21 = .ok (.imul, 1) := by decide +kernel
theorem s113_21 {ls : LV} {st : List AV} {m : MM} {a b : Int32} : go 113 21 ls (.inl b :: .inl a :: st) m = go 113 22 ls (.inl (a * b) :: st) m := e_1 d113_21 (Or.inl rfl) rfl
theorem d113_22 : decode (mt 113).2.1 22 = .ok (.iload_n 2, 1) := by decide +kernel
theorem s113_22 {a0 a1 : Option AV} {st : List AV} {m : MM} {x : Int32} : go 113 22 [a0, a1, some (.inl x)] st m = go 113 23 [a0, a1, some (.inl x)] (.inl x :: st) m := e_1 d113_22 (Or.inl rfl) rfl
theorem d113_23 : decode (mt 113).2.1 23 = .ok (.iadd, 1) := by decide +kernel
theorem s113_23 {ls : LV} {st : List AV} {m : MM} {a b : Int32} : go 113 23 ls (.inl b :: .inl a :: st) m = go 113 24 ls (.inl (a + b) :: st) m := e_1 d113_23 (Or.inl rfl) rfl
theorem d113_24 : decode (mt 113).2.1 24 = .ok (.iaload, 1) := by decide +kernel
theorem s113_24 {ls : LV} {st : List AV} {m : MM} {n : Nat} {i : Int32} : go 113 24 ls (.inl i :: .inr (.inr (25, some n)) :: st) m = ixk (ix i (mN m 25 n)) (fun j => go 113 25 ls (.inl (mI m 25 n j) :: st) m) := e_ald d113_24 (fun j hj => by simp only [xi, pI, pA, hj, Option.bind_some]; rfl) (fun hj => by simp only [xi, pI, pA, hj, Option.bind_none])
theorem d113_25 : decode (mt 113).2.1 25 = .ok (.goto 5, 3) := by decide +kernel
theorem s113_25 {ls : LV} {st : List AV} {m : MM} : go 113 25 ls st m = go 113 30 ls st m := e_1 d113_25 (Or.inl rfl) (by rw [xi, jm_some (t := 30) (by decide)]; rfl)
theorem d113_28 : decode (mt 113).2.1 28 = .ok (.bipush (-4), 2) := by decide +kernel
theorem s113_28 {ls : LV} {st : List AV} {m : MM} : go 113 28 ls st m = go 113 30 ls (.inl (-4) :: st) m := e_1 d113_28 (Or.inl rfl) rfl
theorem d113_30 : decode (mt 113).2.1 30 = .ok (.ireturn, 1) := by decide +kernel
theorem s113_30 {ls : LV} {m : MM} {x : Int32} : go 113 30 ls [.inl x] m = some (some (.inl x), m) := e_int d113_30 (by decide +kernel)
/-! X7_areLike: 114 -/
theorem d114_0 : decode (mt 114).2.1 0 = .ok (.aload_n 0, 1) := by decide +kernel
theorem s114_0 {a1 a2 a3 : Option AV} {st : List AV} {m : MM} {x : Nat × Option Nat} : go 114 0 [some (.inr (.inr x)), a1, a2, a3] st m = go 114 1 [some (.inr (.inr x)), a1, a2, a3] (.inr (.inr x) :: st) m := e_1 d114_0 (Or.inl rfl) rfl
theorem d114_1 : decode (mt 114).2.1 1 = .ok (.getfield 17, 3) := by decide +kernel
theorem s114_1 {ls : LV} {st : List AV} {m : MM} {n : Nat} : go 114 1 ls (.inr (.inr (8, some n)) :: st) m = go 114 4 ls (.inr (.inr (20, mR m 8 n 3)) :: st) m := e_1 d114_1 (Or.inl rfl) (by rw [xi, pA, show lk fdL (mt 114).2.2.1 17 = some (8, 3) by decide +kernel]; rfl)
theorem d114_4 : decode (mt 114).2.1 4 = .ok (.iload_n 1, 1) := by decide +kernel
theorem s114_4 {a0 a2 a3 : Option AV} {st : List AV} {m : MM} {x : Int32} : go 114 4 [a0, some (.inl x), a2, a3] st m = go 114 5 [a0, some (.inl x), a2, a3] (.inl x :: st) m := e_1 d114_4 (Or.inl rfl) rfl
theorem d114_5 : decode (mt 114).2.1 5 = .ok (.iaload, 1) := by decide +kernel
theorem s114_5 {ls : LV} {st : List AV} {m : MM} {n : Nat} {i : Int32} : go 114 5 ls (.inl i :: .inr (.inr (20, some n)) :: st) m = ixk (ix i (mN m 20 n)) (fun j => go 114 6 ls (.inl (mI m 20 n j) :: st) m) := e_ald d114_5 (fun j hj => by simp only [xi, pI, pA, hj, Option.bind_some]; rfl) (fun hj => by simp only [xi, pI, pA, hj, Option.bind_none])
theorem d114_6 : decode (mt 114).2.1 6 = .ok (.aload_n 0, 1) := by decide +kernel
theorem s114_6 {a1 a2 a3 : Option AV} {st : List AV} {m : MM} {x : Nat × Option Nat} : go 114 6 [some (.inr (.inr x)), a1, a2, a3] st m = go 114 7 [some (.inr (.inr x)), a1, a2, a3] (.inr (.inr x) :: st) m := e_1 d114_6 (Or.inl rfl) rfl
theorem d114_7 : decode (mt 114).2.1 7 = .ok (.getfield 17, 3) := by decide +kernel
theorem s114_7 {ls : LV} {st : List AV} {m : MM} {n : Nat} : go 114 7 ls (.inr (.inr (8, some n)) :: st) m = go 114 10 ls (.inr (.inr (20, mR m 8 n 3)) :: st) m := e_1 d114_7 (Or.inl rfl) (by rw [xi, pA, show lk fdL (mt 114).2.2.1 17 = some (8, 3) by decide +kernel]; rfl)
theorem d114_10 : decode (mt 114).2.1 10 = .ok (.iload_n 2, 1) := by decide +kernel
theorem s114_10 {a0 a1 a3 : Option AV} {st : List AV} {m : MM} {x : Int32} : go 114 10 [a0, a1, some (.inl x), a3] st m = go 114 11 [a0, a1, some (.inl x), a3] (.inl x :: st) m := e_1 d114_10 (Or.inl rfl) rfl
theorem d114_11 : decode (mt 114).2.1 11 = .ok (.iaload, 1) := by decide +kernel
theorem s114_11 {ls : LV} {st : List AV} {m : MM} {n : Nat} {i : Int32} : go 114 11 ls (.inl i :: .inr (.inr (20, some n)) :: st) m = ixk (ix i (mN m 20 n)) (fun j => go 114 12 ls (.inl (mI m 20 n j) :: st) m) := e_ald d114_11 (fun j hj => by simp only [xi, pI, pA, hj, Option.bind_some]; rfl) (fun hj => by simp only [xi, pI, pA, hj, Option.bind_none])
theorem d114_12 : decode (mt 114).2.1 12 = .ok (.ixor, 1) := by decide +kernel
theorem s114_12 {ls : LV} {st : List AV} {m : MM} {a b : Int32} : go 114 12 ls (.inl b :: .inl a :: st) m = go 114 13 ls (.inl (a ^^^ b) :: st) m := e_1 d114_12 (Or.inl rfl) rfl
theorem d114_13 : decode (mt 114).2.1 13 = .ok (.iconst 1, 1) := by decide +kernel
theorem s114_13 {ls : LV} {st : List AV} {m : MM} : go 114 13 ls st m = go 114 14 ls (.inl 1 :: st) m := e_1 d114_13 (Or.inl rfl) rfl
theorem d114_14 : decode (mt 114).2.1 14 = .ok (.iload_n 3, 1) := by decide +kernel
theorem s114_14 {a0 a1 a2 : Option AV} {st : List AV} {m : MM} {x : Int32} : go 114 14 [a0, a1, a2, some (.inl x)] st m = go 114 15 [a0, a1, a2, some (.inl x)] (.inl x :: st) m := e_1 d114_14 (Or.inl rfl) rfl
theorem d114_15 : decode (mt 114).2.1 15 = .ok (.ishl, 1) := by decide +kernel
theorem s114_15 {ls : LV} {st : List AV} {m : MM} {a b : Int32} : go 114 15 ls (.inl b :: .inl a :: st) m = go 114 16 ls (.inl (a <<< (b &&& 31)) :: st) m := e_1 d114_15 (Or.inl rfl) rfl
theorem d114_16 : decode (mt 114).2.1 16 = .ok (.iconst 1, 1) := by decide +kernel
theorem s114_16 {ls : LV} {st : List AV} {m : MM} : go 114 16 ls st m = go 114 17 ls (.inl 1 :: st) m := e_1 d114_16 (Or.inl rfl) rfl
theorem d114_17 : decode (mt 114).2.1 17 = .ok (.isub, 1) := by decide +kernel
theorem s114_17 {ls : LV} {st : List AV} {m : MM} {a b : Int32} : go 114 17 ls (.inl b :: .inl a :: st) m = go 114 18 ls (.inl (a - b) :: st) m := e_1 d114_17 (Or.inl rfl) rfl
theorem d114_18 : decode (mt 114).2.1 18 = .ok (.iand, 1) := by decide +kernel
theorem s114_18 {ls : LV} {st : List AV} {m : MM} {a b : Int32} : go 114 18 ls (.inl b :: .inl a :: st) m = go 114 19 ls (.inl (a &&& b) :: st) m := e_1 d114_18 (Or.inl rfl) rfl
theorem d114_19 : decode (mt 114).2.1 19 = .ok (.ifCond .ne 7, 3) := by decide +kernel
theorem s114_19 {ls : LV} {st : List AV} {m : MM} {a : Int32} : go 114 19 ls (.inl a :: st) m = if ¬ a = 0 then go 114 26 ls st m else go 114 22 ls st m := e_if (t := 26) (b := hc .ne a 0) d114_19 (Or.inl rfl) (by simp only [xi, pI, jm_some (t := 26) (show ((19 : Nat) : Int) + 7 = ((26 : Nat) : Int) by decide), Option.bind_some]) (by simp [hc])
theorem d114_22 : decode (mt 114).2.1 22 = .ok (.iconst 1, 1) := by decide +kernel
theorem s114_22 {ls : LV} {st : List AV} {m : MM} : go 114 22 ls st m = go 114 23 ls (.inl 1 :: st) m := e_1 d114_22 (Or.inl rfl) rfl
theorem d114_23 : decode (mt 114).2.1 23 = .ok (.goto 4, 3) := by decide +kernel
theorem s114_23 {ls : LV} {st : List AV} {m : MM} : go 114 23 ls st m = go 114 27 ls st m := e_1 d114_23 (Or.inl rfl) (by rw [xi, jm_some (t := 27) (by decide)]; rfl)
theorem d114_26 : decode (mt 114).2.1 26 = .ok (.iconst 0, 1) := by decide +kernel
theorem s114_26 {ls : LV} {st : List AV} {m : MM} : go 114 26 ls st m = go 114 27 ls (.inl 0 :: st) m := e_1 d114_26 (Or.inl rfl) rfl
theorem d114_27 : decode (mt 114).2.1 27 = .ok (.ireturn, 1) := by decide +kernel
theorem s114_27b0 {ls : LV} {m : MM} : go 114 27 ls [.inl 0] m = some (some (.inl 0), m) := e_bool d114_27 (by decide +kernel) (by decide)
theorem s114_27b1 {ls : LV} {m : MM} : go 114 27 ls [.inl 1] m = some (some (.inl 1), m) := e_bool d114_27 (by decide +kernel) (by decide)
/-! X7_store: 115 -/
theorem d115_0 : decode (mt 115).2.1 0 = .ok (.iconst 0, 1) := by decide +kernel
theorem s115_0 {ls : LV} {st : List AV} {m : MM} : go 115 0 ls st m = go 115 1 ls (.inl 0 :: st) m := e_1 d115_0 (Or.inl rfl) rfl
theorem d115_1 : decode (mt 115).2.1 1 = .ok (.istore 5, 2) := by decide +kernel
theorem s115_1i {a0 a1 a2 a3 a5 a6 : Option AV} {z : Int32} {st : List AV} {m : MM} {x : Int32} : go 115 1 [a0, a1, a2, a3, some (.inl z), a5, a6] (.inl x :: st) m = go 115 3 [a0, a1, a2, a3, some (.inl z), some (.inl x), a6] st m := e_1 d115_1 (Or.inl rfl) rfl
theorem s115_1r {a0 a1 a2 a3 a5 a6 : Option AV} {z : Nat × Option Nat} {st : List AV} {m : MM} {x : Int32} : go 115 1 [a0, a1, a2, a3, some (.inr (.inr z)), a5, a6] (.inl x :: st) m = go 115 3 [a0, a1, a2, a3, some (.inr (.inr z)), some (.inl x), a6] st m := e_1 d115_1 (Or.inl rfl) rfl
theorem s115_1n {a0 a1 a2 a3 a5 a6 : Option AV} {st : List AV} {m : MM} {x : Int32} : go 115 1 [a0, a1, a2, a3, none, a5, a6] (.inl x :: st) m = go 115 3 [a0, a1, a2, a3, none, some (.inl x), a6] st m := e_1 d115_1 (Or.inl rfl) rfl
theorem d115_3 : decode (mt 115).2.1 3 = .ok (.iload 5, 2) := by decide +kernel
theorem s115_3 {a0 a1 a2 a3 a4 a6 : Option AV} {st : List AV} {m : MM} {x : Int32} : go 115 3 [a0, a1, a2, a3, a4, some (.inl x), a6] st m = go 115 5 [a0, a1, a2, a3, a4, some (.inl x), a6] (.inl x :: st) m := e_1 d115_3 (Or.inl rfl) rfl
theorem d115_5 : decode (mt 115).2.1 5 = .ok (.aload_n 0, 1) := by decide +kernel
theorem s115_5 {a1 a2 a3 a4 a5 a6 : Option AV} {st : List AV} {m : MM} {x : Nat × Option Nat} : go 115 5 [some (.inr (.inr x)), a1, a2, a3, a4, a5, a6] st m = go 115 6 [some (.inr (.inr x)), a1, a2, a3, a4, a5, a6] (.inr (.inr x) :: st) m := e_1 d115_5 (Or.inl rfl) rfl
theorem d115_6 : decode (mt 115).2.1 6 = .ok (.getfield 42, 3) := by decide +kernel
theorem s115_6 {ls : LV} {st : List AV} {m : MM} {n : Nat} : go 115 6 ls (.inr (.inr (8, some n)) :: st) m = go 115 9 ls (.inr (.inr (28, mR m 8 n 11)) :: st) m := e_1 d115_6 (Or.inl rfl) (by rw [xi, pA, show lk fdL (mt 115).2.2.1 42 = some (8, 11) by decide +kernel]; rfl)
theorem d115_9 : decode (mt 115).2.1 9 = .ok (.iload_n 1, 1) := by decide +kernel
theorem s115_9 {a0 a2 a3 a4 a5 a6 : Option AV} {st : List AV} {m : MM} {x : Int32} : go 115 9 [a0, some (.inl x), a2, a3, a4, a5, a6] st m = go 115 10 [a0, some (.inl x), a2, a3, a4, a5, a6] (.inl x :: st) m := e_1 d115_9 (Or.inl rfl) rfl
theorem d115_10 : decode (mt 115).2.1 10 = .ok (.iaload, 1) := by decide +kernel
theorem s115_10 {ls : LV} {st : List AV} {m : MM} {n : Nat} {i : Int32} : go 115 10 ls (.inl i :: .inr (.inr (28, some n)) :: st) m = ixk (ix i (mN m 28 n)) (fun j => go 115 11 ls (.inl (mI m 28 n j) :: st) m) := e_ald d115_10 (fun j hj => by simp only [xi, pI, pA, hj, Option.bind_some]; rfl) (fun hj => by simp only [xi, pI, pA, hj, Option.bind_none])
theorem d115_11 : decode (mt 115).2.1 11 = .ok (.if_icmp .ge 25, 3) := by decide +kernel
theorem s115_11 {ls : LV} {st : List AV} {m : MM} {a b : Int32} : go 115 11 ls (.inl b :: .inl a :: st) m = if b ≤ a then go 115 36 ls st m else go 115 14 ls st m := e_if (t := 36) (b := hc .ge a b) d115_11 (Or.inl rfl) (by simp only [xi, pI, jm_some (t := 36) (show ((11 : Nat) : Int) + 25 = ((36 : Nat) : Int) by decide), Option.bind_some]) (by simp [hc])
theorem d115_14 : decode (mt 115).2.1 14 = .ok (.aload_n 0, 1) := by decide +kernel
theorem s115_14 {a1 a2 a3 a4 a5 a6 : Option AV} {st : List AV} {m : MM} {x : Nat × Option Nat} : go 115 14 [some (.inr (.inr x)), a1, a2, a3, a4, a5, a6] st m = go 115 15 [some (.inr (.inr x)), a1, a2, a3, a4, a5, a6] (.inr (.inr x) :: st) m := e_1 d115_14 (Or.inl rfl) rfl
theorem d115_15 : decode (mt 115).2.1 15 = .ok (.getfield 45, 3) := by decide +kernel
theorem s115_15 {ls : LV} {st : List AV} {m : MM} {n : Nat} : go 115 15 ls (.inr (.inr (8, some n)) :: st) m = go 115 18 ls (.inr (.inr (29, mR m 8 n 12)) :: st) m := e_1 d115_15 (Or.inl rfl) (by rw [xi, pA, show lk fdL (mt 115).2.2.1 45 = some (8, 12) by decide +kernel]; rfl)
theorem d115_18 : decode (mt 115).2.1 18 = .ok (.bipush 16, 2) := by decide +kernel
theorem s115_18 {ls : LV} {st : List AV} {m : MM} : go 115 18 ls st m = go 115 20 ls (.inl 16 :: st) m := e_1 d115_18 (Or.inl rfl) rfl
theorem d115_20 : decode (mt 115).2.1 20 = .ok (.iload_n 1, 1) := by decide +kernel
theorem s115_20 {a0 a2 a3 a4 a5 a6 : Option AV} {st : List AV} {m : MM} {x : Int32} : go 115 20 [a0, some (.inl x), a2, a3, a4, a5, a6] st m = go 115 21 [a0, some (.inl x), a2, a3, a4, a5, a6] (.inl x :: st) m := e_1 d115_20 (Or.inl rfl) rfl
theorem d115_21 : decode (mt 115).2.1 21 = .ok (.imul, 1) := by decide +kernel
theorem s115_21 {ls : LV} {st : List AV} {m : MM} {a b : Int32} : go 115 21 ls (.inl b :: .inl a :: st) m = go 115 22 ls (.inl (a * b) :: st) m := e_1 d115_21 (Or.inl rfl) rfl
theorem d115_22 : decode (mt 115).2.1 22 = .ok (.iload 5, 2) := by decide +kernel
theorem s115_22 {a0 a1 a2 a3 a4 a6 : Option AV} {st : List AV} {m : MM} {x : Int32} : go 115 22 [a0, a1, a2, a3, a4, some (.inl x), a6] st m = go 115 24 [a0, a1, a2, a3, a4, some (.inl x), a6] (.inl x :: st) m := e_1 d115_22 (Or.inl rfl) rfl
theorem d115_24 : decode (mt 115).2.1 24 = .ok (.iadd, 1) := by decide +kernel
theorem s115_24 {ls : LV} {st : List AV} {m : MM} {a b : Int32} : go 115 24 ls (.inl b :: .inl a :: st) m = go 115 25 ls (.inl (a + b) :: st) m := e_1 d115_24 (Or.inl rfl) rfl
theorem d115_25 : decode (mt 115).2.1 25 = .ok (.iaload, 1) := by decide +kernel
theorem s115_25 {ls : LV} {st : List AV} {m : MM} {n : Nat} {i : Int32} : go 115 25 ls (.inl i :: .inr (.inr (29, some n)) :: st) m = ixk (ix i (mN m 29 n)) (fun j => go 115 26 ls (.inl (mI m 29 n j) :: st) m) := e_ald d115_25 (fun j hj => by simp only [xi, pI, pA, hj, Option.bind_some]; rfl) (fun hj => by simp only [xi, pI, pA, hj, Option.bind_none])
theorem d115_26 : decode (mt 115).2.1 26 = .ok (.iload_n 2, 1) := by decide +kernel
theorem s115_26 {a0 a1 a3 a4 a5 a6 : Option AV} {st : List AV} {m : MM} {x : Int32} : go 115 26 [a0, a1, some (.inl x), a3, a4, a5, a6] st m = go 115 27 [a0, a1, some (.inl x), a3, a4, a5, a6] (.inl x :: st) m := e_1 d115_26 (Or.inl rfl) rfl
theorem d115_27 : decode (mt 115).2.1 27 = .ok (.if_icmp .ge 9, 3) := by decide +kernel
theorem s115_27 {ls : LV} {st : List AV} {m : MM} {a b : Int32} : go 115 27 ls (.inl b :: .inl a :: st) m = if b ≤ a then go 115 36 ls st m else go 115 30 ls st m := e_if (t := 36) (b := hc .ge a b) d115_27 (Or.inl rfl) (by simp only [xi, pI, jm_some (t := 36) (show ((27 : Nat) : Int) + 9 = ((36 : Nat) : Int) by decide), Option.bind_some]) (by simp [hc])
theorem d115_30 : decode (mt 115).2.1 30 = .ok (.iinc 5 1, 3) := by decide +kernel
theorem s115_30i {a0 a1 a2 a3 a6 : Option AV} {z : Int32} {st : List AV} {m : MM} {x : Int32} : go 115 30 [a0, a1, a2, a3, some (.inl z), some (.inl x), a6] st m = go 115 33 [a0, a1, a2, a3, some (.inl z), some (.inl (x + 1)), a6] st m := e_1 d115_30 (Or.inl rfl) rfl
theorem s115_30r {a0 a1 a2 a3 a6 : Option AV} {z : Nat × Option Nat} {st : List AV} {m : MM} {x : Int32} : go 115 30 [a0, a1, a2, a3, some (.inr (.inr z)), some (.inl x), a6] st m = go 115 33 [a0, a1, a2, a3, some (.inr (.inr z)), some (.inl (x + 1)), a6] st m := e_1 d115_30 (Or.inl rfl) rfl
theorem s115_30n {a0 a1 a2 a3 a6 : Option AV} {st : List AV} {m : MM} {x : Int32} : go 115 30 [a0, a1, a2, a3, none, some (.inl x), a6] st m = go 115 33 [a0, a1, a2, a3, none, some (.inl (x + 1)), a6] st m := e_1 d115_30 (Or.inl rfl) rfl
theorem d115_33 : decode (mt 115).2.1 33 = .ok (.goto (-30), 3) := by decide +kernel
theorem s115_33 {ls : LV} {st : List AV} {m : MM} : go 115 33 ls st m = go 115 3 ls st m := e_1 d115_33 (Or.inl rfl) (by rw [xi, jm_some (t := 3) (by decide)]; rfl)
theorem d115_36 : decode (mt 115).2.1 36 = .ok (.iload 5, 2) := by decide +kernel
theorem s115_36 {a0 a1 a2 a3 a4 a6 : Option AV} {st : List AV} {m : MM} {x : Int32} : go 115 36 [a0, a1, a2, a3, a4, some (.inl x), a6] st m = go 115 38 [a0, a1, a2, a3, a4, some (.inl x), a6] (.inl x :: st) m := e_1 d115_36 (Or.inl rfl) rfl
theorem d115_38 : decode (mt 115).2.1 38 = .ok (.aload_n 0, 1) := by decide +kernel
theorem s115_38 {a1 a2 a3 a4 a5 a6 : Option AV} {st : List AV} {m : MM} {x : Nat × Option Nat} : go 115 38 [some (.inr (.inr x)), a1, a2, a3, a4, a5, a6] st m = go 115 39 [some (.inr (.inr x)), a1, a2, a3, a4, a5, a6] (.inr (.inr x) :: st) m := e_1 d115_38 (Or.inl rfl) rfl
theorem d115_39 : decode (mt 115).2.1 39 = .ok (.getfield 42, 3) := by decide +kernel
theorem s115_39 {ls : LV} {st : List AV} {m : MM} {n : Nat} : go 115 39 ls (.inr (.inr (8, some n)) :: st) m = go 115 42 ls (.inr (.inr (28, mR m 8 n 11)) :: st) m := e_1 d115_39 (Or.inl rfl) (by rw [xi, pA, show lk fdL (mt 115).2.2.1 42 = some (8, 11) by decide +kernel]; rfl)
theorem d115_42 : decode (mt 115).2.1 42 = .ok (.iload_n 1, 1) := by decide +kernel
theorem s115_42 {a0 a2 a3 a4 a5 a6 : Option AV} {st : List AV} {m : MM} {x : Int32} : go 115 42 [a0, some (.inl x), a2, a3, a4, a5, a6] st m = go 115 43 [a0, some (.inl x), a2, a3, a4, a5, a6] (.inl x :: st) m := e_1 d115_42 (Or.inl rfl) rfl
theorem d115_43 : decode (mt 115).2.1 43 = .ok (.iaload, 1) := by decide +kernel
theorem s115_43 {ls : LV} {st : List AV} {m : MM} {n : Nat} {i : Int32} : go 115 43 ls (.inl i :: .inr (.inr (28, some n)) :: st) m = ixk (ix i (mN m 28 n)) (fun j => go 115 44 ls (.inl (mI m 28 n j) :: st) m) := e_ald d115_43 (fun j hj => by simp only [xi, pI, pA, hj, Option.bind_some]; rfl) (fun hj => by simp only [xi, pI, pA, hj, Option.bind_none])
theorem d115_44 : decode (mt 115).2.1 44 = .ok (.if_icmp .eq 19, 3) := by decide +kernel
theorem s115_44 {ls : LV} {st : List AV} {m : MM} {a b : Int32} : go 115 44 ls (.inl b :: .inl a :: st) m = if a = b then go 115 63 ls st m else go 115 47 ls st m := e_if (t := 63) (b := hc .eq a b) d115_44 (Or.inl rfl) (by simp only [xi, pI, jm_some (t := 63) (show ((44 : Nat) : Int) + 19 = ((63 : Nat) : Int) by decide), Option.bind_some]) (by simp [hc])
theorem d115_47 : decode (mt 115).2.1 47 = .ok (.aload_n 0, 1) := by decide +kernel
theorem s115_47 {a1 a2 a3 a4 a5 a6 : Option AV} {st : List AV} {m : MM} {x : Nat × Option Nat} : go 115 47 [some (.inr (.inr x)), a1, a2, a3, a4, a5, a6] st m = go 115 48 [some (.inr (.inr x)), a1, a2, a3, a4, a5, a6] (.inr (.inr x) :: st) m := e_1 d115_47 (Or.inl rfl) rfl
theorem d115_48 : decode (mt 115).2.1 48 = .ok (.getfield 45, 3) := by decide +kernel
theorem s115_48 {ls : LV} {st : List AV} {m : MM} {n : Nat} : go 115 48 ls (.inr (.inr (8, some n)) :: st) m = go 115 51 ls (.inr (.inr (29, mR m 8 n 12)) :: st) m := e_1 d115_48 (Or.inl rfl) (by rw [xi, pA, show lk fdL (mt 115).2.2.1 45 = some (8, 12) by decide +kernel]; rfl)
theorem d115_51 : decode (mt 115).2.1 51 = .ok (.bipush 16, 2) := by decide +kernel
theorem s115_51 {ls : LV} {st : List AV} {m : MM} : go 115 51 ls st m = go 115 53 ls (.inl 16 :: st) m := e_1 d115_51 (Or.inl rfl) rfl
theorem d115_53 : decode (mt 115).2.1 53 = .ok (.iload_n 1, 1) := by decide +kernel
theorem s115_53 {a0 a2 a3 a4 a5 a6 : Option AV} {st : List AV} {m : MM} {x : Int32} : go 115 53 [a0, some (.inl x), a2, a3, a4, a5, a6] st m = go 115 54 [a0, some (.inl x), a2, a3, a4, a5, a6] (.inl x :: st) m := e_1 d115_53 (Or.inl rfl) rfl
theorem d115_54 : decode (mt 115).2.1 54 = .ok (.imul, 1) := by decide +kernel
theorem s115_54 {ls : LV} {st : List AV} {m : MM} {a b : Int32} : go 115 54 ls (.inl b :: .inl a :: st) m = go 115 55 ls (.inl (a * b) :: st) m := e_1 d115_54 (Or.inl rfl) rfl
theorem d115_55 : decode (mt 115).2.1 55 = .ok (.iload 5, 2) := by decide +kernel
theorem s115_55 {a0 a1 a2 a3 a4 a6 : Option AV} {st : List AV} {m : MM} {x : Int32} : go 115 55 [a0, a1, a2, a3, a4, some (.inl x), a6] st m = go 115 57 [a0, a1, a2, a3, a4, some (.inl x), a6] (.inl x :: st) m := e_1 d115_55 (Or.inl rfl) rfl
theorem d115_57 : decode (mt 115).2.1 57 = .ok (.iadd, 1) := by decide +kernel
theorem s115_57 {ls : LV} {st : List AV} {m : MM} {a b : Int32} : go 115 57 ls (.inl b :: .inl a :: st) m = go 115 58 ls (.inl (a + b) :: st) m := e_1 d115_57 (Or.inl rfl) rfl
theorem d115_58 : decode (mt 115).2.1 58 = .ok (.iaload, 1) := by decide +kernel
theorem s115_58 {ls : LV} {st : List AV} {m : MM} {n : Nat} {i : Int32} : go 115 58 ls (.inl i :: .inr (.inr (29, some n)) :: st) m = ixk (ix i (mN m 29 n)) (fun j => go 115 59 ls (.inl (mI m 29 n j) :: st) m) := e_ald d115_58 (fun j hj => by simp only [xi, pI, pA, hj, Option.bind_some]; rfl) (fun hj => by simp only [xi, pI, pA, hj, Option.bind_none])
theorem d115_59 : decode (mt 115).2.1 59 = .ok (.iload_n 2, 1) := by decide +kernel
theorem s115_59 {a0 a1 a3 a4 a5 a6 : Option AV} {st : List AV} {m : MM} {x : Int32} : go 115 59 [a0, a1, some (.inl x), a3, a4, a5, a6] st m = go 115 60 [a0, a1, some (.inl x), a3, a4, a5, a6] (.inl x :: st) m := e_1 d115_59 (Or.inl rfl) rfl
theorem d115_60 : decode (mt 115).2.1 60 = .ok (.if_icmp .eq 86, 3) := by decide +kernel
theorem s115_60 {ls : LV} {st : List AV} {m : MM} {a b : Int32} : go 115 60 ls (.inl b :: .inl a :: st) m = if a = b then go 115 146 ls st m else go 115 63 ls st m := e_if (t := 146) (b := hc .eq a b) d115_60 (Or.inl rfl) (by simp only [xi, pI, jm_some (t := 146) (show ((60 : Nat) : Int) + 86 = ((146 : Nat) : Int) by decide), Option.bind_some]) (by simp [hc])
theorem d115_63 : decode (mt 115).2.1 63 = .ok (.aload_n 0, 1) := by decide +kernel
theorem s115_63 {a1 a2 a3 a4 a5 a6 : Option AV} {st : List AV} {m : MM} {x : Nat × Option Nat} : go 115 63 [some (.inr (.inr x)), a1, a2, a3, a4, a5, a6] st m = go 115 64 [some (.inr (.inr x)), a1, a2, a3, a4, a5, a6] (.inr (.inr x) :: st) m := e_1 d115_63 (Or.inl rfl) rfl
theorem d115_64 : decode (mt 115).2.1 64 = .ok (.getfield 42, 3) := by decide +kernel
theorem s115_64 {ls : LV} {st : List AV} {m : MM} {n : Nat} : go 115 64 ls (.inr (.inr (8, some n)) :: st) m = go 115 67 ls (.inr (.inr (28, mR m 8 n 11)) :: st) m := e_1 d115_64 (Or.inl rfl) (by rw [xi, pA, show lk fdL (mt 115).2.2.1 42 = some (8, 11) by decide +kernel]; rfl)
theorem d115_67 : decode (mt 115).2.1 67 = .ok (.iload_n 1, 1) := by decide +kernel
theorem s115_67 {a0 a2 a3 a4 a5 a6 : Option AV} {st : List AV} {m : MM} {x : Int32} : go 115 67 [a0, some (.inl x), a2, a3, a4, a5, a6] st m = go 115 68 [a0, some (.inl x), a2, a3, a4, a5, a6] (.inl x :: st) m := e_1 d115_67 (Or.inl rfl) rfl
theorem d115_68 : decode (mt 115).2.1 68 = .ok (.iaload, 1) := by decide +kernel
theorem s115_68 {ls : LV} {st : List AV} {m : MM} {n : Nat} {i : Int32} : go 115 68 ls (.inl i :: .inr (.inr (28, some n)) :: st) m = ixk (ix i (mN m 28 n)) (fun j => go 115 69 ls (.inl (mI m 28 n j) :: st) m) := e_ald d115_68 (fun j hj => by simp only [xi, pI, pA, hj, Option.bind_some]; rfl) (fun hj => by simp only [xi, pI, pA, hj, Option.bind_none])
theorem d115_69 : decode (mt 115).2.1 69 = .ok (.istore 6, 2) := by decide +kernel
theorem s115_69i {a0 a1 a2 a3 a4 a6 : Option AV} {z : Int32} {st : List AV} {m : MM} {x : Int32} : go 115 69 [a0, a1, a2, a3, a4, some (.inl z), a6] (.inl x :: st) m = go 115 71 [a0, a1, a2, a3, a4, some (.inl z), some (.inl x)] st m := e_1 d115_69 (Or.inl rfl) rfl
theorem s115_69r {a0 a1 a2 a3 a4 a6 : Option AV} {z : Nat × Option Nat} {st : List AV} {m : MM} {x : Int32} : go 115 69 [a0, a1, a2, a3, a4, some (.inr (.inr z)), a6] (.inl x :: st) m = go 115 71 [a0, a1, a2, a3, a4, some (.inr (.inr z)), some (.inl x)] st m := e_1 d115_69 (Or.inl rfl) rfl
theorem s115_69n {a0 a1 a2 a3 a4 a6 : Option AV} {st : List AV} {m : MM} {x : Int32} : go 115 69 [a0, a1, a2, a3, a4, none, a6] (.inl x :: st) m = go 115 71 [a0, a1, a2, a3, a4, none, some (.inl x)] st m := e_1 d115_69 (Or.inl rfl) rfl
theorem d115_71 : decode (mt 115).2.1 71 = .ok (.iload 6, 2) := by decide +kernel
theorem s115_71 {a0 a1 a2 a3 a4 a5 : Option AV} {st : List AV} {m : MM} {x : Int32} : go 115 71 [a0, a1, a2, a3, a4, a5, some (.inl x)] st m = go 115 73 [a0, a1, a2, a3, a4, a5, some (.inl x)] (.inl x :: st) m := e_1 d115_71 (Or.inl rfl) rfl
theorem d115_73 : decode (mt 115).2.1 73 = .ok (.iload 5, 2) := by decide +kernel
theorem s115_73 {a0 a1 a2 a3 a4 a6 : Option AV} {st : List AV} {m : MM} {x : Int32} : go 115 73 [a0, a1, a2, a3, a4, some (.inl x), a6] st m = go 115 75 [a0, a1, a2, a3, a4, some (.inl x), a6] (.inl x :: st) m := e_1 d115_73 (Or.inl rfl) rfl
theorem d115_75 : decode (mt 115).2.1 75 = .ok (.if_icmp .le 61, 3) := by decide +kernel
theorem s115_75 {ls : LV} {st : List AV} {m : MM} {a b : Int32} : go 115 75 ls (.inl b :: .inl a :: st) m = if a ≤ b then go 115 136 ls st m else go 115 78 ls st m := e_if (t := 136) (b := hc .le a b) d115_75 (Or.inl rfl) (by simp only [xi, pI, jm_some (t := 136) (show ((75 : Nat) : Int) + 61 = ((136 : Nat) : Int) by decide), Option.bind_some]) (by simp [hc])
theorem d115_78 : decode (mt 115).2.1 78 = .ok (.aload_n 0, 1) := by decide +kernel
theorem s115_78 {a1 a2 a3 a4 a5 a6 : Option AV} {st : List AV} {m : MM} {x : Nat × Option Nat} : go 115 78 [some (.inr (.inr x)), a1, a2, a3, a4, a5, a6] st m = go 115 79 [some (.inr (.inr x)), a1, a2, a3, a4, a5, a6] (.inr (.inr x) :: st) m := e_1 d115_78 (Or.inl rfl) rfl
theorem d115_79 : decode (mt 115).2.1 79 = .ok (.getfield 45, 3) := by decide +kernel
theorem s115_79 {ls : LV} {st : List AV} {m : MM} {n : Nat} : go 115 79 ls (.inr (.inr (8, some n)) :: st) m = go 115 82 ls (.inr (.inr (29, mR m 8 n 12)) :: st) m := e_1 d115_79 (Or.inl rfl) (by rw [xi, pA, show lk fdL (mt 115).2.2.1 45 = some (8, 12) by decide +kernel]; rfl)
theorem d115_82 : decode (mt 115).2.1 82 = .ok (.bipush 16, 2) := by decide +kernel
theorem s115_82 {ls : LV} {st : List AV} {m : MM} : go 115 82 ls st m = go 115 84 ls (.inl 16 :: st) m := e_1 d115_82 (Or.inl rfl) rfl
theorem d115_84 : decode (mt 115).2.1 84 = .ok (.iload_n 1, 1) := by decide +kernel
theorem s115_84 {a0 a2 a3 a4 a5 a6 : Option AV} {st : List AV} {m : MM} {x : Int32} : go 115 84 [a0, some (.inl x), a2, a3, a4, a5, a6] st m = go 115 85 [a0, some (.inl x), a2, a3, a4, a5, a6] (.inl x :: st) m := e_1 d115_84 (Or.inl rfl) rfl
theorem d115_85 : decode (mt 115).2.1 85 = .ok (.imul, 1) := by decide +kernel
theorem s115_85 {ls : LV} {st : List AV} {m : MM} {a b : Int32} : go 115 85 ls (.inl b :: .inl a :: st) m = go 115 86 ls (.inl (a * b) :: st) m := e_1 d115_85 (Or.inl rfl) rfl
theorem d115_86 : decode (mt 115).2.1 86 = .ok (.iload 6, 2) := by decide +kernel
theorem s115_86 {a0 a1 a2 a3 a4 a5 : Option AV} {st : List AV} {m : MM} {x : Int32} : go 115 86 [a0, a1, a2, a3, a4, a5, some (.inl x)] st m = go 115 88 [a0, a1, a2, a3, a4, a5, some (.inl x)] (.inl x :: st) m := e_1 d115_86 (Or.inl rfl) rfl
theorem d115_88 : decode (mt 115).2.1 88 = .ok (.iadd, 1) := by decide +kernel
theorem s115_88 {ls : LV} {st : List AV} {m : MM} {a b : Int32} : go 115 88 ls (.inl b :: .inl a :: st) m = go 115 89 ls (.inl (a + b) :: st) m := e_1 d115_88 (Or.inl rfl) rfl
theorem d115_89 : decode (mt 115).2.1 89 = .ok (.aload_n 0, 1) := by decide +kernel
theorem s115_89 {a1 a2 a3 a4 a5 a6 : Option AV} {st : List AV} {m : MM} {x : Nat × Option Nat} : go 115 89 [some (.inr (.inr x)), a1, a2, a3, a4, a5, a6] st m = go 115 90 [some (.inr (.inr x)), a1, a2, a3, a4, a5, a6] (.inr (.inr x) :: st) m := e_1 d115_89 (Or.inl rfl) rfl
theorem d115_90 : decode (mt 115).2.1 90 = .ok (.getfield 45, 3) := by decide +kernel
theorem s115_90 {ls : LV} {st : List AV} {m : MM} {n : Nat} : go 115 90 ls (.inr (.inr (8, some n)) :: st) m = go 115 93 ls (.inr (.inr (29, mR m 8 n 12)) :: st) m := e_1 d115_90 (Or.inl rfl) (by rw [xi, pA, show lk fdL (mt 115).2.2.1 45 = some (8, 12) by decide +kernel]; rfl)
theorem d115_93 : decode (mt 115).2.1 93 = .ok (.bipush 16, 2) := by decide +kernel
theorem s115_93 {ls : LV} {st : List AV} {m : MM} : go 115 93 ls st m = go 115 95 ls (.inl 16 :: st) m := e_1 d115_93 (Or.inl rfl) rfl
theorem d115_95 : decode (mt 115).2.1 95 = .ok (.iload_n 1, 1) := by decide +kernel
theorem s115_95 {a0 a2 a3 a4 a5 a6 : Option AV} {st : List AV} {m : MM} {x : Int32} : go 115 95 [a0, some (.inl x), a2, a3, a4, a5, a6] st m = go 115 96 [a0, some (.inl x), a2, a3, a4, a5, a6] (.inl x :: st) m := e_1 d115_95 (Or.inl rfl) rfl
theorem d115_96 : decode (mt 115).2.1 96 = .ok (.imul, 1) := by decide +kernel
theorem s115_96 {ls : LV} {st : List AV} {m : MM} {a b : Int32} : go 115 96 ls (.inl b :: .inl a :: st) m = go 115 97 ls (.inl (a * b) :: st) m := e_1 d115_96 (Or.inl rfl) rfl
theorem d115_97 : decode (mt 115).2.1 97 = .ok (.iload 6, 2) := by decide +kernel
theorem s115_97 {a0 a1 a2 a3 a4 a5 : Option AV} {st : List AV} {m : MM} {x : Int32} : go 115 97 [a0, a1, a2, a3, a4, a5, some (.inl x)] st m = go 115 99 [a0, a1, a2, a3, a4, a5, some (.inl x)] (.inl x :: st) m := e_1 d115_97 (Or.inl rfl) rfl
theorem d115_99 : decode (mt 115).2.1 99 = .ok (.iadd, 1) := by decide +kernel
theorem s115_99 {ls : LV} {st : List AV} {m : MM} {a b : Int32} : go 115 99 ls (.inl b :: .inl a :: st) m = go 115 100 ls (.inl (a + b) :: st) m := e_1 d115_99 (Or.inl rfl) rfl
theorem d115_100 : decode (mt 115).2.1 100 = .ok (.iconst 1, 1) := by decide +kernel
theorem s115_100 {ls : LV} {st : List AV} {m : MM} : go 115 100 ls st m = go 115 101 ls (.inl 1 :: st) m := e_1 d115_100 (Or.inl rfl) rfl
theorem d115_101 : decode (mt 115).2.1 101 = .ok (.isub, 1) := by decide +kernel
theorem s115_101 {ls : LV} {st : List AV} {m : MM} {a b : Int32} : go 115 101 ls (.inl b :: .inl a :: st) m = go 115 102 ls (.inl (a - b) :: st) m := e_1 d115_101 (Or.inl rfl) rfl
theorem d115_102 : decode (mt 115).2.1 102 = .ok (.iaload, 1) := by decide +kernel
theorem s115_102 {ls : LV} {st : List AV} {m : MM} {n : Nat} {i : Int32} : go 115 102 ls (.inl i :: .inr (.inr (29, some n)) :: st) m = ixk (ix i (mN m 29 n)) (fun j => go 115 103 ls (.inl (mI m 29 n j) :: st) m) := e_ald d115_102 (fun j hj => by simp only [xi, pI, pA, hj, Option.bind_some]; rfl) (fun hj => by simp only [xi, pI, pA, hj, Option.bind_none])
theorem d115_103 : decode (mt 115).2.1 103 = .ok (.iastore, 1) := by decide +kernel
theorem s115_103 {ls : LV} {st : List AV} {m : MM} {n : Nat} {i : Int32} {x : Int32} : go 115 103 ls (.inl x :: .inl i :: .inr (.inr (29, some n)) :: st) m = ixk (ix i (mN m 29 n)) (fun j => go 115 104 ls st (sI m 29 n j x)) := e_ald d115_103 (fun j hj => by simp only [xi, pI, pL, pR, pA, hj, Option.bind_some]; exact if_pos ⟨rfl, by decide⟩) (fun hj => by simp only [xi, pI, pL, pR, pA, hj, Option.bind_none])
theorem d115_104 : decode (mt 115).2.1 104 = .ok (.aload_n 0, 1) := by decide +kernel
theorem s115_104 {a1 a2 a3 a4 a5 a6 : Option AV} {st : List AV} {m : MM} {x : Nat × Option Nat} : go 115 104 [some (.inr (.inr x)), a1, a2, a3, a4, a5, a6] st m = go 115 105 [some (.inr (.inr x)), a1, a2, a3, a4, a5, a6] (.inr (.inr x) :: st) m := e_1 d115_104 (Or.inl rfl) rfl
theorem d115_105 : decode (mt 115).2.1 105 = .ok (.getfield 48, 3) := by decide +kernel
theorem s115_105 {ls : LV} {st : List AV} {m : MM} {n : Nat} : go 115 105 ls (.inr (.inr (8, some n)) :: st) m = go 115 108 ls (.inr (.inr (30, mR m 8 n 13)) :: st) m := e_1 d115_105 (Or.inl rfl) (by rw [xi, pA, show lk fdL (mt 115).2.2.1 48 = some (8, 13) by decide +kernel]; rfl)
theorem d115_108 : decode (mt 115).2.1 108 = .ok (.bipush 16, 2) := by decide +kernel
theorem s115_108 {ls : LV} {st : List AV} {m : MM} : go 115 108 ls st m = go 115 110 ls (.inl 16 :: st) m := e_1 d115_108 (Or.inl rfl) rfl
theorem d115_110 : decode (mt 115).2.1 110 = .ok (.iload_n 1, 1) := by decide +kernel
theorem s115_110 {a0 a2 a3 a4 a5 a6 : Option AV} {st : List AV} {m : MM} {x : Int32} : go 115 110 [a0, some (.inl x), a2, a3, a4, a5, a6] st m = go 115 111 [a0, some (.inl x), a2, a3, a4, a5, a6] (.inl x :: st) m := e_1 d115_110 (Or.inl rfl) rfl
theorem d115_111 : decode (mt 115).2.1 111 = .ok (.imul, 1) := by decide +kernel
theorem s115_111 {ls : LV} {st : List AV} {m : MM} {a b : Int32} : go 115 111 ls (.inl b :: .inl a :: st) m = go 115 112 ls (.inl (a * b) :: st) m := e_1 d115_111 (Or.inl rfl) rfl
theorem d115_112 : decode (mt 115).2.1 112 = .ok (.iload 6, 2) := by decide +kernel
theorem s115_112 {a0 a1 a2 a3 a4 a5 : Option AV} {st : List AV} {m : MM} {x : Int32} : go 115 112 [a0, a1, a2, a3, a4, a5, some (.inl x)] st m = go 115 114 [a0, a1, a2, a3, a4, a5, some (.inl x)] (.inl x :: st) m := e_1 d115_112 (Or.inl rfl) rfl
theorem d115_114 : decode (mt 115).2.1 114 = .ok (.iadd, 1) := by decide +kernel
theorem s115_114 {ls : LV} {st : List AV} {m : MM} {a b : Int32} : go 115 114 ls (.inl b :: .inl a :: st) m = go 115 115 ls (.inl (a + b) :: st) m := e_1 d115_114 (Or.inl rfl) rfl
theorem d115_115 : decode (mt 115).2.1 115 = .ok (.aload_n 0, 1) := by decide +kernel
theorem s115_115 {a1 a2 a3 a4 a5 a6 : Option AV} {st : List AV} {m : MM} {x : Nat × Option Nat} : go 115 115 [some (.inr (.inr x)), a1, a2, a3, a4, a5, a6] st m = go 115 116 [some (.inr (.inr x)), a1, a2, a3, a4, a5, a6] (.inr (.inr x) :: st) m := e_1 d115_115 (Or.inl rfl) rfl
theorem d115_116 : decode (mt 115).2.1 116 = .ok (.getfield 48, 3) := by decide +kernel
theorem s115_116 {ls : LV} {st : List AV} {m : MM} {n : Nat} : go 115 116 ls (.inr (.inr (8, some n)) :: st) m = go 115 119 ls (.inr (.inr (30, mR m 8 n 13)) :: st) m := e_1 d115_116 (Or.inl rfl) (by rw [xi, pA, show lk fdL (mt 115).2.2.1 48 = some (8, 13) by decide +kernel]; rfl)
theorem d115_119 : decode (mt 115).2.1 119 = .ok (.bipush 16, 2) := by decide +kernel
theorem s115_119 {ls : LV} {st : List AV} {m : MM} : go 115 119 ls st m = go 115 121 ls (.inl 16 :: st) m := e_1 d115_119 (Or.inl rfl) rfl
theorem d115_121 : decode (mt 115).2.1 121 = .ok (.iload_n 1, 1) := by decide +kernel
theorem s115_121 {a0 a2 a3 a4 a5 a6 : Option AV} {st : List AV} {m : MM} {x : Int32} : go 115 121 [a0, some (.inl x), a2, a3, a4, a5, a6] st m = go 115 122 [a0, some (.inl x), a2, a3, a4, a5, a6] (.inl x :: st) m := e_1 d115_121 (Or.inl rfl) rfl
theorem d115_122 : decode (mt 115).2.1 122 = .ok (.imul, 1) := by decide +kernel
theorem s115_122 {ls : LV} {st : List AV} {m : MM} {a b : Int32} : go 115 122 ls (.inl b :: .inl a :: st) m = go 115 123 ls (.inl (a * b) :: st) m := e_1 d115_122 (Or.inl rfl) rfl
theorem d115_123 : decode (mt 115).2.1 123 = .ok (.iload 6, 2) := by decide +kernel
theorem s115_123 {a0 a1 a2 a3 a4 a5 : Option AV} {st : List AV} {m : MM} {x : Int32} : go 115 123 [a0, a1, a2, a3, a4, a5, some (.inl x)] st m = go 115 125 [a0, a1, a2, a3, a4, a5, some (.inl x)] (.inl x :: st) m := e_1 d115_123 (Or.inl rfl) rfl
theorem d115_125 : decode (mt 115).2.1 125 = .ok (.iadd, 1) := by decide +kernel
theorem s115_125 {ls : LV} {st : List AV} {m : MM} {a b : Int32} : go 115 125 ls (.inl b :: .inl a :: st) m = go 115 126 ls (.inl (a + b) :: st) m := e_1 d115_125 (Or.inl rfl) rfl
theorem d115_126 : decode (mt 115).2.1 126 = .ok (.iconst 1, 1) := by decide +kernel
theorem s115_126 {ls : LV} {st : List AV} {m : MM} : go 115 126 ls st m = go 115 127 ls (.inl 1 :: st) m := e_1 d115_126 (Or.inl rfl) rfl
theorem d115_127 : decode (mt 115).2.1 127 = .ok (.isub, 1) := by decide +kernel
theorem s115_127 {ls : LV} {st : List AV} {m : MM} {a b : Int32} : go 115 127 ls (.inl b :: .inl a :: st) m = go 115 128 ls (.inl (a - b) :: st) m := e_1 d115_127 (Or.inl rfl) rfl
theorem d115_128 : decode (mt 115).2.1 128 = .ok (.laload, 1) := by decide +kernel
theorem s115_128 {ls : LV} {st : List AV} {m : MM} {n : Nat} {i : Int32} : go 115 128 ls (.inl i :: .inr (.inr (30, some n)) :: st) m = ixk (ix i (mN m 30 n)) (fun j => go 115 129 ls (.inr (.inl (mL m 30 n j)) :: st) m) := e_ald d115_128 (fun j hj => by simp only [xi, pI, pA, hj, Option.bind_some]; rfl) (fun hj => by simp only [xi, pI, pA, hj, Option.bind_none])
theorem d115_129 : decode (mt 115).2.1 129 = .ok (.lastore, 1) := by decide +kernel
theorem s115_129 {ls : LV} {st : List AV} {m : MM} {n : Nat} {i : Int32} {x : Int64} : go 115 129 ls (.inr (.inl x) :: .inl i :: .inr (.inr (30, some n)) :: st) m = ixk (ix i (mN m 30 n)) (fun j => go 115 130 ls st (sL m 30 n j x)) := e_ald d115_129 (fun j hj => by simp only [xi, pI, pL, pR, pA, hj, Option.bind_some]; exact if_pos rfl) (fun hj => by simp only [xi, pI, pL, pR, pA, hj, Option.bind_none])
theorem d115_130 : decode (mt 115).2.1 130 = .ok (.iinc 6 (-1), 3) := by decide +kernel
theorem s115_130i {a0 a1 a2 a3 a4 : Option AV} {z : Int32} {st : List AV} {m : MM} {x : Int32} : go 115 130 [a0, a1, a2, a3, a4, some (.inl z), some (.inl x)] st m = go 115 133 [a0, a1, a2, a3, a4, some (.inl z), some (.inl (x + (-1)))] st m := e_1 d115_130 (Or.inl rfl) rfl
theorem s115_130r {a0 a1 a2 a3 a4 : Option AV} {z : Nat × Option Nat} {st : List AV} {m : MM} {x : Int32} : go 115 130 [a0, a1, a2, a3, a4, some (.inr (.inr z)), some (.inl x)] st m = go 115 133 [a0, a1, a2, a3, a4, some (.inr (.inr z)), some (.inl (x + (-1)))] st m := e_1 d115_130 (Or.inl rfl) rfl
theorem s115_130n {a0 a1 a2 a3 a4 : Option AV} {st : List AV} {m : MM} {x : Int32} : go 115 130 [a0, a1, a2, a3, a4, none, some (.inl x)] st m = go 115 133 [a0, a1, a2, a3, a4, none, some (.inl (x + (-1)))] st m := e_1 d115_130 (Or.inl rfl) rfl
theorem d115_133 : decode (mt 115).2.1 133 = .ok (.goto (-62), 3) := by decide +kernel
theorem s115_133 {ls : LV} {st : List AV} {m : MM} : go 115 133 ls st m = go 115 71 ls st m := e_1 d115_133 (Or.inl rfl) (by rw [xi, jm_some (t := 71) (by decide)]; rfl)
theorem d115_136 : decode (mt 115).2.1 136 = .ok (.aload_n 0, 1) := by decide +kernel
theorem s115_136 {a1 a2 a3 a4 a5 a6 : Option AV} {st : List AV} {m : MM} {x : Nat × Option Nat} : go 115 136 [some (.inr (.inr x)), a1, a2, a3, a4, a5, a6] st m = go 115 137 [some (.inr (.inr x)), a1, a2, a3, a4, a5, a6] (.inr (.inr x) :: st) m := e_1 d115_136 (Or.inl rfl) rfl
theorem d115_137 : decode (mt 115).2.1 137 = .ok (.getfield 42, 3) := by decide +kernel
theorem s115_137 {ls : LV} {st : List AV} {m : MM} {n : Nat} : go 115 137 ls (.inr (.inr (8, some n)) :: st) m = go 115 140 ls (.inr (.inr (28, mR m 8 n 11)) :: st) m := e_1 d115_137 (Or.inl rfl) (by rw [xi, pA, show lk fdL (mt 115).2.2.1 42 = some (8, 11) by decide +kernel]; rfl)
theorem d115_140 : decode (mt 115).2.1 140 = .ok (.iload_n 1, 1) := by decide +kernel
theorem s115_140 {a0 a2 a3 a4 a5 a6 : Option AV} {st : List AV} {m : MM} {x : Int32} : go 115 140 [a0, some (.inl x), a2, a3, a4, a5, a6] st m = go 115 141 [a0, some (.inl x), a2, a3, a4, a5, a6] (.inl x :: st) m := e_1 d115_140 (Or.inl rfl) rfl
theorem d115_141 : decode (mt 115).2.1 141 = .ok (.dup2, 1) := by decide +kernel
theorem s115_141 {ls : LV} {st : List AV} {m : MM} {i : Int32} {x : Nat × Option Nat} : go 115 141 ls (.inl i :: .inr (.inr x) :: st) m = go 115 142 ls (.inl i :: .inr (.inr x) :: .inl i :: .inr (.inr x) :: st) m := e_1 d115_141 (Or.inl rfl) rfl
theorem d115_142 : decode (mt 115).2.1 142 = .ok (.iaload, 1) := by decide +kernel
theorem s115_142 {ls : LV} {st : List AV} {m : MM} {n : Nat} {i : Int32} : go 115 142 ls (.inl i :: .inr (.inr (28, some n)) :: st) m = ixk (ix i (mN m 28 n)) (fun j => go 115 143 ls (.inl (mI m 28 n j) :: st) m) := e_ald d115_142 (fun j hj => by simp only [xi, pI, pA, hj, Option.bind_some]; rfl) (fun hj => by simp only [xi, pI, pA, hj, Option.bind_none])
theorem d115_143 : decode (mt 115).2.1 143 = .ok (.iconst 1, 1) := by decide +kernel
theorem s115_143 {ls : LV} {st : List AV} {m : MM} : go 115 143 ls st m = go 115 144 ls (.inl 1 :: st) m := e_1 d115_143 (Or.inl rfl) rfl
theorem d115_144 : decode (mt 115).2.1 144 = .ok (.iadd, 1) := by decide +kernel
theorem s115_144 {ls : LV} {st : List AV} {m : MM} {a b : Int32} : go 115 144 ls (.inl b :: .inl a :: st) m = go 115 145 ls (.inl (a + b) :: st) m := e_1 d115_144 (Or.inl rfl) rfl
theorem d115_145 : decode (mt 115).2.1 145 = .ok (.iastore, 1) := by decide +kernel
theorem s115_145 {ls : LV} {st : List AV} {m : MM} {n : Nat} {i : Int32} {x : Int32} : go 115 145 ls (.inl x :: .inl i :: .inr (.inr (28, some n)) :: st) m = ixk (ix i (mN m 28 n)) (fun j => go 115 146 ls st (sI m 28 n j x)) := e_ald d115_145 (fun j hj => by simp only [xi, pI, pL, pR, pA, hj, Option.bind_some]; exact if_pos ⟨rfl, by decide⟩) (fun hj => by simp only [xi, pI, pL, pR, pA, hj, Option.bind_none])
theorem d115_146 : decode (mt 115).2.1 146 = .ok (.aload_n 0, 1) := by decide +kernel
theorem s115_146 {a1 a2 a3 a4 a5 a6 : Option AV} {st : List AV} {m : MM} {x : Nat × Option Nat} : go 115 146 [some (.inr (.inr x)), a1, a2, a3, a4, a5, a6] st m = go 115 147 [some (.inr (.inr x)), a1, a2, a3, a4, a5, a6] (.inr (.inr x) :: st) m := e_1 d115_146 (Or.inl rfl) rfl
theorem d115_147 : decode (mt 115).2.1 147 = .ok (.getfield 45, 3) := by decide +kernel
theorem s115_147 {ls : LV} {st : List AV} {m : MM} {n : Nat} : go 115 147 ls (.inr (.inr (8, some n)) :: st) m = go 115 150 ls (.inr (.inr (29, mR m 8 n 12)) :: st) m := e_1 d115_147 (Or.inl rfl) (by rw [xi, pA, show lk fdL (mt 115).2.2.1 45 = some (8, 12) by decide +kernel]; rfl)
theorem d115_150 : decode (mt 115).2.1 150 = .ok (.bipush 16, 2) := by decide +kernel
theorem s115_150 {ls : LV} {st : List AV} {m : MM} : go 115 150 ls st m = go 115 152 ls (.inl 16 :: st) m := e_1 d115_150 (Or.inl rfl) rfl
theorem d115_152 : decode (mt 115).2.1 152 = .ok (.iload_n 1, 1) := by decide +kernel
theorem s115_152 {a0 a2 a3 a4 a5 a6 : Option AV} {st : List AV} {m : MM} {x : Int32} : go 115 152 [a0, some (.inl x), a2, a3, a4, a5, a6] st m = go 115 153 [a0, some (.inl x), a2, a3, a4, a5, a6] (.inl x :: st) m := e_1 d115_152 (Or.inl rfl) rfl
theorem d115_153 : decode (mt 115).2.1 153 = .ok (.imul, 1) := by decide +kernel
theorem s115_153 {ls : LV} {st : List AV} {m : MM} {a b : Int32} : go 115 153 ls (.inl b :: .inl a :: st) m = go 115 154 ls (.inl (a * b) :: st) m := e_1 d115_153 (Or.inl rfl) rfl
theorem d115_154 : decode (mt 115).2.1 154 = .ok (.iload 5, 2) := by decide +kernel
theorem s115_154 {a0 a1 a2 a3 a4 a6 : Option AV} {st : List AV} {m : MM} {x : Int32} : go 115 154 [a0, a1, a2, a3, a4, some (.inl x), a6] st m = go 115 156 [a0, a1, a2, a3, a4, some (.inl x), a6] (.inl x :: st) m := e_1 d115_154 (Or.inl rfl) rfl
theorem d115_156 : decode (mt 115).2.1 156 = .ok (.iadd, 1) := by decide +kernel
theorem s115_156 {ls : LV} {st : List AV} {m : MM} {a b : Int32} : go 115 156 ls (.inl b :: .inl a :: st) m = go 115 157 ls (.inl (a + b) :: st) m := e_1 d115_156 (Or.inl rfl) rfl
theorem d115_157 : decode (mt 115).2.1 157 = .ok (.iload_n 2, 1) := by decide +kernel
theorem s115_157 {a0 a1 a3 a4 a5 a6 : Option AV} {st : List AV} {m : MM} {x : Int32} : go 115 157 [a0, a1, some (.inl x), a3, a4, a5, a6] st m = go 115 158 [a0, a1, some (.inl x), a3, a4, a5, a6] (.inl x :: st) m := e_1 d115_157 (Or.inl rfl) rfl
theorem d115_158 : decode (mt 115).2.1 158 = .ok (.iastore, 1) := by decide +kernel
theorem s115_158 {ls : LV} {st : List AV} {m : MM} {n : Nat} {i : Int32} {x : Int32} : go 115 158 ls (.inl x :: .inl i :: .inr (.inr (29, some n)) :: st) m = ixk (ix i (mN m 29 n)) (fun j => go 115 159 ls st (sI m 29 n j x)) := e_ald d115_158 (fun j hj => by simp only [xi, pI, pL, pR, pA, hj, Option.bind_some]; exact if_pos ⟨rfl, by decide⟩) (fun hj => by simp only [xi, pI, pL, pR, pA, hj, Option.bind_none])
theorem d115_159 : decode (mt 115).2.1 159 = .ok (.aload_n 0, 1) := by decide +kernel
theorem s115_159 {a1 a2 a3 a4 a5 a6 : Option AV} {st : List AV} {m : MM} {x : Nat × Option Nat} : go 115 159 [some (.inr (.inr x)), a1, a2, a3, a4, a5, a6] st m = go 115 160 [some (.inr (.inr x)), a1, a2, a3, a4, a5, a6] (.inr (.inr x) :: st) m := e_1 d115_159 (Or.inl rfl) rfl
theorem d115_160 : decode (mt 115).2.1 160 = .ok (.getfield 48, 3) := by decide +kernel
theorem s115_160 {ls : LV} {st : List AV} {m : MM} {n : Nat} : go 115 160 ls (.inr (.inr (8, some n)) :: st) m = go 115 163 ls (.inr (.inr (30, mR m 8 n 13)) :: st) m := e_1 d115_160 (Or.inl rfl) (by rw [xi, pA, show lk fdL (mt 115).2.2.1 48 = some (8, 13) by decide +kernel]; rfl)
theorem d115_163 : decode (mt 115).2.1 163 = .ok (.bipush 16, 2) := by decide +kernel
theorem s115_163 {ls : LV} {st : List AV} {m : MM} : go 115 163 ls st m = go 115 165 ls (.inl 16 :: st) m := e_1 d115_163 (Or.inl rfl) rfl
theorem d115_165 : decode (mt 115).2.1 165 = .ok (.iload_n 1, 1) := by decide +kernel
theorem s115_165 {a0 a2 a3 a4 a5 a6 : Option AV} {st : List AV} {m : MM} {x : Int32} : go 115 165 [a0, some (.inl x), a2, a3, a4, a5, a6] st m = go 115 166 [a0, some (.inl x), a2, a3, a4, a5, a6] (.inl x :: st) m := e_1 d115_165 (Or.inl rfl) rfl
theorem d115_166 : decode (mt 115).2.1 166 = .ok (.imul, 1) := by decide +kernel
theorem s115_166 {ls : LV} {st : List AV} {m : MM} {a b : Int32} : go 115 166 ls (.inl b :: .inl a :: st) m = go 115 167 ls (.inl (a * b) :: st) m := e_1 d115_166 (Or.inl rfl) rfl
theorem d115_167 : decode (mt 115).2.1 167 = .ok (.iload 5, 2) := by decide +kernel
theorem s115_167 {a0 a1 a2 a3 a4 a6 : Option AV} {st : List AV} {m : MM} {x : Int32} : go 115 167 [a0, a1, a2, a3, a4, some (.inl x), a6] st m = go 115 169 [a0, a1, a2, a3, a4, some (.inl x), a6] (.inl x :: st) m := e_1 d115_167 (Or.inl rfl) rfl
theorem d115_169 : decode (mt 115).2.1 169 = .ok (.iadd, 1) := by decide +kernel
theorem s115_169 {ls : LV} {st : List AV} {m : MM} {a b : Int32} : go 115 169 ls (.inl b :: .inl a :: st) m = go 115 170 ls (.inl (a + b) :: st) m := e_1 d115_169 (Or.inl rfl) rfl
theorem d115_170 : decode (mt 115).2.1 170 = .ok (.lload_n 3, 1) := by decide +kernel
theorem s115_170 {a0 a1 a2 a4 a5 a6 : Option AV} {st : List AV} {m : MM} {x : Int64} : go 115 170 [a0, a1, a2, some (.inr (.inl x)), a4, a5, a6] st m = go 115 171 [a0, a1, a2, some (.inr (.inl x)), a4, a5, a6] (.inr (.inl x) :: st) m := e_1 d115_170 (Or.inl rfl) rfl
theorem d115_171 : decode (mt 115).2.1 171 = .ok (.lastore, 1) := by decide +kernel
theorem s115_171 {ls : LV} {st : List AV} {m : MM} {n : Nat} {i : Int32} {x : Int64} : go 115 171 ls (.inr (.inl x) :: .inl i :: .inr (.inr (30, some n)) :: st) m = ixk (ix i (mN m 30 n)) (fun j => go 115 172 ls st (sL m 30 n j x)) := e_ald d115_171 (fun j hj => by simp only [xi, pI, pL, pR, pA, hj, Option.bind_some]; exact if_pos rfl) (fun hj => by simp only [xi, pI, pL, pR, pA, hj, Option.bind_none])
theorem d115_172 : decode (mt 115).2.1 172 = .ok (.return_, 1) := by decide +kernel
theorem s115_172 {ls : LV} {m : MM} : go 115 172 ls [] m = some (none, m) := e_void d115_172 (by decide +kernel)
/-! X7_placeOf: 116 -/
theorem d116_0 : decode (mt 116).2.1 0 = .ok (.iconst 0, 1) := by decide +kernel
theorem s116_0 {ls : LV} {st : List AV} {m : MM} : go 116 0 ls st m = go 116 1 ls (.inl 0 :: st) m := e_1 d116_0 (Or.inl rfl) rfl
theorem d116_1 : decode (mt 116).2.1 1 = .ok (.istore_n 3, 1) := by decide +kernel
theorem s116_1i {a0 a1 a3 : Option AV} {z : Int32} {st : List AV} {m : MM} {x : Int32} : go 116 1 [a0, a1, some (.inl z), a3] (.inl x :: st) m = go 116 2 [a0, a1, some (.inl z), some (.inl x)] st m := e_1 d116_1 (Or.inl rfl) rfl
theorem s116_1r {a0 a1 a3 : Option AV} {z : Nat × Option Nat} {st : List AV} {m : MM} {x : Int32} : go 116 1 [a0, a1, some (.inr (.inr z)), a3] (.inl x :: st) m = go 116 2 [a0, a1, some (.inr (.inr z)), some (.inl x)] st m := e_1 d116_1 (Or.inl rfl) rfl
theorem s116_1n {a0 a1 a3 : Option AV} {st : List AV} {m : MM} {x : Int32} : go 116 1 [a0, a1, none, a3] (.inl x :: st) m = go 116 2 [a0, a1, none, some (.inl x)] st m := e_1 d116_1 (Or.inl rfl) rfl
theorem d116_2 : decode (mt 116).2.1 2 = .ok (.iload_n 3, 1) := by decide +kernel
theorem s116_2 {a0 a1 a2 : Option AV} {st : List AV} {m : MM} {x : Int32} : go 116 2 [a0, a1, a2, some (.inl x)] st m = go 116 3 [a0, a1, a2, some (.inl x)] (.inl x :: st) m := e_1 d116_2 (Or.inl rfl) rfl
theorem d116_3 : decode (mt 116).2.1 3 = .ok (.aload_n 0, 1) := by decide +kernel
theorem s116_3 {a1 a2 a3 : Option AV} {st : List AV} {m : MM} {x : Nat × Option Nat} : go 116 3 [some (.inr (.inr x)), a1, a2, a3] st m = go 116 4 [some (.inr (.inr x)), a1, a2, a3] (.inr (.inr x) :: st) m := e_1 d116_3 (Or.inl rfl) rfl
theorem d116_4 : decode (mt 116).2.1 4 = .ok (.getfield 42, 3) := by decide +kernel
theorem s116_4 {ls : LV} {st : List AV} {m : MM} {n : Nat} : go 116 4 ls (.inr (.inr (8, some n)) :: st) m = go 116 7 ls (.inr (.inr (28, mR m 8 n 11)) :: st) m := e_1 d116_4 (Or.inl rfl) (by rw [xi, pA, show lk fdL (mt 116).2.2.1 42 = some (8, 11) by decide +kernel]; rfl)
theorem d116_7 : decode (mt 116).2.1 7 = .ok (.iload_n 1, 1) := by decide +kernel
theorem s116_7 {a0 a2 a3 : Option AV} {st : List AV} {m : MM} {x : Int32} : go 116 7 [a0, some (.inl x), a2, a3] st m = go 116 8 [a0, some (.inl x), a2, a3] (.inl x :: st) m := e_1 d116_7 (Or.inl rfl) rfl
theorem d116_8 : decode (mt 116).2.1 8 = .ok (.iaload, 1) := by decide +kernel
theorem s116_8 {ls : LV} {st : List AV} {m : MM} {n : Nat} {i : Int32} : go 116 8 ls (.inl i :: .inr (.inr (28, some n)) :: st) m = ixk (ix i (mN m 28 n)) (fun j => go 116 9 ls (.inl (mI m 28 n j) :: st) m) := e_ald d116_8 (fun j hj => by simp only [xi, pI, pA, hj, Option.bind_some]; rfl) (fun hj => by simp only [xi, pI, pA, hj, Option.bind_none])
theorem d116_9 : decode (mt 116).2.1 9 = .ok (.if_icmp .ge 31, 3) := by decide +kernel
theorem s116_9 {ls : LV} {st : List AV} {m : MM} {a b : Int32} : go 116 9 ls (.inl b :: .inl a :: st) m = if b ≤ a then go 116 40 ls st m else go 116 12 ls st m := e_if (t := 40) (b := hc .ge a b) d116_9 (Or.inl rfl) (by simp only [xi, pI, jm_some (t := 40) (show ((9 : Nat) : Int) + 31 = ((40 : Nat) : Int) by decide), Option.bind_some]) (by simp [hc])
theorem d116_12 : decode (mt 116).2.1 12 = .ok (.aload_n 0, 1) := by decide +kernel
theorem s116_12 {a1 a2 a3 : Option AV} {st : List AV} {m : MM} {x : Nat × Option Nat} : go 116 12 [some (.inr (.inr x)), a1, a2, a3] st m = go 116 13 [some (.inr (.inr x)), a1, a2, a3] (.inr (.inr x) :: st) m := e_1 d116_12 (Or.inl rfl) rfl
theorem d116_13 : decode (mt 116).2.1 13 = .ok (.getfield 45, 3) := by decide +kernel
theorem s116_13 {ls : LV} {st : List AV} {m : MM} {n : Nat} : go 116 13 ls (.inr (.inr (8, some n)) :: st) m = go 116 16 ls (.inr (.inr (29, mR m 8 n 12)) :: st) m := e_1 d116_13 (Or.inl rfl) (by rw [xi, pA, show lk fdL (mt 116).2.2.1 45 = some (8, 12) by decide +kernel]; rfl)
theorem d116_16 : decode (mt 116).2.1 16 = .ok (.bipush 16, 2) := by decide +kernel
theorem s116_16 {ls : LV} {st : List AV} {m : MM} : go 116 16 ls st m = go 116 18 ls (.inl 16 :: st) m := e_1 d116_16 (Or.inl rfl) rfl
theorem d116_18 : decode (mt 116).2.1 18 = .ok (.iload_n 1, 1) := by decide +kernel
theorem s116_18 {a0 a2 a3 : Option AV} {st : List AV} {m : MM} {x : Int32} : go 116 18 [a0, some (.inl x), a2, a3] st m = go 116 19 [a0, some (.inl x), a2, a3] (.inl x :: st) m := e_1 d116_18 (Or.inl rfl) rfl
theorem d116_19 : decode (mt 116).2.1 19 = .ok (.imul, 1) := by decide +kernel
theorem s116_19 {ls : LV} {st : List AV} {m : MM} {a b : Int32} : go 116 19 ls (.inl b :: .inl a :: st) m = go 116 20 ls (.inl (a * b) :: st) m := e_1 d116_19 (Or.inl rfl) rfl
theorem d116_20 : decode (mt 116).2.1 20 = .ok (.iload_n 3, 1) := by decide +kernel
theorem s116_20 {a0 a1 a2 : Option AV} {st : List AV} {m : MM} {x : Int32} : go 116 20 [a0, a1, a2, some (.inl x)] st m = go 116 21 [a0, a1, a2, some (.inl x)] (.inl x :: st) m := e_1 d116_20 (Or.inl rfl) rfl
theorem d116_21 : decode (mt 116).2.1 21 = .ok (.iadd, 1) := by decide +kernel
theorem s116_21 {ls : LV} {st : List AV} {m : MM} {a b : Int32} : go 116 21 ls (.inl b :: .inl a :: st) m = go 116 22 ls (.inl (a + b) :: st) m := e_1 d116_21 (Or.inl rfl) rfl
theorem d116_22 : decode (mt 116).2.1 22 = .ok (.iaload, 1) := by decide +kernel
theorem s116_22 {ls : LV} {st : List AV} {m : MM} {n : Nat} {i : Int32} : go 116 22 ls (.inl i :: .inr (.inr (29, some n)) :: st) m = ixk (ix i (mN m 29 n)) (fun j => go 116 23 ls (.inl (mI m 29 n j) :: st) m) := e_ald d116_22 (fun j hj => by simp only [xi, pI, pA, hj, Option.bind_some]; rfl) (fun hj => by simp only [xi, pI, pA, hj, Option.bind_none])
theorem d116_23 : decode (mt 116).2.1 23 = .ok (.iload_n 2, 1) := by decide +kernel
theorem s116_23 {a0 a1 a3 : Option AV} {st : List AV} {m : MM} {x : Int32} : go 116 23 [a0, a1, some (.inl x), a3] st m = go 116 24 [a0, a1, some (.inl x), a3] (.inl x :: st) m := e_1 d116_23 (Or.inl rfl) rfl
theorem d116_24 : decode (mt 116).2.1 24 = .ok (.if_icmp .ne 10, 3) := by decide +kernel
theorem s116_24 {ls : LV} {st : List AV} {m : MM} {a b : Int32} : go 116 24 ls (.inl b :: .inl a :: st) m = if ¬ a = b then go 116 34 ls st m else go 116 27 ls st m := e_if (t := 34) (b := hc .ne a b) d116_24 (Or.inl rfl) (by simp only [xi, pI, jm_some (t := 34) (show ((24 : Nat) : Int) + 10 = ((34 : Nat) : Int) by decide), Option.bind_some]) (by simp [hc])
theorem d116_27 : decode (mt 116).2.1 27 = .ok (.bipush 16, 2) := by decide +kernel
theorem s116_27 {ls : LV} {st : List AV} {m : MM} : go 116 27 ls st m = go 116 29 ls (.inl 16 :: st) m := e_1 d116_27 (Or.inl rfl) rfl
theorem d116_29 : decode (mt 116).2.1 29 = .ok (.iload_n 1, 1) := by decide +kernel
theorem s116_29 {a0 a2 a3 : Option AV} {st : List AV} {m : MM} {x : Int32} : go 116 29 [a0, some (.inl x), a2, a3] st m = go 116 30 [a0, some (.inl x), a2, a3] (.inl x :: st) m := e_1 d116_29 (Or.inl rfl) rfl
theorem d116_30 : decode (mt 116).2.1 30 = .ok (.imul, 1) := by decide +kernel
theorem s116_30 {ls : LV} {st : List AV} {m : MM} {a b : Int32} : go 116 30 ls (.inl b :: .inl a :: st) m = go 116 31 ls (.inl (a * b) :: st) m := e_1 d116_30 (Or.inl rfl) rfl
theorem d116_31 : decode (mt 116).2.1 31 = .ok (.iload_n 3, 1) := by decide +kernel
theorem s116_31 {a0 a1 a2 : Option AV} {st : List AV} {m : MM} {x : Int32} : go 116 31 [a0, a1, a2, some (.inl x)] st m = go 116 32 [a0, a1, a2, some (.inl x)] (.inl x :: st) m := e_1 d116_31 (Or.inl rfl) rfl
theorem d116_32 : decode (mt 116).2.1 32 = .ok (.iadd, 1) := by decide +kernel
theorem s116_32 {ls : LV} {st : List AV} {m : MM} {a b : Int32} : go 116 32 ls (.inl b :: .inl a :: st) m = go 116 33 ls (.inl (a + b) :: st) m := e_1 d116_32 (Or.inl rfl) rfl
theorem d116_33 : decode (mt 116).2.1 33 = .ok (.ireturn, 1) := by decide +kernel
theorem s116_33 {ls : LV} {m : MM} {x : Int32} : go 116 33 ls [.inl x] m = some (some (.inl x), m) := e_int d116_33 (by decide +kernel)
theorem d116_34 : decode (mt 116).2.1 34 = .ok (.iinc 3 1, 3) := by decide +kernel
theorem s116_34i {a0 a1 : Option AV} {z : Int32} {st : List AV} {m : MM} {x : Int32} : go 116 34 [a0, a1, some (.inl z), some (.inl x)] st m = go 116 37 [a0, a1, some (.inl z), some (.inl (x + 1))] st m := e_1 d116_34 (Or.inl rfl) rfl
theorem s116_34r {a0 a1 : Option AV} {z : Nat × Option Nat} {st : List AV} {m : MM} {x : Int32} : go 116 34 [a0, a1, some (.inr (.inr z)), some (.inl x)] st m = go 116 37 [a0, a1, some (.inr (.inr z)), some (.inl (x + 1))] st m := e_1 d116_34 (Or.inl rfl) rfl
theorem s116_34n {a0 a1 : Option AV} {st : List AV} {m : MM} {x : Int32} : go 116 34 [a0, a1, none, some (.inl x)] st m = go 116 37 [a0, a1, none, some (.inl (x + 1))] st m := e_1 d116_34 (Or.inl rfl) rfl
theorem d116_37 : decode (mt 116).2.1 37 = .ok (.goto (-35), 3) := by decide +kernel
theorem s116_37 {ls : LV} {st : List AV} {m : MM} : go 116 37 ls st m = go 116 2 ls st m := e_1 d116_37 (Or.inl rfl) (by rw [xi, jm_some (t := 2) (by decide)]; rfl)
theorem d116_40 : decode (mt 116).2.1 40 = .ok (.bipush (-4), 2) := by decide +kernel
theorem s116_40 {ls : LV} {st : List AV} {m : MM} : go 116 40 ls st m = go 116 42 ls (.inl (-4) :: st) m := e_1 d116_40 (Or.inl rfl) rfl
theorem d116_42 : decode (mt 116).2.1 42 = .ok (.ireturn, 1) := by decide +kernel
theorem s116_42 {ls : LV} {m : MM} {x : Int32} : go 116 42 ls [.inl x] m = some (some (.inl x), m) := e_int d116_42 (by decide +kernel)
/-! X7_remove: 117 -/
theorem d117_0 : decode (mt 117).2.1 0 = .ok (.iload_n 2, 1) := by decide +kernel
theorem s117_0 {a0 a1 a3 : Option AV} {st : List AV} {m : MM} {x : Int32} : go 117 0 [a0, a1, some (.inl x), a3] st m = go 117 1 [a0, a1, some (.inl x), a3] (.inl x :: st) m := e_1 d117_0 (Or.inl rfl) rfl
theorem d117_1 : decode (mt 117).2.1 1 = .ok (.istore_n 3, 1) := by decide +kernel
theorem s117_1i {a0 a1 a3 : Option AV} {z : Int32} {st : List AV} {m : MM} {x : Int32} : go 117 1 [a0, a1, some (.inl z), a3] (.inl x :: st) m = go 117 2 [a0, a1, some (.inl z), some (.inl x)] st m := e_1 d117_1 (Or.inl rfl) rfl
theorem s117_1r {a0 a1 a3 : Option AV} {z : Nat × Option Nat} {st : List AV} {m : MM} {x : Int32} : go 117 1 [a0, a1, some (.inr (.inr z)), a3] (.inl x :: st) m = go 117 2 [a0, a1, some (.inr (.inr z)), some (.inl x)] st m := e_1 d117_1 (Or.inl rfl) rfl
theorem s117_1n {a0 a1 a3 : Option AV} {st : List AV} {m : MM} {x : Int32} : go 117 1 [a0, a1, none, a3] (.inl x :: st) m = go 117 2 [a0, a1, none, some (.inl x)] st m := e_1 d117_1 (Or.inl rfl) rfl
theorem d117_2 : decode (mt 117).2.1 2 = .ok (.iload_n 3, 1) := by decide +kernel
theorem s117_2 {a0 a1 a2 : Option AV} {st : List AV} {m : MM} {x : Int32} : go 117 2 [a0, a1, a2, some (.inl x)] st m = go 117 3 [a0, a1, a2, some (.inl x)] (.inl x :: st) m := e_1 d117_2 (Or.inl rfl) rfl
theorem d117_3 : decode (mt 117).2.1 3 = .ok (.iconst 1, 1) := by decide +kernel
theorem s117_3 {ls : LV} {st : List AV} {m : MM} : go 117 3 ls st m = go 117 4 ls (.inl 1 :: st) m := e_1 d117_3 (Or.inl rfl) rfl
theorem d117_4 : decode (mt 117).2.1 4 = .ok (.iadd, 1) := by decide +kernel
theorem s117_4 {ls : LV} {st : List AV} {m : MM} {a b : Int32} : go 117 4 ls (.inl b :: .inl a :: st) m = go 117 5 ls (.inl (a + b) :: st) m := e_1 d117_4 (Or.inl rfl) rfl
theorem d117_5 : decode (mt 117).2.1 5 = .ok (.aload_n 0, 1) := by decide +kernel
theorem s117_5 {a1 a2 a3 : Option AV} {st : List AV} {m : MM} {x : Nat × Option Nat} : go 117 5 [some (.inr (.inr x)), a1, a2, a3] st m = go 117 6 [some (.inr (.inr x)), a1, a2, a3] (.inr (.inr x) :: st) m := e_1 d117_5 (Or.inl rfl) rfl
theorem d117_6 : decode (mt 117).2.1 6 = .ok (.getfield 42, 3) := by decide +kernel
theorem s117_6 {ls : LV} {st : List AV} {m : MM} {n : Nat} : go 117 6 ls (.inr (.inr (8, some n)) :: st) m = go 117 9 ls (.inr (.inr (28, mR m 8 n 11)) :: st) m := e_1 d117_6 (Or.inl rfl) (by rw [xi, pA, show lk fdL (mt 117).2.2.1 42 = some (8, 11) by decide +kernel]; rfl)
theorem d117_9 : decode (mt 117).2.1 9 = .ok (.iload_n 1, 1) := by decide +kernel
theorem s117_9 {a0 a2 a3 : Option AV} {st : List AV} {m : MM} {x : Int32} : go 117 9 [a0, some (.inl x), a2, a3] st m = go 117 10 [a0, some (.inl x), a2, a3] (.inl x :: st) m := e_1 d117_9 (Or.inl rfl) rfl
theorem d117_10 : decode (mt 117).2.1 10 = .ok (.iaload, 1) := by decide +kernel
theorem s117_10 {ls : LV} {st : List AV} {m : MM} {n : Nat} {i : Int32} : go 117 10 ls (.inl i :: .inr (.inr (28, some n)) :: st) m = ixk (ix i (mN m 28 n)) (fun j => go 117 11 ls (.inl (mI m 28 n j) :: st) m) := e_ald d117_10 (fun j hj => by simp only [xi, pI, pA, hj, Option.bind_some]; rfl) (fun hj => by simp only [xi, pI, pA, hj, Option.bind_none])
theorem d117_11 : decode (mt 117).2.1 11 = .ok (.if_icmp .ge 57, 3) := by decide +kernel
theorem s117_11 {ls : LV} {st : List AV} {m : MM} {a b : Int32} : go 117 11 ls (.inl b :: .inl a :: st) m = if b ≤ a then go 117 68 ls st m else go 117 14 ls st m := e_if (t := 68) (b := hc .ge a b) d117_11 (Or.inl rfl) (by simp only [xi, pI, jm_some (t := 68) (show ((11 : Nat) : Int) + 57 = ((68 : Nat) : Int) by decide), Option.bind_some]) (by simp [hc])
theorem d117_14 : decode (mt 117).2.1 14 = .ok (.aload_n 0, 1) := by decide +kernel
theorem s117_14 {a1 a2 a3 : Option AV} {st : List AV} {m : MM} {x : Nat × Option Nat} : go 117 14 [some (.inr (.inr x)), a1, a2, a3] st m = go 117 15 [some (.inr (.inr x)), a1, a2, a3] (.inr (.inr x) :: st) m := e_1 d117_14 (Or.inl rfl) rfl
theorem d117_15 : decode (mt 117).2.1 15 = .ok (.getfield 45, 3) := by decide +kernel
theorem s117_15 {ls : LV} {st : List AV} {m : MM} {n : Nat} : go 117 15 ls (.inr (.inr (8, some n)) :: st) m = go 117 18 ls (.inr (.inr (29, mR m 8 n 12)) :: st) m := e_1 d117_15 (Or.inl rfl) (by rw [xi, pA, show lk fdL (mt 117).2.2.1 45 = some (8, 12) by decide +kernel]; rfl)
theorem d117_18 : decode (mt 117).2.1 18 = .ok (.bipush 16, 2) := by decide +kernel
theorem s117_18 {ls : LV} {st : List AV} {m : MM} : go 117 18 ls st m = go 117 20 ls (.inl 16 :: st) m := e_1 d117_18 (Or.inl rfl) rfl
theorem d117_20 : decode (mt 117).2.1 20 = .ok (.iload_n 1, 1) := by decide +kernel
theorem s117_20 {a0 a2 a3 : Option AV} {st : List AV} {m : MM} {x : Int32} : go 117 20 [a0, some (.inl x), a2, a3] st m = go 117 21 [a0, some (.inl x), a2, a3] (.inl x :: st) m := e_1 d117_20 (Or.inl rfl) rfl
theorem d117_21 : decode (mt 117).2.1 21 = .ok (.imul, 1) := by decide +kernel
theorem s117_21 {ls : LV} {st : List AV} {m : MM} {a b : Int32} : go 117 21 ls (.inl b :: .inl a :: st) m = go 117 22 ls (.inl (a * b) :: st) m := e_1 d117_21 (Or.inl rfl) rfl
theorem d117_22 : decode (mt 117).2.1 22 = .ok (.iload_n 3, 1) := by decide +kernel
theorem s117_22 {a0 a1 a2 : Option AV} {st : List AV} {m : MM} {x : Int32} : go 117 22 [a0, a1, a2, some (.inl x)] st m = go 117 23 [a0, a1, a2, some (.inl x)] (.inl x :: st) m := e_1 d117_22 (Or.inl rfl) rfl
theorem d117_23 : decode (mt 117).2.1 23 = .ok (.iadd, 1) := by decide +kernel
theorem s117_23 {ls : LV} {st : List AV} {m : MM} {a b : Int32} : go 117 23 ls (.inl b :: .inl a :: st) m = go 117 24 ls (.inl (a + b) :: st) m := e_1 d117_23 (Or.inl rfl) rfl
theorem d117_24 : decode (mt 117).2.1 24 = .ok (.aload_n 0, 1) := by decide +kernel
theorem s117_24 {a1 a2 a3 : Option AV} {st : List AV} {m : MM} {x : Nat × Option Nat} : go 117 24 [some (.inr (.inr x)), a1, a2, a3] st m = go 117 25 [some (.inr (.inr x)), a1, a2, a3] (.inr (.inr x) :: st) m := e_1 d117_24 (Or.inl rfl) rfl
theorem d117_25 : decode (mt 117).2.1 25 = .ok (.getfield 45, 3) := by decide +kernel
theorem s117_25 {ls : LV} {st : List AV} {m : MM} {n : Nat} : go 117 25 ls (.inr (.inr (8, some n)) :: st) m = go 117 28 ls (.inr (.inr (29, mR m 8 n 12)) :: st) m := e_1 d117_25 (Or.inl rfl) (by rw [xi, pA, show lk fdL (mt 117).2.2.1 45 = some (8, 12) by decide +kernel]; rfl)
theorem d117_28 : decode (mt 117).2.1 28 = .ok (.bipush 16, 2) := by decide +kernel
theorem s117_28 {ls : LV} {st : List AV} {m : MM} : go 117 28 ls st m = go 117 30 ls (.inl 16 :: st) m := e_1 d117_28 (Or.inl rfl) rfl
theorem d117_30 : decode (mt 117).2.1 30 = .ok (.iload_n 1, 1) := by decide +kernel
theorem s117_30 {a0 a2 a3 : Option AV} {st : List AV} {m : MM} {x : Int32} : go 117 30 [a0, some (.inl x), a2, a3] st m = go 117 31 [a0, some (.inl x), a2, a3] (.inl x :: st) m := e_1 d117_30 (Or.inl rfl) rfl
theorem d117_31 : decode (mt 117).2.1 31 = .ok (.imul, 1) := by decide +kernel
theorem s117_31 {ls : LV} {st : List AV} {m : MM} {a b : Int32} : go 117 31 ls (.inl b :: .inl a :: st) m = go 117 32 ls (.inl (a * b) :: st) m := e_1 d117_31 (Or.inl rfl) rfl
theorem d117_32 : decode (mt 117).2.1 32 = .ok (.iload_n 3, 1) := by decide +kernel
theorem s117_32 {a0 a1 a2 : Option AV} {st : List AV} {m : MM} {x : Int32} : go 117 32 [a0, a1, a2, some (.inl x)] st m = go 117 33 [a0, a1, a2, some (.inl x)] (.inl x :: st) m := e_1 d117_32 (Or.inl rfl) rfl
theorem d117_33 : decode (mt 117).2.1 33 = .ok (.iadd, 1) := by decide +kernel
theorem s117_33 {ls : LV} {st : List AV} {m : MM} {a b : Int32} : go 117 33 ls (.inl b :: .inl a :: st) m = go 117 34 ls (.inl (a + b) :: st) m := e_1 d117_33 (Or.inl rfl) rfl
theorem d117_34 : decode (mt 117).2.1 34 = .ok (.iconst 1, 1) := by decide +kernel
theorem s117_34 {ls : LV} {st : List AV} {m : MM} : go 117 34 ls st m = go 117 35 ls (.inl 1 :: st) m := e_1 d117_34 (Or.inl rfl) rfl
theorem d117_35 : decode (mt 117).2.1 35 = .ok (.iadd, 1) := by decide +kernel
theorem s117_35 {ls : LV} {st : List AV} {m : MM} {a b : Int32} : go 117 35 ls (.inl b :: .inl a :: st) m = go 117 36 ls (.inl (a + b) :: st) m := e_1 d117_35 (Or.inl rfl) rfl
theorem d117_36 : decode (mt 117).2.1 36 = .ok (.iaload, 1) := by decide +kernel
theorem s117_36 {ls : LV} {st : List AV} {m : MM} {n : Nat} {i : Int32} : go 117 36 ls (.inl i :: .inr (.inr (29, some n)) :: st) m = ixk (ix i (mN m 29 n)) (fun j => go 117 37 ls (.inl (mI m 29 n j) :: st) m) := e_ald d117_36 (fun j hj => by simp only [xi, pI, pA, hj, Option.bind_some]; rfl) (fun hj => by simp only [xi, pI, pA, hj, Option.bind_none])
theorem d117_37 : decode (mt 117).2.1 37 = .ok (.iastore, 1) := by decide +kernel
theorem s117_37 {ls : LV} {st : List AV} {m : MM} {n : Nat} {i : Int32} {x : Int32} : go 117 37 ls (.inl x :: .inl i :: .inr (.inr (29, some n)) :: st) m = ixk (ix i (mN m 29 n)) (fun j => go 117 38 ls st (sI m 29 n j x)) := e_ald d117_37 (fun j hj => by simp only [xi, pI, pL, pR, pA, hj, Option.bind_some]; exact if_pos ⟨rfl, by decide⟩) (fun hj => by simp only [xi, pI, pL, pR, pA, hj, Option.bind_none])
theorem d117_38 : decode (mt 117).2.1 38 = .ok (.aload_n 0, 1) := by decide +kernel
theorem s117_38 {a1 a2 a3 : Option AV} {st : List AV} {m : MM} {x : Nat × Option Nat} : go 117 38 [some (.inr (.inr x)), a1, a2, a3] st m = go 117 39 [some (.inr (.inr x)), a1, a2, a3] (.inr (.inr x) :: st) m := e_1 d117_38 (Or.inl rfl) rfl
theorem d117_39 : decode (mt 117).2.1 39 = .ok (.getfield 48, 3) := by decide +kernel
theorem s117_39 {ls : LV} {st : List AV} {m : MM} {n : Nat} : go 117 39 ls (.inr (.inr (8, some n)) :: st) m = go 117 42 ls (.inr (.inr (30, mR m 8 n 13)) :: st) m := e_1 d117_39 (Or.inl rfl) (by rw [xi, pA, show lk fdL (mt 117).2.2.1 48 = some (8, 13) by decide +kernel]; rfl)
theorem d117_42 : decode (mt 117).2.1 42 = .ok (.bipush 16, 2) := by decide +kernel
theorem s117_42 {ls : LV} {st : List AV} {m : MM} : go 117 42 ls st m = go 117 44 ls (.inl 16 :: st) m := e_1 d117_42 (Or.inl rfl) rfl
theorem d117_44 : decode (mt 117).2.1 44 = .ok (.iload_n 1, 1) := by decide +kernel
theorem s117_44 {a0 a2 a3 : Option AV} {st : List AV} {m : MM} {x : Int32} : go 117 44 [a0, some (.inl x), a2, a3] st m = go 117 45 [a0, some (.inl x), a2, a3] (.inl x :: st) m := e_1 d117_44 (Or.inl rfl) rfl
theorem d117_45 : decode (mt 117).2.1 45 = .ok (.imul, 1) := by decide +kernel
theorem s117_45 {ls : LV} {st : List AV} {m : MM} {a b : Int32} : go 117 45 ls (.inl b :: .inl a :: st) m = go 117 46 ls (.inl (a * b) :: st) m := e_1 d117_45 (Or.inl rfl) rfl
theorem d117_46 : decode (mt 117).2.1 46 = .ok (.iload_n 3, 1) := by decide +kernel
theorem s117_46 {a0 a1 a2 : Option AV} {st : List AV} {m : MM} {x : Int32} : go 117 46 [a0, a1, a2, some (.inl x)] st m = go 117 47 [a0, a1, a2, some (.inl x)] (.inl x :: st) m := e_1 d117_46 (Or.inl rfl) rfl
theorem d117_47 : decode (mt 117).2.1 47 = .ok (.iadd, 1) := by decide +kernel
theorem s117_47 {ls : LV} {st : List AV} {m : MM} {a b : Int32} : go 117 47 ls (.inl b :: .inl a :: st) m = go 117 48 ls (.inl (a + b) :: st) m := e_1 d117_47 (Or.inl rfl) rfl
theorem d117_48 : decode (mt 117).2.1 48 = .ok (.aload_n 0, 1) := by decide +kernel
theorem s117_48 {a1 a2 a3 : Option AV} {st : List AV} {m : MM} {x : Nat × Option Nat} : go 117 48 [some (.inr (.inr x)), a1, a2, a3] st m = go 117 49 [some (.inr (.inr x)), a1, a2, a3] (.inr (.inr x) :: st) m := e_1 d117_48 (Or.inl rfl) rfl
theorem d117_49 : decode (mt 117).2.1 49 = .ok (.getfield 48, 3) := by decide +kernel
theorem s117_49 {ls : LV} {st : List AV} {m : MM} {n : Nat} : go 117 49 ls (.inr (.inr (8, some n)) :: st) m = go 117 52 ls (.inr (.inr (30, mR m 8 n 13)) :: st) m := e_1 d117_49 (Or.inl rfl) (by rw [xi, pA, show lk fdL (mt 117).2.2.1 48 = some (8, 13) by decide +kernel]; rfl)
theorem d117_52 : decode (mt 117).2.1 52 = .ok (.bipush 16, 2) := by decide +kernel
theorem s117_52 {ls : LV} {st : List AV} {m : MM} : go 117 52 ls st m = go 117 54 ls (.inl 16 :: st) m := e_1 d117_52 (Or.inl rfl) rfl
theorem d117_54 : decode (mt 117).2.1 54 = .ok (.iload_n 1, 1) := by decide +kernel
theorem s117_54 {a0 a2 a3 : Option AV} {st : List AV} {m : MM} {x : Int32} : go 117 54 [a0, some (.inl x), a2, a3] st m = go 117 55 [a0, some (.inl x), a2, a3] (.inl x :: st) m := e_1 d117_54 (Or.inl rfl) rfl
theorem d117_55 : decode (mt 117).2.1 55 = .ok (.imul, 1) := by decide +kernel
theorem s117_55 {ls : LV} {st : List AV} {m : MM} {a b : Int32} : go 117 55 ls (.inl b :: .inl a :: st) m = go 117 56 ls (.inl (a * b) :: st) m := e_1 d117_55 (Or.inl rfl) rfl
theorem d117_56 : decode (mt 117).2.1 56 = .ok (.iload_n 3, 1) := by decide +kernel
theorem s117_56 {a0 a1 a2 : Option AV} {st : List AV} {m : MM} {x : Int32} : go 117 56 [a0, a1, a2, some (.inl x)] st m = go 117 57 [a0, a1, a2, some (.inl x)] (.inl x :: st) m := e_1 d117_56 (Or.inl rfl) rfl
theorem d117_57 : decode (mt 117).2.1 57 = .ok (.iadd, 1) := by decide +kernel
theorem s117_57 {ls : LV} {st : List AV} {m : MM} {a b : Int32} : go 117 57 ls (.inl b :: .inl a :: st) m = go 117 58 ls (.inl (a + b) :: st) m := e_1 d117_57 (Or.inl rfl) rfl
theorem d117_58 : decode (mt 117).2.1 58 = .ok (.iconst 1, 1) := by decide +kernel
theorem s117_58 {ls : LV} {st : List AV} {m : MM} : go 117 58 ls st m = go 117 59 ls (.inl 1 :: st) m := e_1 d117_58 (Or.inl rfl) rfl
theorem d117_59 : decode (mt 117).2.1 59 = .ok (.iadd, 1) := by decide +kernel
theorem s117_59 {ls : LV} {st : List AV} {m : MM} {a b : Int32} : go 117 59 ls (.inl b :: .inl a :: st) m = go 117 60 ls (.inl (a + b) :: st) m := e_1 d117_59 (Or.inl rfl) rfl
theorem d117_60 : decode (mt 117).2.1 60 = .ok (.laload, 1) := by decide +kernel
theorem s117_60 {ls : LV} {st : List AV} {m : MM} {n : Nat} {i : Int32} : go 117 60 ls (.inl i :: .inr (.inr (30, some n)) :: st) m = ixk (ix i (mN m 30 n)) (fun j => go 117 61 ls (.inr (.inl (mL m 30 n j)) :: st) m) := e_ald d117_60 (fun j hj => by simp only [xi, pI, pA, hj, Option.bind_some]; rfl) (fun hj => by simp only [xi, pI, pA, hj, Option.bind_none])
theorem d117_61 : decode (mt 117).2.1 61 = .ok (.lastore, 1) := by decide +kernel
theorem s117_61 {ls : LV} {st : List AV} {m : MM} {n : Nat} {i : Int32} {x : Int64} : go 117 61 ls (.inr (.inl x) :: .inl i :: .inr (.inr (30, some n)) :: st) m = ixk (ix i (mN m 30 n)) (fun j => go 117 62 ls st (sL m 30 n j x)) := e_ald d117_61 (fun j hj => by simp only [xi, pI, pL, pR, pA, hj, Option.bind_some]; exact if_pos rfl) (fun hj => by simp only [xi, pI, pL, pR, pA, hj, Option.bind_none])
theorem d117_62 : decode (mt 117).2.1 62 = .ok (.iinc 3 1, 3) := by decide +kernel
theorem s117_62i {a0 a1 : Option AV} {z : Int32} {st : List AV} {m : MM} {x : Int32} : go 117 62 [a0, a1, some (.inl z), some (.inl x)] st m = go 117 65 [a0, a1, some (.inl z), some (.inl (x + 1))] st m := e_1 d117_62 (Or.inl rfl) rfl
theorem s117_62r {a0 a1 : Option AV} {z : Nat × Option Nat} {st : List AV} {m : MM} {x : Int32} : go 117 62 [a0, a1, some (.inr (.inr z)), some (.inl x)] st m = go 117 65 [a0, a1, some (.inr (.inr z)), some (.inl (x + 1))] st m := e_1 d117_62 (Or.inl rfl) rfl
theorem s117_62n {a0 a1 : Option AV} {st : List AV} {m : MM} {x : Int32} : go 117 62 [a0, a1, none, some (.inl x)] st m = go 117 65 [a0, a1, none, some (.inl (x + 1))] st m := e_1 d117_62 (Or.inl rfl) rfl
theorem d117_65 : decode (mt 117).2.1 65 = .ok (.goto (-63), 3) := by decide +kernel
theorem s117_65 {ls : LV} {st : List AV} {m : MM} : go 117 65 ls st m = go 117 2 ls st m := e_1 d117_65 (Or.inl rfl) (by rw [xi, jm_some (t := 2) (by decide)]; rfl)
theorem d117_68 : decode (mt 117).2.1 68 = .ok (.aload_n 0, 1) := by decide +kernel
theorem s117_68 {a1 a2 a3 : Option AV} {st : List AV} {m : MM} {x : Nat × Option Nat} : go 117 68 [some (.inr (.inr x)), a1, a2, a3] st m = go 117 69 [some (.inr (.inr x)), a1, a2, a3] (.inr (.inr x) :: st) m := e_1 d117_68 (Or.inl rfl) rfl
theorem d117_69 : decode (mt 117).2.1 69 = .ok (.getfield 42, 3) := by decide +kernel
theorem s117_69 {ls : LV} {st : List AV} {m : MM} {n : Nat} : go 117 69 ls (.inr (.inr (8, some n)) :: st) m = go 117 72 ls (.inr (.inr (28, mR m 8 n 11)) :: st) m := e_1 d117_69 (Or.inl rfl) (by rw [xi, pA, show lk fdL (mt 117).2.2.1 42 = some (8, 11) by decide +kernel]; rfl)
theorem d117_72 : decode (mt 117).2.1 72 = .ok (.iload_n 1, 1) := by decide +kernel
theorem s117_72 {a0 a2 a3 : Option AV} {st : List AV} {m : MM} {x : Int32} : go 117 72 [a0, some (.inl x), a2, a3] st m = go 117 73 [a0, some (.inl x), a2, a3] (.inl x :: st) m := e_1 d117_72 (Or.inl rfl) rfl
theorem d117_73 : decode (mt 117).2.1 73 = .ok (.dup2, 1) := by decide +kernel
theorem s117_73 {ls : LV} {st : List AV} {m : MM} {i : Int32} {x : Nat × Option Nat} : go 117 73 ls (.inl i :: .inr (.inr x) :: st) m = go 117 74 ls (.inl i :: .inr (.inr x) :: .inl i :: .inr (.inr x) :: st) m := e_1 d117_73 (Or.inl rfl) rfl
theorem d117_74 : decode (mt 117).2.1 74 = .ok (.iaload, 1) := by decide +kernel
theorem s117_74 {ls : LV} {st : List AV} {m : MM} {n : Nat} {i : Int32} : go 117 74 ls (.inl i :: .inr (.inr (28, some n)) :: st) m = ixk (ix i (mN m 28 n)) (fun j => go 117 75 ls (.inl (mI m 28 n j) :: st) m) := e_ald d117_74 (fun j hj => by simp only [xi, pI, pA, hj, Option.bind_some]; rfl) (fun hj => by simp only [xi, pI, pA, hj, Option.bind_none])
theorem d117_75 : decode (mt 117).2.1 75 = .ok (.iconst 1, 1) := by decide +kernel
theorem s117_75 {ls : LV} {st : List AV} {m : MM} : go 117 75 ls st m = go 117 76 ls (.inl 1 :: st) m := e_1 d117_75 (Or.inl rfl) rfl
theorem d117_76 : decode (mt 117).2.1 76 = .ok (.isub, 1) := by decide +kernel
theorem s117_76 {ls : LV} {st : List AV} {m : MM} {a b : Int32} : go 117 76 ls (.inl b :: .inl a :: st) m = go 117 77 ls (.inl (a - b) :: st) m := e_1 d117_76 (Or.inl rfl) rfl
theorem d117_77 : decode (mt 117).2.1 77 = .ok (.iastore, 1) := by decide +kernel
theorem s117_77 {ls : LV} {st : List AV} {m : MM} {n : Nat} {i : Int32} {x : Int32} : go 117 77 ls (.inl x :: .inl i :: .inr (.inr (28, some n)) :: st) m = ixk (ix i (mN m 28 n)) (fun j => go 117 78 ls st (sI m 28 n j x)) := e_ald d117_77 (fun j hj => by simp only [xi, pI, pL, pR, pA, hj, Option.bind_some]; exact if_pos ⟨rfl, by decide⟩) (fun hj => by simp only [xi, pI, pL, pR, pA, hj, Option.bind_none])
theorem d117_78 : decode (mt 117).2.1 78 = .ok (.return_, 1) := by decide +kernel
theorem s117_78 {ls : LV} {m : MM} : go 117 78 ls [] m = some (none, m) := e_void d117_78 (by decide +kernel)
/-! X7_ends: 118 -/
theorem d118_0 : decode (mt 118).2.1 0 = .ok (.aload_n 0, 1) := by decide +kernel
theorem s118_0 {a1 a2 : Option AV} {st : List AV} {m : MM} {x : Nat × Option Nat} : go 118 0 [some (.inr (.inr x)), a1, a2] st m = go 118 1 [some (.inr (.inr x)), a1, a2] (.inr (.inr x) :: st) m := e_1 d118_0 (Or.inl rfl) rfl
theorem d118_1 : decode (mt 118).2.1 1 = .ok (.getfield 58, 3) := by decide +kernel
theorem s118_1 {ls : LV} {st : List AV} {m : MM} {n : Nat} : go 118 1 ls (.inr (.inr (8, some n)) :: st) m = go 118 4 ls (.inr (.inr (33, mR m 8 n 20)) :: st) m := e_1 d118_1 (Or.inl rfl) (by rw [xi, pA, show lk fdL (mt 118).2.2.1 58 = some (8, 20) by decide +kernel]; rfl)
theorem d118_4 : decode (mt 118).2.1 4 = .ok (.iload_n 1, 1) := by decide +kernel
theorem s118_4 {a0 a2 : Option AV} {st : List AV} {m : MM} {x : Int32} : go 118 4 [a0, some (.inl x), a2] st m = go 118 5 [a0, some (.inl x), a2] (.inl x :: st) m := e_1 d118_4 (Or.inl rfl) rfl
theorem d118_5 : decode (mt 118).2.1 5 = .ok (.iconst 1, 1) := by decide +kernel
theorem s118_5 {ls : LV} {st : List AV} {m : MM} : go 118 5 ls st m = go 118 6 ls (.inl 1 :: st) m := e_1 d118_5 (Or.inl rfl) rfl
theorem d118_6 : decode (mt 118).2.1 6 = .ok (.bastore, 1) := by decide +kernel
theorem s118_6b0 {ls : LV} {st : List AV} {m : MM} {n : Nat} {i : Int32} : go 118 6 ls (.inl 0 :: .inl i :: .inr (.inr (33, some n)) :: st) m = ixk (ix i (mN m 33 n)) (fun j => go 118 7 ls st (sI m 33 n j 0)) := e_ald d118_6 (fun j hj => by simp only [xi, pI, pL, pR, pA, hj, Option.bind_some]; exact if_pos (Or.inl ⟨rfl, by decide⟩)) (fun hj => by simp only [xi, pI, pL, pR, pA, hj, Option.bind_none])
theorem s118_6b1 {ls : LV} {st : List AV} {m : MM} {n : Nat} {i : Int32} : go 118 6 ls (.inl 1 :: .inl i :: .inr (.inr (33, some n)) :: st) m = ixk (ix i (mN m 33 n)) (fun j => go 118 7 ls st (sI m 33 n j 1)) := e_ald d118_6 (fun j hj => by simp only [xi, pI, pL, pR, pA, hj, Option.bind_some]; exact if_pos (Or.inl ⟨rfl, by decide⟩)) (fun hj => by simp only [xi, pI, pL, pR, pA, hj, Option.bind_none])
theorem d118_7 : decode (mt 118).2.1 7 = .ok (.aload_n 0, 1) := by decide +kernel
theorem s118_7 {a1 a2 : Option AV} {st : List AV} {m : MM} {x : Nat × Option Nat} : go 118 7 [some (.inr (.inr x)), a1, a2] st m = go 118 8 [some (.inr (.inr x)), a1, a2] (.inr (.inr x) :: st) m := e_1 d118_7 (Or.inl rfl) rfl
theorem d118_8 : decode (mt 118).2.1 8 = .ok (.getfield 61, 3) := by decide +kernel
theorem s118_8 {ls : LV} {st : List AV} {m : MM} {n : Nat} : go 118 8 ls (.inr (.inr (8, some n)) :: st) m = go 118 11 ls (.inr (.inr (34, mR m 8 n 21)) :: st) m := e_1 d118_8 (Or.inl rfl) (by rw [xi, pA, show lk fdL (mt 118).2.2.1 61 = some (8, 21) by decide +kernel]; rfl)
theorem d118_11 : decode (mt 118).2.1 11 = .ok (.iload_n 1, 1) := by decide +kernel
theorem s118_11 {a0 a2 : Option AV} {st : List AV} {m : MM} {x : Int32} : go 118 11 [a0, some (.inl x), a2] st m = go 118 12 [a0, some (.inl x), a2] (.inl x :: st) m := e_1 d118_11 (Or.inl rfl) rfl
theorem d118_12 : decode (mt 118).2.1 12 = .ok (.iload_n 2, 1) := by decide +kernel
theorem s118_12 {a0 a1 : Option AV} {st : List AV} {m : MM} {x : Int32} : go 118 12 [a0, a1, some (.inl x)] st m = go 118 13 [a0, a1, some (.inl x)] (.inl x :: st) m := e_1 d118_12 (Or.inl rfl) rfl
theorem d118_13 : decode (mt 118).2.1 13 = .ok (.iastore, 1) := by decide +kernel
theorem s118_13 {ls : LV} {st : List AV} {m : MM} {n : Nat} {i : Int32} {x : Int32} : go 118 13 ls (.inl x :: .inl i :: .inr (.inr (34, some n)) :: st) m = ixk (ix i (mN m 34 n)) (fun j => go 118 14 ls st (sI m 34 n j x)) := e_ald d118_13 (fun j hj => by simp only [xi, pI, pL, pR, pA, hj, Option.bind_some]; exact if_pos ⟨rfl, by decide⟩) (fun hj => by simp only [xi, pI, pL, pR, pA, hj, Option.bind_none])
theorem d118_14 : decode (mt 118).2.1 14 = .ok (.aload_n 0, 1) := by decide +kernel
theorem s118_14 {a1 a2 : Option AV} {st : List AV} {m : MM} {x : Nat × Option Nat} : go 118 14 [some (.inr (.inr x)), a1, a2] st m = go 118 15 [some (.inr (.inr x)), a1, a2] (.inr (.inr x) :: st) m := e_1 d118_14 (Or.inl rfl) rfl
theorem d118_15 : decode (mt 118).2.1 15 = .ok (.dup, 1) := by decide +kernel
theorem s118_15 {ls : LV} {st : List AV} {m : MM} {x : Nat × Option Nat} : go 118 15 ls (.inr (.inr x) :: st) m = go 118 16 ls (.inr (.inr x) :: .inr (.inr x) :: st) m := e_1 d118_15 (Or.inl rfl) rfl
theorem d118_16 : decode (mt 118).2.1 16 = .ok (.getfield 137, 3) := by decide +kernel
theorem s118_16 {ls : LV} {st : List AV} {m : MM} {n : Nat} : go 118 16 ls (.inr (.inr (8, some n)) :: st) m = go 118 19 ls (.inl (mI m 8 n 17) :: st) m := e_1 d118_16 (Or.inl rfl) (by rw [xi, pA, show lk fdL (mt 118).2.2.1 137 = some (8, 17) by decide +kernel]; rfl)
theorem d118_19 : decode (mt 118).2.1 19 = .ok (.iconst 1, 1) := by decide +kernel
theorem s118_19 {ls : LV} {st : List AV} {m : MM} : go 118 19 ls st m = go 118 20 ls (.inl 1 :: st) m := e_1 d118_19 (Or.inl rfl) rfl
theorem d118_20 : decode (mt 118).2.1 20 = .ok (.iadd, 1) := by decide +kernel
theorem s118_20 {ls : LV} {st : List AV} {m : MM} {a b : Int32} : go 118 20 ls (.inl b :: .inl a :: st) m = go 118 21 ls (.inl (a + b) :: st) m := e_1 d118_20 (Or.inl rfl) rfl
theorem d118_21 : decode (mt 118).2.1 21 = .ok (.putfield 137, 3) := by decide +kernel
theorem s118_21 {ls : LV} {st : List AV} {m : MM} {n : Nat} {x : Int32} : go 118 21 ls (.inl x :: .inr (.inr (8, some n)) :: st) m = go 118 24 ls st (sI m 8 n 17 x) := e_put (r := 8) (f := 17) d118_21 (by decide +kernel) rfl (by decide +kernel)
theorem d118_24 : decode (mt 118).2.1 24 = .ok (.return_, 1) := by decide +kernel
theorem s118_24 {ls : LV} {m : MM} : go 118 24 ls [] m = some (none, m) := e_void d118_24 (by decide +kernel)
/-! X7_send: 119 -/
theorem d119_0 : decode (mt 119).2.1 0 = .ok (.aload_n 0, 1) := by decide +kernel
theorem s119_0 {a1 a2 a3 a4 a5 a6 a7 a8 : Option AV} {st : List AV} {m : MM} {x : Nat × Option Nat} : go 119 0 [some (.inr (.inr x)), a1, a2, a3, a4, a5, a6, a7, a8] st m = go 119 1 [some (.inr (.inr x)), a1, a2, a3, a4, a5, a6, a7, a8] (.inr (.inr x) :: st) m := e_1 d119_0 (Or.inl rfl) rfl
theorem d119_1 : decode (mt 119).2.1 1 = .ok (.getfield 140, 3) := by decide +kernel
theorem s119_1 {ls : LV} {st : List AV} {m : MM} {n : Nat} : go 119 1 ls (.inr (.inr (8, some n)) :: st) m = go 119 4 ls (.inl (mI m 8 n 30) :: st) m := e_1 d119_1 (Or.inl rfl) (by rw [xi, pA, show lk fdL (mt 119).2.2.1 140 = some (8, 30) by decide +kernel]; rfl)
theorem d119_4 : decode (mt 119).2.1 4 = .ok (.istore 8, 2) := by decide +kernel
theorem s119_4i {a0 a1 a2 a3 a4 a5 a6 a8 : Option AV} {z : Int32} {st : List AV} {m : MM} {x : Int32} : go 119 4 [a0, a1, a2, a3, a4, a5, a6, some (.inl z), a8] (.inl x :: st) m = go 119 6 [a0, a1, a2, a3, a4, a5, a6, some (.inl z), some (.inl x)] st m := e_1 d119_4 (Or.inl rfl) rfl
theorem s119_4r {a0 a1 a2 a3 a4 a5 a6 a8 : Option AV} {z : Nat × Option Nat} {st : List AV} {m : MM} {x : Int32} : go 119 4 [a0, a1, a2, a3, a4, a5, a6, some (.inr (.inr z)), a8] (.inl x :: st) m = go 119 6 [a0, a1, a2, a3, a4, a5, a6, some (.inr (.inr z)), some (.inl x)] st m := e_1 d119_4 (Or.inl rfl) rfl
theorem s119_4n {a0 a1 a2 a3 a4 a5 a6 a8 : Option AV} {st : List AV} {m : MM} {x : Int32} : go 119 4 [a0, a1, a2, a3, a4, a5, a6, none, a8] (.inl x :: st) m = go 119 6 [a0, a1, a2, a3, a4, a5, a6, none, some (.inl x)] st m := e_1 d119_4 (Or.inl rfl) rfl
theorem d119_6 : decode (mt 119).2.1 6 = .ok (.aload_n 0, 1) := by decide +kernel
theorem s119_6 {a1 a2 a3 a4 a5 a6 a7 a8 : Option AV} {st : List AV} {m : MM} {x : Nat × Option Nat} : go 119 6 [some (.inr (.inr x)), a1, a2, a3, a4, a5, a6, a7, a8] st m = go 119 7 [some (.inr (.inr x)), a1, a2, a3, a4, a5, a6, a7, a8] (.inr (.inr x) :: st) m := e_1 d119_6 (Or.inl rfl) rfl
theorem d119_7 : decode (mt 119).2.1 7 = .ok (.dup, 1) := by decide +kernel
theorem s119_7 {ls : LV} {st : List AV} {m : MM} {x : Nat × Option Nat} : go 119 7 ls (.inr (.inr x) :: st) m = go 119 8 ls (.inr (.inr x) :: .inr (.inr x) :: st) m := e_1 d119_7 (Or.inl rfl) rfl
theorem d119_8 : decode (mt 119).2.1 8 = .ok (.getfield 140, 3) := by decide +kernel
theorem s119_8 {ls : LV} {st : List AV} {m : MM} {n : Nat} : go 119 8 ls (.inr (.inr (8, some n)) :: st) m = go 119 11 ls (.inl (mI m 8 n 30) :: st) m := e_1 d119_8 (Or.inl rfl) (by rw [xi, pA, show lk fdL (mt 119).2.2.1 140 = some (8, 30) by decide +kernel]; rfl)
theorem d119_11 : decode (mt 119).2.1 11 = .ok (.iconst 1, 1) := by decide +kernel
theorem s119_11 {ls : LV} {st : List AV} {m : MM} : go 119 11 ls st m = go 119 12 ls (.inl 1 :: st) m := e_1 d119_11 (Or.inl rfl) rfl
theorem d119_12 : decode (mt 119).2.1 12 = .ok (.iadd, 1) := by decide +kernel
theorem s119_12 {ls : LV} {st : List AV} {m : MM} {a b : Int32} : go 119 12 ls (.inl b :: .inl a :: st) m = go 119 13 ls (.inl (a + b) :: st) m := e_1 d119_12 (Or.inl rfl) rfl
theorem d119_13 : decode (mt 119).2.1 13 = .ok (.putfield 140, 3) := by decide +kernel
theorem s119_13 {ls : LV} {st : List AV} {m : MM} {n : Nat} {x : Int32} : go 119 13 ls (.inl x :: .inr (.inr (8, some n)) :: st) m = go 119 16 ls st (sI m 8 n 30 x) := e_put (r := 8) (f := 30) d119_13 (by decide +kernel) rfl (by decide +kernel)
theorem d119_16 : decode (mt 119).2.1 16 = .ok (.aload_n 0, 1) := by decide +kernel
theorem s119_16 {a1 a2 a3 a4 a5 a6 a7 a8 : Option AV} {st : List AV} {m : MM} {x : Nat × Option Nat} : go 119 16 [some (.inr (.inr x)), a1, a2, a3, a4, a5, a6, a7, a8] st m = go 119 17 [some (.inr (.inr x)), a1, a2, a3, a4, a5, a6, a7, a8] (.inr (.inr x) :: st) m := e_1 d119_16 (Or.inl rfl) rfl
theorem d119_17 : decode (mt 119).2.1 17 = .ok (.getfield 88, 3) := by decide +kernel
theorem s119_17 {ls : LV} {st : List AV} {m : MM} {n : Nat} : go 119 17 ls (.inr (.inr (8, some n)) :: st) m = go 119 20 ls (.inr (.inr (43, mR m 8 n 31)) :: st) m := e_1 d119_17 (Or.inl rfl) (by rw [xi, pA, show lk fdL (mt 119).2.2.1 88 = some (8, 31) by decide +kernel]; rfl)
theorem d119_20 : decode (mt 119).2.1 20 = .ok (.iload 8, 2) := by decide +kernel
theorem s119_20 {a0 a1 a2 a3 a4 a5 a6 a7 : Option AV} {st : List AV} {m : MM} {x : Int32} : go 119 20 [a0, a1, a2, a3, a4, a5, a6, a7, some (.inl x)] st m = go 119 22 [a0, a1, a2, a3, a4, a5, a6, a7, some (.inl x)] (.inl x :: st) m := e_1 d119_20 (Or.inl rfl) rfl
theorem d119_22 : decode (mt 119).2.1 22 = .ok (.iload_n 1, 1) := by decide +kernel
theorem s119_22 {a0 a2 a3 a4 a5 a6 a7 a8 : Option AV} {st : List AV} {m : MM} {x : Int32} : go 119 22 [a0, some (.inl x), a2, a3, a4, a5, a6, a7, a8] st m = go 119 23 [a0, some (.inl x), a2, a3, a4, a5, a6, a7, a8] (.inl x :: st) m := e_1 d119_22 (Or.inl rfl) rfl
theorem d119_23 : decode (mt 119).2.1 23 = .ok (.iastore, 1) := by decide +kernel
theorem s119_23 {ls : LV} {st : List AV} {m : MM} {n : Nat} {i : Int32} {x : Int32} : go 119 23 ls (.inl x :: .inl i :: .inr (.inr (43, some n)) :: st) m = ixk (ix i (mN m 43 n)) (fun j => go 119 24 ls st (sI m 43 n j x)) := e_ald d119_23 (fun j hj => by simp only [xi, pI, pL, pR, pA, hj, Option.bind_some]; exact if_pos ⟨rfl, by decide⟩) (fun hj => by simp only [xi, pI, pL, pR, pA, hj, Option.bind_none])
theorem d119_24 : decode (mt 119).2.1 24 = .ok (.aload_n 0, 1) := by decide +kernel
theorem s119_24 {a1 a2 a3 a4 a5 a6 a7 a8 : Option AV} {st : List AV} {m : MM} {x : Nat × Option Nat} : go 119 24 [some (.inr (.inr x)), a1, a2, a3, a4, a5, a6, a7, a8] st m = go 119 25 [some (.inr (.inr x)), a1, a2, a3, a4, a5, a6, a7, a8] (.inr (.inr x) :: st) m := e_1 d119_24 (Or.inl rfl) rfl
theorem d119_25 : decode (mt 119).2.1 25 = .ok (.getfield 91, 3) := by decide +kernel
theorem s119_25 {ls : LV} {st : List AV} {m : MM} {n : Nat} : go 119 25 ls (.inr (.inr (8, some n)) :: st) m = go 119 28 ls (.inr (.inr (44, mR m 8 n 32)) :: st) m := e_1 d119_25 (Or.inl rfl) (by rw [xi, pA, show lk fdL (mt 119).2.2.1 91 = some (8, 32) by decide +kernel]; rfl)
theorem d119_28 : decode (mt 119).2.1 28 = .ok (.iload 8, 2) := by decide +kernel
theorem s119_28 {a0 a1 a2 a3 a4 a5 a6 a7 : Option AV} {st : List AV} {m : MM} {x : Int32} : go 119 28 [a0, a1, a2, a3, a4, a5, a6, a7, some (.inl x)] st m = go 119 30 [a0, a1, a2, a3, a4, a5, a6, a7, some (.inl x)] (.inl x :: st) m := e_1 d119_28 (Or.inl rfl) rfl
theorem d119_30 : decode (mt 119).2.1 30 = .ok (.iload_n 2, 1) := by decide +kernel
theorem s119_30 {a0 a1 a3 a4 a5 a6 a7 a8 : Option AV} {st : List AV} {m : MM} {x : Int32} : go 119 30 [a0, a1, some (.inl x), a3, a4, a5, a6, a7, a8] st m = go 119 31 [a0, a1, some (.inl x), a3, a4, a5, a6, a7, a8] (.inl x :: st) m := e_1 d119_30 (Or.inl rfl) rfl
theorem d119_31 : decode (mt 119).2.1 31 = .ok (.iastore, 1) := by decide +kernel
theorem s119_31 {ls : LV} {st : List AV} {m : MM} {n : Nat} {i : Int32} {x : Int32} : go 119 31 ls (.inl x :: .inl i :: .inr (.inr (44, some n)) :: st) m = ixk (ix i (mN m 44 n)) (fun j => go 119 32 ls st (sI m 44 n j x)) := e_ald d119_31 (fun j hj => by simp only [xi, pI, pL, pR, pA, hj, Option.bind_some]; exact if_pos ⟨rfl, by decide⟩) (fun hj => by simp only [xi, pI, pL, pR, pA, hj, Option.bind_none])
theorem d119_32 : decode (mt 119).2.1 32 = .ok (.aload_n 0, 1) := by decide +kernel
theorem s119_32 {a1 a2 a3 a4 a5 a6 a7 a8 : Option AV} {st : List AV} {m : MM} {x : Nat × Option Nat} : go 119 32 [some (.inr (.inr x)), a1, a2, a3, a4, a5, a6, a7, a8] st m = go 119 33 [some (.inr (.inr x)), a1, a2, a3, a4, a5, a6, a7, a8] (.inr (.inr x) :: st) m := e_1 d119_32 (Or.inl rfl) rfl
theorem d119_33 : decode (mt 119).2.1 33 = .ok (.getfield 94, 3) := by decide +kernel
theorem s119_33 {ls : LV} {st : List AV} {m : MM} {n : Nat} : go 119 33 ls (.inr (.inr (8, some n)) :: st) m = go 119 36 ls (.inr (.inr (45, mR m 8 n 33)) :: st) m := e_1 d119_33 (Or.inl rfl) (by rw [xi, pA, show lk fdL (mt 119).2.2.1 94 = some (8, 33) by decide +kernel]; rfl)
theorem d119_36 : decode (mt 119).2.1 36 = .ok (.iload 8, 2) := by decide +kernel
theorem s119_36 {a0 a1 a2 a3 a4 a5 a6 a7 : Option AV} {st : List AV} {m : MM} {x : Int32} : go 119 36 [a0, a1, a2, a3, a4, a5, a6, a7, some (.inl x)] st m = go 119 38 [a0, a1, a2, a3, a4, a5, a6, a7, some (.inl x)] (.inl x :: st) m := e_1 d119_36 (Or.inl rfl) rfl
theorem d119_38 : decode (mt 119).2.1 38 = .ok (.iload_n 3, 1) := by decide +kernel
theorem s119_38 {a0 a1 a2 a4 a5 a6 a7 a8 : Option AV} {st : List AV} {m : MM} {x : Int32} : go 119 38 [a0, a1, a2, some (.inl x), a4, a5, a6, a7, a8] st m = go 119 39 [a0, a1, a2, some (.inl x), a4, a5, a6, a7, a8] (.inl x :: st) m := e_1 d119_38 (Or.inl rfl) rfl
theorem d119_39 : decode (mt 119).2.1 39 = .ok (.iastore, 1) := by decide +kernel
theorem s119_39 {ls : LV} {st : List AV} {m : MM} {n : Nat} {i : Int32} {x : Int32} : go 119 39 ls (.inl x :: .inl i :: .inr (.inr (45, some n)) :: st) m = ixk (ix i (mN m 45 n)) (fun j => go 119 40 ls st (sI m 45 n j x)) := e_ald d119_39 (fun j hj => by simp only [xi, pI, pL, pR, pA, hj, Option.bind_some]; exact if_pos ⟨rfl, by decide⟩) (fun hj => by simp only [xi, pI, pL, pR, pA, hj, Option.bind_none])
theorem d119_40 : decode (mt 119).2.1 40 = .ok (.aload_n 0, 1) := by decide +kernel
theorem s119_40 {a1 a2 a3 a4 a5 a6 a7 a8 : Option AV} {st : List AV} {m : MM} {x : Nat × Option Nat} : go 119 40 [some (.inr (.inr x)), a1, a2, a3, a4, a5, a6, a7, a8] st m = go 119 41 [some (.inr (.inr x)), a1, a2, a3, a4, a5, a6, a7, a8] (.inr (.inr x) :: st) m := e_1 d119_40 (Or.inl rfl) rfl
theorem d119_41 : decode (mt 119).2.1 41 = .ok (.getfield 97, 3) := by decide +kernel
theorem s119_41 {ls : LV} {st : List AV} {m : MM} {n : Nat} : go 119 41 ls (.inr (.inr (8, some n)) :: st) m = go 119 44 ls (.inr (.inr (46, mR m 8 n 34)) :: st) m := e_1 d119_41 (Or.inl rfl) (by rw [xi, pA, show lk fdL (mt 119).2.2.1 97 = some (8, 34) by decide +kernel]; rfl)
theorem d119_44 : decode (mt 119).2.1 44 = .ok (.iload 8, 2) := by decide +kernel
theorem s119_44 {a0 a1 a2 a3 a4 a5 a6 a7 : Option AV} {st : List AV} {m : MM} {x : Int32} : go 119 44 [a0, a1, a2, a3, a4, a5, a6, a7, some (.inl x)] st m = go 119 46 [a0, a1, a2, a3, a4, a5, a6, a7, some (.inl x)] (.inl x :: st) m := e_1 d119_44 (Or.inl rfl) rfl
theorem d119_46 : decode (mt 119).2.1 46 = .ok (.iload 4, 2) := by decide +kernel
theorem s119_46 {a0 a1 a2 a3 a5 a6 a7 a8 : Option AV} {st : List AV} {m : MM} {x : Int32} : go 119 46 [a0, a1, a2, a3, some (.inl x), a5, a6, a7, a8] st m = go 119 48 [a0, a1, a2, a3, some (.inl x), a5, a6, a7, a8] (.inl x :: st) m := e_1 d119_46 (Or.inl rfl) rfl
theorem d119_48 : decode (mt 119).2.1 48 = .ok (.iastore, 1) := by decide +kernel
theorem s119_48 {ls : LV} {st : List AV} {m : MM} {n : Nat} {i : Int32} {x : Int32} : go 119 48 ls (.inl x :: .inl i :: .inr (.inr (46, some n)) :: st) m = ixk (ix i (mN m 46 n)) (fun j => go 119 49 ls st (sI m 46 n j x)) := e_ald d119_48 (fun j hj => by simp only [xi, pI, pL, pR, pA, hj, Option.bind_some]; exact if_pos ⟨rfl, by decide⟩) (fun hj => by simp only [xi, pI, pL, pR, pA, hj, Option.bind_none])
theorem d119_49 : decode (mt 119).2.1 49 = .ok (.aload_n 0, 1) := by decide +kernel
theorem s119_49 {a1 a2 a3 a4 a5 a6 a7 a8 : Option AV} {st : List AV} {m : MM} {x : Nat × Option Nat} : go 119 49 [some (.inr (.inr x)), a1, a2, a3, a4, a5, a6, a7, a8] st m = go 119 50 [some (.inr (.inr x)), a1, a2, a3, a4, a5, a6, a7, a8] (.inr (.inr x) :: st) m := e_1 d119_49 (Or.inl rfl) rfl
theorem d119_50 : decode (mt 119).2.1 50 = .ok (.getfield 100, 3) := by decide +kernel
theorem s119_50 {ls : LV} {st : List AV} {m : MM} {n : Nat} : go 119 50 ls (.inr (.inr (8, some n)) :: st) m = go 119 53 ls (.inr (.inr (47, mR m 8 n 35)) :: st) m := e_1 d119_50 (Or.inl rfl) (by rw [xi, pA, show lk fdL (mt 119).2.2.1 100 = some (8, 35) by decide +kernel]; rfl)
theorem d119_53 : decode (mt 119).2.1 53 = .ok (.iload 8, 2) := by decide +kernel
theorem s119_53 {a0 a1 a2 a3 a4 a5 a6 a7 : Option AV} {st : List AV} {m : MM} {x : Int32} : go 119 53 [a0, a1, a2, a3, a4, a5, a6, a7, some (.inl x)] st m = go 119 55 [a0, a1, a2, a3, a4, a5, a6, a7, some (.inl x)] (.inl x :: st) m := e_1 d119_53 (Or.inl rfl) rfl
theorem d119_55 : decode (mt 119).2.1 55 = .ok (.iload 5, 2) := by decide +kernel
theorem s119_55 {a0 a1 a2 a3 a4 a6 a7 a8 : Option AV} {st : List AV} {m : MM} {x : Int32} : go 119 55 [a0, a1, a2, a3, a4, some (.inl x), a6, a7, a8] st m = go 119 57 [a0, a1, a2, a3, a4, some (.inl x), a6, a7, a8] (.inl x :: st) m := e_1 d119_55 (Or.inl rfl) rfl
theorem d119_57 : decode (mt 119).2.1 57 = .ok (.iastore, 1) := by decide +kernel
theorem s119_57 {ls : LV} {st : List AV} {m : MM} {n : Nat} {i : Int32} {x : Int32} : go 119 57 ls (.inl x :: .inl i :: .inr (.inr (47, some n)) :: st) m = ixk (ix i (mN m 47 n)) (fun j => go 119 58 ls st (sI m 47 n j x)) := e_ald d119_57 (fun j hj => by simp only [xi, pI, pL, pR, pA, hj, Option.bind_some]; exact if_pos ⟨rfl, by decide⟩) (fun hj => by simp only [xi, pI, pL, pR, pA, hj, Option.bind_none])
theorem d119_58 : decode (mt 119).2.1 58 = .ok (.aload_n 0, 1) := by decide +kernel
theorem s119_58 {a1 a2 a3 a4 a5 a6 a7 a8 : Option AV} {st : List AV} {m : MM} {x : Nat × Option Nat} : go 119 58 [some (.inr (.inr x)), a1, a2, a3, a4, a5, a6, a7, a8] st m = go 119 59 [some (.inr (.inr x)), a1, a2, a3, a4, a5, a6, a7, a8] (.inr (.inr x) :: st) m := e_1 d119_58 (Or.inl rfl) rfl
theorem d119_59 : decode (mt 119).2.1 59 = .ok (.getfield 103, 3) := by decide +kernel
theorem s119_59 {ls : LV} {st : List AV} {m : MM} {n : Nat} : go 119 59 ls (.inr (.inr (8, some n)) :: st) m = go 119 62 ls (.inr (.inr (48, mR m 8 n 36)) :: st) m := e_1 d119_59 (Or.inl rfl) (by rw [xi, pA, show lk fdL (mt 119).2.2.1 103 = some (8, 36) by decide +kernel]; rfl)
theorem d119_62 : decode (mt 119).2.1 62 = .ok (.iload 8, 2) := by decide +kernel
theorem s119_62 {a0 a1 a2 a3 a4 a5 a6 a7 : Option AV} {st : List AV} {m : MM} {x : Int32} : go 119 62 [a0, a1, a2, a3, a4, a5, a6, a7, some (.inl x)] st m = go 119 64 [a0, a1, a2, a3, a4, a5, a6, a7, some (.inl x)] (.inl x :: st) m := e_1 d119_62 (Or.inl rfl) rfl
theorem d119_64 : decode (mt 119).2.1 64 = .ok (.iload 6, 2) := by decide +kernel
theorem s119_64 {a0 a1 a2 a3 a4 a5 a7 a8 : Option AV} {st : List AV} {m : MM} {x : Int32} : go 119 64 [a0, a1, a2, a3, a4, a5, some (.inl x), a7, a8] st m = go 119 66 [a0, a1, a2, a3, a4, a5, some (.inl x), a7, a8] (.inl x :: st) m := e_1 d119_64 (Or.inl rfl) rfl
theorem d119_66 : decode (mt 119).2.1 66 = .ok (.iastore, 1) := by decide +kernel
theorem s119_66 {ls : LV} {st : List AV} {m : MM} {n : Nat} {i : Int32} {x : Int32} : go 119 66 ls (.inl x :: .inl i :: .inr (.inr (48, some n)) :: st) m = ixk (ix i (mN m 48 n)) (fun j => go 119 67 ls st (sI m 48 n j x)) := e_ald d119_66 (fun j hj => by simp only [xi, pI, pL, pR, pA, hj, Option.bind_some]; exact if_pos ⟨rfl, by decide⟩) (fun hj => by simp only [xi, pI, pL, pR, pA, hj, Option.bind_none])
theorem d119_67 : decode (mt 119).2.1 67 = .ok (.aload_n 0, 1) := by decide +kernel
theorem s119_67 {a1 a2 a3 a4 a5 a6 a7 a8 : Option AV} {st : List AV} {m : MM} {x : Nat × Option Nat} : go 119 67 [some (.inr (.inr x)), a1, a2, a3, a4, a5, a6, a7, a8] st m = go 119 68 [some (.inr (.inr x)), a1, a2, a3, a4, a5, a6, a7, a8] (.inr (.inr x) :: st) m := e_1 d119_67 (Or.inl rfl) rfl
theorem d119_68 : decode (mt 119).2.1 68 = .ok (.getfield 106, 3) := by decide +kernel
theorem s119_68 {ls : LV} {st : List AV} {m : MM} {n : Nat} : go 119 68 ls (.inr (.inr (8, some n)) :: st) m = go 119 71 ls (.inr (.inr (49, mR m 8 n 37)) :: st) m := e_1 d119_68 (Or.inl rfl) (by rw [xi, pA, show lk fdL (mt 119).2.2.1 106 = some (8, 37) by decide +kernel]; rfl)
theorem d119_71 : decode (mt 119).2.1 71 = .ok (.iload 8, 2) := by decide +kernel
theorem s119_71 {a0 a1 a2 a3 a4 a5 a6 a7 : Option AV} {st : List AV} {m : MM} {x : Int32} : go 119 71 [a0, a1, a2, a3, a4, a5, a6, a7, some (.inl x)] st m = go 119 73 [a0, a1, a2, a3, a4, a5, a6, a7, some (.inl x)] (.inl x :: st) m := e_1 d119_71 (Or.inl rfl) rfl
theorem d119_73 : decode (mt 119).2.1 73 = .ok (.iload 7, 2) := by decide +kernel
theorem s119_73 {a0 a1 a2 a3 a4 a5 a6 a8 : Option AV} {st : List AV} {m : MM} {x : Int32} : go 119 73 [a0, a1, a2, a3, a4, a5, a6, some (.inl x), a8] st m = go 119 75 [a0, a1, a2, a3, a4, a5, a6, some (.inl x), a8] (.inl x :: st) m := e_1 d119_73 (Or.inl rfl) rfl
theorem d119_75 : decode (mt 119).2.1 75 = .ok (.iastore, 1) := by decide +kernel
theorem s119_75 {ls : LV} {st : List AV} {m : MM} {n : Nat} {i : Int32} {x : Int32} : go 119 75 ls (.inl x :: .inl i :: .inr (.inr (49, some n)) :: st) m = ixk (ix i (mN m 49 n)) (fun j => go 119 76 ls st (sI m 49 n j x)) := e_ald d119_75 (fun j hj => by simp only [xi, pI, pL, pR, pA, hj, Option.bind_some]; exact if_pos ⟨rfl, by decide⟩) (fun hj => by simp only [xi, pI, pL, pR, pA, hj, Option.bind_none])
theorem d119_76 : decode (mt 119).2.1 76 = .ok (.return_, 1) := by decide +kernel
theorem s119_76 {ls : LV} {m : MM} : go 119 76 ls [] m = some (none, m) := e_void d119_76 (by decide +kernel)
/-! X7_gone: 120 -/
theorem d120_0 : decode (mt 120).2.1 0 = .ok (.iload_n 1, 1) := by decide +kernel
theorem s120_0 {a0 a2 : Option AV} {st : List AV} {m : MM} {x : Int32} : go 120 0 [a0, some (.inl x), a2] st m = go 120 1 [a0, some (.inl x), a2] (.inl x :: st) m := e_1 d120_0 (Or.inl rfl) rfl
theorem d120_1 : decode (mt 120).2.1 1 = .ok (.istore_n 2, 1) := by decide +kernel
theorem s120_1i {a0 a2 : Option AV} {z : Int32} {st : List AV} {m : MM} {x : Int32} : go 120 1 [a0, some (.inl z), a2] (.inl x :: st) m = go 120 2 [a0, some (.inl z), some (.inl x)] st m := e_1 d120_1 (Or.inl rfl) rfl
theorem s120_1r {a0 a2 : Option AV} {z : Nat × Option Nat} {st : List AV} {m : MM} {x : Int32} : go 120 1 [a0, some (.inr (.inr z)), a2] (.inl x :: st) m = go 120 2 [a0, some (.inr (.inr z)), some (.inl x)] st m := e_1 d120_1 (Or.inl rfl) rfl
theorem s120_1n {a0 a2 : Option AV} {st : List AV} {m : MM} {x : Int32} : go 120 1 [a0, none, a2] (.inl x :: st) m = go 120 2 [a0, none, some (.inl x)] st m := e_1 d120_1 (Or.inl rfl) rfl
theorem d120_2 : decode (mt 120).2.1 2 = .ok (.iload_n 2, 1) := by decide +kernel
theorem s120_2 {a0 a1 : Option AV} {st : List AV} {m : MM} {x : Int32} : go 120 2 [a0, a1, some (.inl x)] st m = go 120 3 [a0, a1, some (.inl x)] (.inl x :: st) m := e_1 d120_2 (Or.inl rfl) rfl
theorem d120_3 : decode (mt 120).2.1 3 = .ok (.iconst 1, 1) := by decide +kernel
theorem s120_3 {ls : LV} {st : List AV} {m : MM} : go 120 3 ls st m = go 120 4 ls (.inl 1 :: st) m := e_1 d120_3 (Or.inl rfl) rfl
theorem d120_4 : decode (mt 120).2.1 4 = .ok (.iadd, 1) := by decide +kernel
theorem s120_4 {ls : LV} {st : List AV} {m : MM} {a b : Int32} : go 120 4 ls (.inl b :: .inl a :: st) m = go 120 5 ls (.inl (a + b) :: st) m := e_1 d120_4 (Or.inl rfl) rfl
theorem d120_5 : decode (mt 120).2.1 5 = .ok (.aload_n 0, 1) := by decide +kernel
theorem s120_5 {a1 a2 : Option AV} {st : List AV} {m : MM} {x : Nat × Option Nat} : go 120 5 [some (.inr (.inr x)), a1, a2] st m = go 120 6 [some (.inr (.inr x)), a1, a2] (.inr (.inr x) :: st) m := e_1 d120_5 (Or.inl rfl) rfl
theorem d120_6 : decode (mt 120).2.1 6 = .ok (.getfield 140, 3) := by decide +kernel
theorem s120_6 {ls : LV} {st : List AV} {m : MM} {n : Nat} : go 120 6 ls (.inr (.inr (8, some n)) :: st) m = go 120 9 ls (.inl (mI m 8 n 30) :: st) m := e_1 d120_6 (Or.inl rfl) (by rw [xi, pA, show lk fdL (mt 120).2.2.1 140 = some (8, 30) by decide +kernel]; rfl)
theorem d120_9 : decode (mt 120).2.1 9 = .ok (.if_icmp .ge 107, 3) := by decide +kernel
theorem s120_9 {ls : LV} {st : List AV} {m : MM} {a b : Int32} : go 120 9 ls (.inl b :: .inl a :: st) m = if b ≤ a then go 120 116 ls st m else go 120 12 ls st m := e_if (t := 116) (b := hc .ge a b) d120_9 (Or.inl rfl) (by simp only [xi, pI, jm_some (t := 116) (show ((9 : Nat) : Int) + 107 = ((116 : Nat) : Int) by decide), Option.bind_some]) (by simp [hc])
theorem d120_12 : decode (mt 120).2.1 12 = .ok (.aload_n 0, 1) := by decide +kernel
theorem s120_12 {a1 a2 : Option AV} {st : List AV} {m : MM} {x : Nat × Option Nat} : go 120 12 [some (.inr (.inr x)), a1, a2] st m = go 120 13 [some (.inr (.inr x)), a1, a2] (.inr (.inr x) :: st) m := e_1 d120_12 (Or.inl rfl) rfl
theorem d120_13 : decode (mt 120).2.1 13 = .ok (.getfield 88, 3) := by decide +kernel
theorem s120_13 {ls : LV} {st : List AV} {m : MM} {n : Nat} : go 120 13 ls (.inr (.inr (8, some n)) :: st) m = go 120 16 ls (.inr (.inr (43, mR m 8 n 31)) :: st) m := e_1 d120_13 (Or.inl rfl) (by rw [xi, pA, show lk fdL (mt 120).2.2.1 88 = some (8, 31) by decide +kernel]; rfl)
theorem d120_16 : decode (mt 120).2.1 16 = .ok (.iload_n 2, 1) := by decide +kernel
theorem s120_16 {a0 a1 : Option AV} {st : List AV} {m : MM} {x : Int32} : go 120 16 [a0, a1, some (.inl x)] st m = go 120 17 [a0, a1, some (.inl x)] (.inl x :: st) m := e_1 d120_16 (Or.inl rfl) rfl
theorem d120_17 : decode (mt 120).2.1 17 = .ok (.aload_n 0, 1) := by decide +kernel
theorem s120_17 {a1 a2 : Option AV} {st : List AV} {m : MM} {x : Nat × Option Nat} : go 120 17 [some (.inr (.inr x)), a1, a2] st m = go 120 18 [some (.inr (.inr x)), a1, a2] (.inr (.inr x) :: st) m := e_1 d120_17 (Or.inl rfl) rfl
theorem d120_18 : decode (mt 120).2.1 18 = .ok (.getfield 88, 3) := by decide +kernel
theorem s120_18 {ls : LV} {st : List AV} {m : MM} {n : Nat} : go 120 18 ls (.inr (.inr (8, some n)) :: st) m = go 120 21 ls (.inr (.inr (43, mR m 8 n 31)) :: st) m := e_1 d120_18 (Or.inl rfl) (by rw [xi, pA, show lk fdL (mt 120).2.2.1 88 = some (8, 31) by decide +kernel]; rfl)
theorem d120_21 : decode (mt 120).2.1 21 = .ok (.iload_n 2, 1) := by decide +kernel
theorem s120_21 {a0 a1 : Option AV} {st : List AV} {m : MM} {x : Int32} : go 120 21 [a0, a1, some (.inl x)] st m = go 120 22 [a0, a1, some (.inl x)] (.inl x :: st) m := e_1 d120_21 (Or.inl rfl) rfl
theorem d120_22 : decode (mt 120).2.1 22 = .ok (.iconst 1, 1) := by decide +kernel
theorem s120_22 {ls : LV} {st : List AV} {m : MM} : go 120 22 ls st m = go 120 23 ls (.inl 1 :: st) m := e_1 d120_22 (Or.inl rfl) rfl
theorem d120_23 : decode (mt 120).2.1 23 = .ok (.iadd, 1) := by decide +kernel
theorem s120_23 {ls : LV} {st : List AV} {m : MM} {a b : Int32} : go 120 23 ls (.inl b :: .inl a :: st) m = go 120 24 ls (.inl (a + b) :: st) m := e_1 d120_23 (Or.inl rfl) rfl
theorem d120_24 : decode (mt 120).2.1 24 = .ok (.iaload, 1) := by decide +kernel
theorem s120_24 {ls : LV} {st : List AV} {m : MM} {n : Nat} {i : Int32} : go 120 24 ls (.inl i :: .inr (.inr (43, some n)) :: st) m = ixk (ix i (mN m 43 n)) (fun j => go 120 25 ls (.inl (mI m 43 n j) :: st) m) := e_ald d120_24 (fun j hj => by simp only [xi, pI, pA, hj, Option.bind_some]; rfl) (fun hj => by simp only [xi, pI, pA, hj, Option.bind_none])
theorem d120_25 : decode (mt 120).2.1 25 = .ok (.iastore, 1) := by decide +kernel
theorem s120_25 {ls : LV} {st : List AV} {m : MM} {n : Nat} {i : Int32} {x : Int32} : go 120 25 ls (.inl x :: .inl i :: .inr (.inr (43, some n)) :: st) m = ixk (ix i (mN m 43 n)) (fun j => go 120 26 ls st (sI m 43 n j x)) := e_ald d120_25 (fun j hj => by simp only [xi, pI, pL, pR, pA, hj, Option.bind_some]; exact if_pos ⟨rfl, by decide⟩) (fun hj => by simp only [xi, pI, pL, pR, pA, hj, Option.bind_none])
theorem d120_26 : decode (mt 120).2.1 26 = .ok (.aload_n 0, 1) := by decide +kernel
theorem s120_26 {a1 a2 : Option AV} {st : List AV} {m : MM} {x : Nat × Option Nat} : go 120 26 [some (.inr (.inr x)), a1, a2] st m = go 120 27 [some (.inr (.inr x)), a1, a2] (.inr (.inr x) :: st) m := e_1 d120_26 (Or.inl rfl) rfl
theorem d120_27 : decode (mt 120).2.1 27 = .ok (.getfield 91, 3) := by decide +kernel
theorem s120_27 {ls : LV} {st : List AV} {m : MM} {n : Nat} : go 120 27 ls (.inr (.inr (8, some n)) :: st) m = go 120 30 ls (.inr (.inr (44, mR m 8 n 32)) :: st) m := e_1 d120_27 (Or.inl rfl) (by rw [xi, pA, show lk fdL (mt 120).2.2.1 91 = some (8, 32) by decide +kernel]; rfl)
theorem d120_30 : decode (mt 120).2.1 30 = .ok (.iload_n 2, 1) := by decide +kernel
theorem s120_30 {a0 a1 : Option AV} {st : List AV} {m : MM} {x : Int32} : go 120 30 [a0, a1, some (.inl x)] st m = go 120 31 [a0, a1, some (.inl x)] (.inl x :: st) m := e_1 d120_30 (Or.inl rfl) rfl
theorem d120_31 : decode (mt 120).2.1 31 = .ok (.aload_n 0, 1) := by decide +kernel
theorem s120_31 {a1 a2 : Option AV} {st : List AV} {m : MM} {x : Nat × Option Nat} : go 120 31 [some (.inr (.inr x)), a1, a2] st m = go 120 32 [some (.inr (.inr x)), a1, a2] (.inr (.inr x) :: st) m := e_1 d120_31 (Or.inl rfl) rfl
theorem d120_32 : decode (mt 120).2.1 32 = .ok (.getfield 91, 3) := by decide +kernel
theorem s120_32 {ls : LV} {st : List AV} {m : MM} {n : Nat} : go 120 32 ls (.inr (.inr (8, some n)) :: st) m = go 120 35 ls (.inr (.inr (44, mR m 8 n 32)) :: st) m := e_1 d120_32 (Or.inl rfl) (by rw [xi, pA, show lk fdL (mt 120).2.2.1 91 = some (8, 32) by decide +kernel]; rfl)
theorem d120_35 : decode (mt 120).2.1 35 = .ok (.iload_n 2, 1) := by decide +kernel
theorem s120_35 {a0 a1 : Option AV} {st : List AV} {m : MM} {x : Int32} : go 120 35 [a0, a1, some (.inl x)] st m = go 120 36 [a0, a1, some (.inl x)] (.inl x :: st) m := e_1 d120_35 (Or.inl rfl) rfl
theorem d120_36 : decode (mt 120).2.1 36 = .ok (.iconst 1, 1) := by decide +kernel
theorem s120_36 {ls : LV} {st : List AV} {m : MM} : go 120 36 ls st m = go 120 37 ls (.inl 1 :: st) m := e_1 d120_36 (Or.inl rfl) rfl
theorem d120_37 : decode (mt 120).2.1 37 = .ok (.iadd, 1) := by decide +kernel
theorem s120_37 {ls : LV} {st : List AV} {m : MM} {a b : Int32} : go 120 37 ls (.inl b :: .inl a :: st) m = go 120 38 ls (.inl (a + b) :: st) m := e_1 d120_37 (Or.inl rfl) rfl
theorem d120_38 : decode (mt 120).2.1 38 = .ok (.iaload, 1) := by decide +kernel
theorem s120_38 {ls : LV} {st : List AV} {m : MM} {n : Nat} {i : Int32} : go 120 38 ls (.inl i :: .inr (.inr (44, some n)) :: st) m = ixk (ix i (mN m 44 n)) (fun j => go 120 39 ls (.inl (mI m 44 n j) :: st) m) := e_ald d120_38 (fun j hj => by simp only [xi, pI, pA, hj, Option.bind_some]; rfl) (fun hj => by simp only [xi, pI, pA, hj, Option.bind_none])
theorem d120_39 : decode (mt 120).2.1 39 = .ok (.iastore, 1) := by decide +kernel
theorem s120_39 {ls : LV} {st : List AV} {m : MM} {n : Nat} {i : Int32} {x : Int32} : go 120 39 ls (.inl x :: .inl i :: .inr (.inr (44, some n)) :: st) m = ixk (ix i (mN m 44 n)) (fun j => go 120 40 ls st (sI m 44 n j x)) := e_ald d120_39 (fun j hj => by simp only [xi, pI, pL, pR, pA, hj, Option.bind_some]; exact if_pos ⟨rfl, by decide⟩) (fun hj => by simp only [xi, pI, pL, pR, pA, hj, Option.bind_none])
theorem d120_40 : decode (mt 120).2.1 40 = .ok (.aload_n 0, 1) := by decide +kernel
theorem s120_40 {a1 a2 : Option AV} {st : List AV} {m : MM} {x : Nat × Option Nat} : go 120 40 [some (.inr (.inr x)), a1, a2] st m = go 120 41 [some (.inr (.inr x)), a1, a2] (.inr (.inr x) :: st) m := e_1 d120_40 (Or.inl rfl) rfl
theorem d120_41 : decode (mt 120).2.1 41 = .ok (.getfield 94, 3) := by decide +kernel
theorem s120_41 {ls : LV} {st : List AV} {m : MM} {n : Nat} : go 120 41 ls (.inr (.inr (8, some n)) :: st) m = go 120 44 ls (.inr (.inr (45, mR m 8 n 33)) :: st) m := e_1 d120_41 (Or.inl rfl) (by rw [xi, pA, show lk fdL (mt 120).2.2.1 94 = some (8, 33) by decide +kernel]; rfl)
theorem d120_44 : decode (mt 120).2.1 44 = .ok (.iload_n 2, 1) := by decide +kernel
theorem s120_44 {a0 a1 : Option AV} {st : List AV} {m : MM} {x : Int32} : go 120 44 [a0, a1, some (.inl x)] st m = go 120 45 [a0, a1, some (.inl x)] (.inl x :: st) m := e_1 d120_44 (Or.inl rfl) rfl
theorem d120_45 : decode (mt 120).2.1 45 = .ok (.aload_n 0, 1) := by decide +kernel
theorem s120_45 {a1 a2 : Option AV} {st : List AV} {m : MM} {x : Nat × Option Nat} : go 120 45 [some (.inr (.inr x)), a1, a2] st m = go 120 46 [some (.inr (.inr x)), a1, a2] (.inr (.inr x) :: st) m := e_1 d120_45 (Or.inl rfl) rfl
theorem d120_46 : decode (mt 120).2.1 46 = .ok (.getfield 94, 3) := by decide +kernel
theorem s120_46 {ls : LV} {st : List AV} {m : MM} {n : Nat} : go 120 46 ls (.inr (.inr (8, some n)) :: st) m = go 120 49 ls (.inr (.inr (45, mR m 8 n 33)) :: st) m := e_1 d120_46 (Or.inl rfl) (by rw [xi, pA, show lk fdL (mt 120).2.2.1 94 = some (8, 33) by decide +kernel]; rfl)
theorem d120_49 : decode (mt 120).2.1 49 = .ok (.iload_n 2, 1) := by decide +kernel
theorem s120_49 {a0 a1 : Option AV} {st : List AV} {m : MM} {x : Int32} : go 120 49 [a0, a1, some (.inl x)] st m = go 120 50 [a0, a1, some (.inl x)] (.inl x :: st) m := e_1 d120_49 (Or.inl rfl) rfl
theorem d120_50 : decode (mt 120).2.1 50 = .ok (.iconst 1, 1) := by decide +kernel
theorem s120_50 {ls : LV} {st : List AV} {m : MM} : go 120 50 ls st m = go 120 51 ls (.inl 1 :: st) m := e_1 d120_50 (Or.inl rfl) rfl
theorem d120_51 : decode (mt 120).2.1 51 = .ok (.iadd, 1) := by decide +kernel
theorem s120_51 {ls : LV} {st : List AV} {m : MM} {a b : Int32} : go 120 51 ls (.inl b :: .inl a :: st) m = go 120 52 ls (.inl (a + b) :: st) m := e_1 d120_51 (Or.inl rfl) rfl
theorem d120_52 : decode (mt 120).2.1 52 = .ok (.iaload, 1) := by decide +kernel
theorem s120_52 {ls : LV} {st : List AV} {m : MM} {n : Nat} {i : Int32} : go 120 52 ls (.inl i :: .inr (.inr (45, some n)) :: st) m = ixk (ix i (mN m 45 n)) (fun j => go 120 53 ls (.inl (mI m 45 n j) :: st) m) := e_ald d120_52 (fun j hj => by simp only [xi, pI, pA, hj, Option.bind_some]; rfl) (fun hj => by simp only [xi, pI, pA, hj, Option.bind_none])
theorem d120_53 : decode (mt 120).2.1 53 = .ok (.iastore, 1) := by decide +kernel
theorem s120_53 {ls : LV} {st : List AV} {m : MM} {n : Nat} {i : Int32} {x : Int32} : go 120 53 ls (.inl x :: .inl i :: .inr (.inr (45, some n)) :: st) m = ixk (ix i (mN m 45 n)) (fun j => go 120 54 ls st (sI m 45 n j x)) := e_ald d120_53 (fun j hj => by simp only [xi, pI, pL, pR, pA, hj, Option.bind_some]; exact if_pos ⟨rfl, by decide⟩) (fun hj => by simp only [xi, pI, pL, pR, pA, hj, Option.bind_none])
theorem d120_54 : decode (mt 120).2.1 54 = .ok (.aload_n 0, 1) := by decide +kernel
theorem s120_54 {a1 a2 : Option AV} {st : List AV} {m : MM} {x : Nat × Option Nat} : go 120 54 [some (.inr (.inr x)), a1, a2] st m = go 120 55 [some (.inr (.inr x)), a1, a2] (.inr (.inr x) :: st) m := e_1 d120_54 (Or.inl rfl) rfl
theorem d120_55 : decode (mt 120).2.1 55 = .ok (.getfield 97, 3) := by decide +kernel
theorem s120_55 {ls : LV} {st : List AV} {m : MM} {n : Nat} : go 120 55 ls (.inr (.inr (8, some n)) :: st) m = go 120 58 ls (.inr (.inr (46, mR m 8 n 34)) :: st) m := e_1 d120_55 (Or.inl rfl) (by rw [xi, pA, show lk fdL (mt 120).2.2.1 97 = some (8, 34) by decide +kernel]; rfl)
theorem d120_58 : decode (mt 120).2.1 58 = .ok (.iload_n 2, 1) := by decide +kernel
theorem s120_58 {a0 a1 : Option AV} {st : List AV} {m : MM} {x : Int32} : go 120 58 [a0, a1, some (.inl x)] st m = go 120 59 [a0, a1, some (.inl x)] (.inl x :: st) m := e_1 d120_58 (Or.inl rfl) rfl
theorem d120_59 : decode (mt 120).2.1 59 = .ok (.aload_n 0, 1) := by decide +kernel
theorem s120_59 {a1 a2 : Option AV} {st : List AV} {m : MM} {x : Nat × Option Nat} : go 120 59 [some (.inr (.inr x)), a1, a2] st m = go 120 60 [some (.inr (.inr x)), a1, a2] (.inr (.inr x) :: st) m := e_1 d120_59 (Or.inl rfl) rfl
theorem d120_60 : decode (mt 120).2.1 60 = .ok (.getfield 97, 3) := by decide +kernel
theorem s120_60 {ls : LV} {st : List AV} {m : MM} {n : Nat} : go 120 60 ls (.inr (.inr (8, some n)) :: st) m = go 120 63 ls (.inr (.inr (46, mR m 8 n 34)) :: st) m := e_1 d120_60 (Or.inl rfl) (by rw [xi, pA, show lk fdL (mt 120).2.2.1 97 = some (8, 34) by decide +kernel]; rfl)
theorem d120_63 : decode (mt 120).2.1 63 = .ok (.iload_n 2, 1) := by decide +kernel
theorem s120_63 {a0 a1 : Option AV} {st : List AV} {m : MM} {x : Int32} : go 120 63 [a0, a1, some (.inl x)] st m = go 120 64 [a0, a1, some (.inl x)] (.inl x :: st) m := e_1 d120_63 (Or.inl rfl) rfl
theorem d120_64 : decode (mt 120).2.1 64 = .ok (.iconst 1, 1) := by decide +kernel
theorem s120_64 {ls : LV} {st : List AV} {m : MM} : go 120 64 ls st m = go 120 65 ls (.inl 1 :: st) m := e_1 d120_64 (Or.inl rfl) rfl
theorem d120_65 : decode (mt 120).2.1 65 = .ok (.iadd, 1) := by decide +kernel
theorem s120_65 {ls : LV} {st : List AV} {m : MM} {a b : Int32} : go 120 65 ls (.inl b :: .inl a :: st) m = go 120 66 ls (.inl (a + b) :: st) m := e_1 d120_65 (Or.inl rfl) rfl
theorem d120_66 : decode (mt 120).2.1 66 = .ok (.iaload, 1) := by decide +kernel
theorem s120_66 {ls : LV} {st : List AV} {m : MM} {n : Nat} {i : Int32} : go 120 66 ls (.inl i :: .inr (.inr (46, some n)) :: st) m = ixk (ix i (mN m 46 n)) (fun j => go 120 67 ls (.inl (mI m 46 n j) :: st) m) := e_ald d120_66 (fun j hj => by simp only [xi, pI, pA, hj, Option.bind_some]; rfl) (fun hj => by simp only [xi, pI, pA, hj, Option.bind_none])
theorem d120_67 : decode (mt 120).2.1 67 = .ok (.iastore, 1) := by decide +kernel
theorem s120_67 {ls : LV} {st : List AV} {m : MM} {n : Nat} {i : Int32} {x : Int32} : go 120 67 ls (.inl x :: .inl i :: .inr (.inr (46, some n)) :: st) m = ixk (ix i (mN m 46 n)) (fun j => go 120 68 ls st (sI m 46 n j x)) := e_ald d120_67 (fun j hj => by simp only [xi, pI, pL, pR, pA, hj, Option.bind_some]; exact if_pos ⟨rfl, by decide⟩) (fun hj => by simp only [xi, pI, pL, pR, pA, hj, Option.bind_none])
theorem d120_68 : decode (mt 120).2.1 68 = .ok (.aload_n 0, 1) := by decide +kernel
theorem s120_68 {a1 a2 : Option AV} {st : List AV} {m : MM} {x : Nat × Option Nat} : go 120 68 [some (.inr (.inr x)), a1, a2] st m = go 120 69 [some (.inr (.inr x)), a1, a2] (.inr (.inr x) :: st) m := e_1 d120_68 (Or.inl rfl) rfl
theorem d120_69 : decode (mt 120).2.1 69 = .ok (.getfield 100, 3) := by decide +kernel
theorem s120_69 {ls : LV} {st : List AV} {m : MM} {n : Nat} : go 120 69 ls (.inr (.inr (8, some n)) :: st) m = go 120 72 ls (.inr (.inr (47, mR m 8 n 35)) :: st) m := e_1 d120_69 (Or.inl rfl) (by rw [xi, pA, show lk fdL (mt 120).2.2.1 100 = some (8, 35) by decide +kernel]; rfl)
theorem d120_72 : decode (mt 120).2.1 72 = .ok (.iload_n 2, 1) := by decide +kernel
theorem s120_72 {a0 a1 : Option AV} {st : List AV} {m : MM} {x : Int32} : go 120 72 [a0, a1, some (.inl x)] st m = go 120 73 [a0, a1, some (.inl x)] (.inl x :: st) m := e_1 d120_72 (Or.inl rfl) rfl
theorem d120_73 : decode (mt 120).2.1 73 = .ok (.aload_n 0, 1) := by decide +kernel
theorem s120_73 {a1 a2 : Option AV} {st : List AV} {m : MM} {x : Nat × Option Nat} : go 120 73 [some (.inr (.inr x)), a1, a2] st m = go 120 74 [some (.inr (.inr x)), a1, a2] (.inr (.inr x) :: st) m := e_1 d120_73 (Or.inl rfl) rfl
theorem d120_74 : decode (mt 120).2.1 74 = .ok (.getfield 100, 3) := by decide +kernel
theorem s120_74 {ls : LV} {st : List AV} {m : MM} {n : Nat} : go 120 74 ls (.inr (.inr (8, some n)) :: st) m = go 120 77 ls (.inr (.inr (47, mR m 8 n 35)) :: st) m := e_1 d120_74 (Or.inl rfl) (by rw [xi, pA, show lk fdL (mt 120).2.2.1 100 = some (8, 35) by decide +kernel]; rfl)
theorem d120_77 : decode (mt 120).2.1 77 = .ok (.iload_n 2, 1) := by decide +kernel
theorem s120_77 {a0 a1 : Option AV} {st : List AV} {m : MM} {x : Int32} : go 120 77 [a0, a1, some (.inl x)] st m = go 120 78 [a0, a1, some (.inl x)] (.inl x :: st) m := e_1 d120_77 (Or.inl rfl) rfl
theorem d120_78 : decode (mt 120).2.1 78 = .ok (.iconst 1, 1) := by decide +kernel
theorem s120_78 {ls : LV} {st : List AV} {m : MM} : go 120 78 ls st m = go 120 79 ls (.inl 1 :: st) m := e_1 d120_78 (Or.inl rfl) rfl
theorem d120_79 : decode (mt 120).2.1 79 = .ok (.iadd, 1) := by decide +kernel
theorem s120_79 {ls : LV} {st : List AV} {m : MM} {a b : Int32} : go 120 79 ls (.inl b :: .inl a :: st) m = go 120 80 ls (.inl (a + b) :: st) m := e_1 d120_79 (Or.inl rfl) rfl
theorem d120_80 : decode (mt 120).2.1 80 = .ok (.iaload, 1) := by decide +kernel
theorem s120_80 {ls : LV} {st : List AV} {m : MM} {n : Nat} {i : Int32} : go 120 80 ls (.inl i :: .inr (.inr (47, some n)) :: st) m = ixk (ix i (mN m 47 n)) (fun j => go 120 81 ls (.inl (mI m 47 n j) :: st) m) := e_ald d120_80 (fun j hj => by simp only [xi, pI, pA, hj, Option.bind_some]; rfl) (fun hj => by simp only [xi, pI, pA, hj, Option.bind_none])
theorem d120_81 : decode (mt 120).2.1 81 = .ok (.iastore, 1) := by decide +kernel
theorem s120_81 {ls : LV} {st : List AV} {m : MM} {n : Nat} {i : Int32} {x : Int32} : go 120 81 ls (.inl x :: .inl i :: .inr (.inr (47, some n)) :: st) m = ixk (ix i (mN m 47 n)) (fun j => go 120 82 ls st (sI m 47 n j x)) := e_ald d120_81 (fun j hj => by simp only [xi, pI, pL, pR, pA, hj, Option.bind_some]; exact if_pos ⟨rfl, by decide⟩) (fun hj => by simp only [xi, pI, pL, pR, pA, hj, Option.bind_none])
theorem d120_82 : decode (mt 120).2.1 82 = .ok (.aload_n 0, 1) := by decide +kernel
theorem s120_82 {a1 a2 : Option AV} {st : List AV} {m : MM} {x : Nat × Option Nat} : go 120 82 [some (.inr (.inr x)), a1, a2] st m = go 120 83 [some (.inr (.inr x)), a1, a2] (.inr (.inr x) :: st) m := e_1 d120_82 (Or.inl rfl) rfl
theorem d120_83 : decode (mt 120).2.1 83 = .ok (.getfield 103, 3) := by decide +kernel
theorem s120_83 {ls : LV} {st : List AV} {m : MM} {n : Nat} : go 120 83 ls (.inr (.inr (8, some n)) :: st) m = go 120 86 ls (.inr (.inr (48, mR m 8 n 36)) :: st) m := e_1 d120_83 (Or.inl rfl) (by rw [xi, pA, show lk fdL (mt 120).2.2.1 103 = some (8, 36) by decide +kernel]; rfl)
theorem d120_86 : decode (mt 120).2.1 86 = .ok (.iload_n 2, 1) := by decide +kernel
theorem s120_86 {a0 a1 : Option AV} {st : List AV} {m : MM} {x : Int32} : go 120 86 [a0, a1, some (.inl x)] st m = go 120 87 [a0, a1, some (.inl x)] (.inl x :: st) m := e_1 d120_86 (Or.inl rfl) rfl
theorem d120_87 : decode (mt 120).2.1 87 = .ok (.aload_n 0, 1) := by decide +kernel
theorem s120_87 {a1 a2 : Option AV} {st : List AV} {m : MM} {x : Nat × Option Nat} : go 120 87 [some (.inr (.inr x)), a1, a2] st m = go 120 88 [some (.inr (.inr x)), a1, a2] (.inr (.inr x) :: st) m := e_1 d120_87 (Or.inl rfl) rfl
theorem d120_88 : decode (mt 120).2.1 88 = .ok (.getfield 103, 3) := by decide +kernel
theorem s120_88 {ls : LV} {st : List AV} {m : MM} {n : Nat} : go 120 88 ls (.inr (.inr (8, some n)) :: st) m = go 120 91 ls (.inr (.inr (48, mR m 8 n 36)) :: st) m := e_1 d120_88 (Or.inl rfl) (by rw [xi, pA, show lk fdL (mt 120).2.2.1 103 = some (8, 36) by decide +kernel]; rfl)
theorem d120_91 : decode (mt 120).2.1 91 = .ok (.iload_n 2, 1) := by decide +kernel
theorem s120_91 {a0 a1 : Option AV} {st : List AV} {m : MM} {x : Int32} : go 120 91 [a0, a1, some (.inl x)] st m = go 120 92 [a0, a1, some (.inl x)] (.inl x :: st) m := e_1 d120_91 (Or.inl rfl) rfl
theorem d120_92 : decode (mt 120).2.1 92 = .ok (.iconst 1, 1) := by decide +kernel
theorem s120_92 {ls : LV} {st : List AV} {m : MM} : go 120 92 ls st m = go 120 93 ls (.inl 1 :: st) m := e_1 d120_92 (Or.inl rfl) rfl
theorem d120_93 : decode (mt 120).2.1 93 = .ok (.iadd, 1) := by decide +kernel
theorem s120_93 {ls : LV} {st : List AV} {m : MM} {a b : Int32} : go 120 93 ls (.inl b :: .inl a :: st) m = go 120 94 ls (.inl (a + b) :: st) m := e_1 d120_93 (Or.inl rfl) rfl
theorem d120_94 : decode (mt 120).2.1 94 = .ok (.iaload, 1) := by decide +kernel
theorem s120_94 {ls : LV} {st : List AV} {m : MM} {n : Nat} {i : Int32} : go 120 94 ls (.inl i :: .inr (.inr (48, some n)) :: st) m = ixk (ix i (mN m 48 n)) (fun j => go 120 95 ls (.inl (mI m 48 n j) :: st) m) := e_ald d120_94 (fun j hj => by simp only [xi, pI, pA, hj, Option.bind_some]; rfl) (fun hj => by simp only [xi, pI, pA, hj, Option.bind_none])
theorem d120_95 : decode (mt 120).2.1 95 = .ok (.iastore, 1) := by decide +kernel
theorem s120_95 {ls : LV} {st : List AV} {m : MM} {n : Nat} {i : Int32} {x : Int32} : go 120 95 ls (.inl x :: .inl i :: .inr (.inr (48, some n)) :: st) m = ixk (ix i (mN m 48 n)) (fun j => go 120 96 ls st (sI m 48 n j x)) := e_ald d120_95 (fun j hj => by simp only [xi, pI, pL, pR, pA, hj, Option.bind_some]; exact if_pos ⟨rfl, by decide⟩) (fun hj => by simp only [xi, pI, pL, pR, pA, hj, Option.bind_none])
theorem d120_96 : decode (mt 120).2.1 96 = .ok (.aload_n 0, 1) := by decide +kernel
theorem s120_96 {a1 a2 : Option AV} {st : List AV} {m : MM} {x : Nat × Option Nat} : go 120 96 [some (.inr (.inr x)), a1, a2] st m = go 120 97 [some (.inr (.inr x)), a1, a2] (.inr (.inr x) :: st) m := e_1 d120_96 (Or.inl rfl) rfl
theorem d120_97 : decode (mt 120).2.1 97 = .ok (.getfield 106, 3) := by decide +kernel
theorem s120_97 {ls : LV} {st : List AV} {m : MM} {n : Nat} : go 120 97 ls (.inr (.inr (8, some n)) :: st) m = go 120 100 ls (.inr (.inr (49, mR m 8 n 37)) :: st) m := e_1 d120_97 (Or.inl rfl) (by rw [xi, pA, show lk fdL (mt 120).2.2.1 106 = some (8, 37) by decide +kernel]; rfl)
theorem d120_100 : decode (mt 120).2.1 100 = .ok (.iload_n 2, 1) := by decide +kernel
theorem s120_100 {a0 a1 : Option AV} {st : List AV} {m : MM} {x : Int32} : go 120 100 [a0, a1, some (.inl x)] st m = go 120 101 [a0, a1, some (.inl x)] (.inl x :: st) m := e_1 d120_100 (Or.inl rfl) rfl
theorem d120_101 : decode (mt 120).2.1 101 = .ok (.aload_n 0, 1) := by decide +kernel
theorem s120_101 {a1 a2 : Option AV} {st : List AV} {m : MM} {x : Nat × Option Nat} : go 120 101 [some (.inr (.inr x)), a1, a2] st m = go 120 102 [some (.inr (.inr x)), a1, a2] (.inr (.inr x) :: st) m := e_1 d120_101 (Or.inl rfl) rfl
theorem d120_102 : decode (mt 120).2.1 102 = .ok (.getfield 106, 3) := by decide +kernel
theorem s120_102 {ls : LV} {st : List AV} {m : MM} {n : Nat} : go 120 102 ls (.inr (.inr (8, some n)) :: st) m = go 120 105 ls (.inr (.inr (49, mR m 8 n 37)) :: st) m := e_1 d120_102 (Or.inl rfl) (by rw [xi, pA, show lk fdL (mt 120).2.2.1 106 = some (8, 37) by decide +kernel]; rfl)
theorem d120_105 : decode (mt 120).2.1 105 = .ok (.iload_n 2, 1) := by decide +kernel
theorem s120_105 {a0 a1 : Option AV} {st : List AV} {m : MM} {x : Int32} : go 120 105 [a0, a1, some (.inl x)] st m = go 120 106 [a0, a1, some (.inl x)] (.inl x :: st) m := e_1 d120_105 (Or.inl rfl) rfl
theorem d120_106 : decode (mt 120).2.1 106 = .ok (.iconst 1, 1) := by decide +kernel
theorem s120_106 {ls : LV} {st : List AV} {m : MM} : go 120 106 ls st m = go 120 107 ls (.inl 1 :: st) m := e_1 d120_106 (Or.inl rfl) rfl
theorem d120_107 : decode (mt 120).2.1 107 = .ok (.iadd, 1) := by decide +kernel
theorem s120_107 {ls : LV} {st : List AV} {m : MM} {a b : Int32} : go 120 107 ls (.inl b :: .inl a :: st) m = go 120 108 ls (.inl (a + b) :: st) m := e_1 d120_107 (Or.inl rfl) rfl
theorem d120_108 : decode (mt 120).2.1 108 = .ok (.iaload, 1) := by decide +kernel
theorem s120_108 {ls : LV} {st : List AV} {m : MM} {n : Nat} {i : Int32} : go 120 108 ls (.inl i :: .inr (.inr (49, some n)) :: st) m = ixk (ix i (mN m 49 n)) (fun j => go 120 109 ls (.inl (mI m 49 n j) :: st) m) := e_ald d120_108 (fun j hj => by simp only [xi, pI, pA, hj, Option.bind_some]; rfl) (fun hj => by simp only [xi, pI, pA, hj, Option.bind_none])
theorem d120_109 : decode (mt 120).2.1 109 = .ok (.iastore, 1) := by decide +kernel
theorem s120_109 {ls : LV} {st : List AV} {m : MM} {n : Nat} {i : Int32} {x : Int32} : go 120 109 ls (.inl x :: .inl i :: .inr (.inr (49, some n)) :: st) m = ixk (ix i (mN m 49 n)) (fun j => go 120 110 ls st (sI m 49 n j x)) := e_ald d120_109 (fun j hj => by simp only [xi, pI, pL, pR, pA, hj, Option.bind_some]; exact if_pos ⟨rfl, by decide⟩) (fun hj => by simp only [xi, pI, pL, pR, pA, hj, Option.bind_none])
theorem d120_110 : decode (mt 120).2.1 110 = .ok (.iinc 2 1, 3) := by decide +kernel
theorem s120_110i {a0 : Option AV} {z : Int32} {st : List AV} {m : MM} {x : Int32} : go 120 110 [a0, some (.inl z), some (.inl x)] st m = go 120 113 [a0, some (.inl z), some (.inl (x + 1))] st m := e_1 d120_110 (Or.inl rfl) rfl
theorem s120_110r {a0 : Option AV} {z : Nat × Option Nat} {st : List AV} {m : MM} {x : Int32} : go 120 110 [a0, some (.inr (.inr z)), some (.inl x)] st m = go 120 113 [a0, some (.inr (.inr z)), some (.inl (x + 1))] st m := e_1 d120_110 (Or.inl rfl) rfl
theorem s120_110n {a0 : Option AV} {st : List AV} {m : MM} {x : Int32} : go 120 110 [a0, none, some (.inl x)] st m = go 120 113 [a0, none, some (.inl (x + 1))] st m := e_1 d120_110 (Or.inl rfl) rfl
theorem d120_113 : decode (mt 120).2.1 113 = .ok (.goto (-111), 3) := by decide +kernel
theorem s120_113 {ls : LV} {st : List AV} {m : MM} : go 120 113 ls st m = go 120 2 ls st m := e_1 d120_113 (Or.inl rfl) (by rw [xi, jm_some (t := 2) (by decide)]; rfl)
theorem d120_116 : decode (mt 120).2.1 116 = .ok (.aload_n 0, 1) := by decide +kernel
theorem s120_116 {a1 a2 : Option AV} {st : List AV} {m : MM} {x : Nat × Option Nat} : go 120 116 [some (.inr (.inr x)), a1, a2] st m = go 120 117 [some (.inr (.inr x)), a1, a2] (.inr (.inr x) :: st) m := e_1 d120_116 (Or.inl rfl) rfl
theorem d120_117 : decode (mt 120).2.1 117 = .ok (.dup, 1) := by decide +kernel
theorem s120_117 {ls : LV} {st : List AV} {m : MM} {x : Nat × Option Nat} : go 120 117 ls (.inr (.inr x) :: st) m = go 120 118 ls (.inr (.inr x) :: .inr (.inr x) :: st) m := e_1 d120_117 (Or.inl rfl) rfl
theorem d120_118 : decode (mt 120).2.1 118 = .ok (.getfield 140, 3) := by decide +kernel
theorem s120_118 {ls : LV} {st : List AV} {m : MM} {n : Nat} : go 120 118 ls (.inr (.inr (8, some n)) :: st) m = go 120 121 ls (.inl (mI m 8 n 30) :: st) m := e_1 d120_118 (Or.inl rfl) (by rw [xi, pA, show lk fdL (mt 120).2.2.1 140 = some (8, 30) by decide +kernel]; rfl)
theorem d120_121 : decode (mt 120).2.1 121 = .ok (.iconst 1, 1) := by decide +kernel
theorem s120_121 {ls : LV} {st : List AV} {m : MM} : go 120 121 ls st m = go 120 122 ls (.inl 1 :: st) m := e_1 d120_121 (Or.inl rfl) rfl
theorem d120_122 : decode (mt 120).2.1 122 = .ok (.isub, 1) := by decide +kernel
theorem s120_122 {ls : LV} {st : List AV} {m : MM} {a b : Int32} : go 120 122 ls (.inl b :: .inl a :: st) m = go 120 123 ls (.inl (a - b) :: st) m := e_1 d120_122 (Or.inl rfl) rfl
theorem d120_123 : decode (mt 120).2.1 123 = .ok (.putfield 140, 3) := by decide +kernel
theorem s120_123 {ls : LV} {st : List AV} {m : MM} {n : Nat} {x : Int32} : go 120 123 ls (.inl x :: .inr (.inr (8, some n)) :: st) m = go 120 126 ls st (sI m 8 n 30 x) := e_put (r := 8) (f := 30) d120_123 (by decide +kernel) rfl (by decide +kernel)
theorem d120_126 : decode (mt 120).2.1 126 = .ok (.return_, 1) := by decide +kernel
theorem s120_126 {ls : LV} {m : MM} : go 120 126 ls [] m = some (none, m) := e_void d120_126 (by decide +kernel)
/-! X7_aims: 121 -/
theorem d121_0 : decode (mt 121).2.1 0 = .ok (.aload_n 0, 1) := by decide +kernel
theorem s121_0 {a1 a2 a3 a4 a5 : Option AV} {st : List AV} {m : MM} {x : Nat × Option Nat} : go 121 0 [some (.inr (.inr x)), a1, a2, a3, a4, a5] st m = go 121 1 [some (.inr (.inr x)), a1, a2, a3, a4, a5] (.inr (.inr x) :: st) m := e_1 d121_0 (Or.inl rfl) rfl
theorem d121_1 : decode (mt 121).2.1 1 = .ok (.getfield 20, 3) := by decide +kernel
theorem s121_1 {ls : LV} {st : List AV} {m : MM} {n : Nat} : go 121 1 ls (.inr (.inr (8, some n)) :: st) m = go 121 4 ls (.inr (.inr (21, mR m 8 n 4)) :: st) m := e_1 d121_1 (Or.inl rfl) (by rw [xi, pA, show lk fdL (mt 121).2.2.1 20 = some (8, 4) by decide +kernel]; rfl)
theorem d121_4 : decode (mt 121).2.1 4 = .ok (.iload_n 1, 1) := by decide +kernel
theorem s121_4 {a0 a2 a3 a4 a5 : Option AV} {st : List AV} {m : MM} {x : Int32} : go 121 4 [a0, some (.inl x), a2, a3, a4, a5] st m = go 121 5 [a0, some (.inl x), a2, a3, a4, a5] (.inl x :: st) m := e_1 d121_4 (Or.inl rfl) rfl
theorem d121_5 : decode (mt 121).2.1 5 = .ok (.iaload, 1) := by decide +kernel
theorem s121_5 {ls : LV} {st : List AV} {m : MM} {n : Nat} {i : Int32} : go 121 5 ls (.inl i :: .inr (.inr (21, some n)) :: st) m = ixk (ix i (mN m 21 n)) (fun j => go 121 6 ls (.inl (mI m 21 n j) :: st) m) := e_ald d121_5 (fun j hj => by simp only [xi, pI, pA, hj, Option.bind_some]; rfl) (fun hj => by simp only [xi, pI, pA, hj, Option.bind_none])
theorem d121_6 : decode (mt 121).2.1 6 = .ok (.ifCond .eq 13, 3) := by decide +kernel
theorem s121_6 {ls : LV} {st : List AV} {m : MM} {a : Int32} : go 121 6 ls (.inl a :: st) m = if a = 0 then go 121 19 ls st m else go 121 9 ls st m := e_if (t := 19) (b := hc .eq a 0) d121_6 (Or.inl rfl) (by simp only [xi, pI, jm_some (t := 19) (show ((6 : Nat) : Int) + 13 = ((19 : Nat) : Int) by decide), Option.bind_some]) (by simp [hc])
theorem d121_9 : decode (mt 121).2.1 9 = .ok (.aload_n 0, 1) := by decide +kernel
theorem s121_9 {a1 a2 a3 a4 a5 : Option AV} {st : List AV} {m : MM} {x : Nat × Option Nat} : go 121 9 [some (.inr (.inr x)), a1, a2, a3, a4, a5] st m = go 121 10 [some (.inr (.inr x)), a1, a2, a3, a4, a5] (.inr (.inr x) :: st) m := e_1 d121_9 (Or.inl rfl) rfl
theorem d121_10 : decode (mt 121).2.1 10 = .ok (.getfield 20, 3) := by decide +kernel
theorem s121_10 {ls : LV} {st : List AV} {m : MM} {n : Nat} : go 121 10 ls (.inr (.inr (8, some n)) :: st) m = go 121 13 ls (.inr (.inr (21, mR m 8 n 4)) :: st) m := e_1 d121_10 (Or.inl rfl) (by rw [xi, pA, show lk fdL (mt 121).2.2.1 20 = some (8, 4) by decide +kernel]; rfl)
theorem d121_13 : decode (mt 121).2.1 13 = .ok (.iload_n 1, 1) := by decide +kernel
theorem s121_13 {a0 a2 a3 a4 a5 : Option AV} {st : List AV} {m : MM} {x : Int32} : go 121 13 [a0, some (.inl x), a2, a3, a4, a5] st m = go 121 14 [a0, some (.inl x), a2, a3, a4, a5] (.inl x :: st) m := e_1 d121_13 (Or.inl rfl) rfl
theorem d121_14 : decode (mt 121).2.1 14 = .ok (.iaload, 1) := by decide +kernel
theorem s121_14 {ls : LV} {st : List AV} {m : MM} {n : Nat} {i : Int32} : go 121 14 ls (.inl i :: .inr (.inr (21, some n)) :: st) m = ixk (ix i (mN m 21 n)) (fun j => go 121 15 ls (.inl (mI m 21 n j) :: st) m) := e_ald d121_14 (fun j hj => by simp only [xi, pI, pA, hj, Option.bind_some]; rfl) (fun hj => by simp only [xi, pI, pA, hj, Option.bind_none])
theorem d121_15 : decode (mt 121).2.1 15 = .ok (.iconst 1, 1) := by decide +kernel
theorem s121_15 {ls : LV} {st : List AV} {m : MM} : go 121 15 ls st m = go 121 16 ls (.inl 1 :: st) m := e_1 d121_15 (Or.inl rfl) rfl
theorem d121_16 : decode (mt 121).2.1 16 = .ok (.if_icmp .ne 46, 3) := by decide +kernel
theorem s121_16 {ls : LV} {st : List AV} {m : MM} {a b : Int32} : go 121 16 ls (.inl b :: .inl a :: st) m = if ¬ a = b then go 121 62 ls st m else go 121 19 ls st m := e_if (t := 62) (b := hc .ne a b) d121_16 (Or.inl rfl) (by simp only [xi, pI, jm_some (t := 62) (show ((16 : Nat) : Int) + 46 = ((62 : Nat) : Int) by decide), Option.bind_some]) (by simp [hc])
theorem d121_19 : decode (mt 121).2.1 19 = .ok (.aload_n 0, 1) := by decide +kernel
theorem s121_19 {a1 a2 a3 a4 a5 : Option AV} {st : List AV} {m : MM} {x : Nat × Option Nat} : go 121 19 [some (.inr (.inr x)), a1, a2, a3, a4, a5] st m = go 121 20 [some (.inr (.inr x)), a1, a2, a3, a4, a5] (.inr (.inr x) :: st) m := e_1 d121_19 (Or.inl rfl) rfl
theorem d121_20 : decode (mt 121).2.1 20 = .ok (.getfield 36, 3) := by decide +kernel
theorem s121_20 {ls : LV} {st : List AV} {m : MM} {n : Nat} : go 121 20 ls (.inr (.inr (8, some n)) :: st) m = go 121 23 ls (.inr (.inr (26, mR m 8 n 9)) :: st) m := e_1 d121_20 (Or.inl rfl) (by rw [xi, pA, show lk fdL (mt 121).2.2.1 36 = some (8, 9) by decide +kernel]; rfl)
theorem d121_23 : decode (mt 121).2.1 23 = .ok (.iload_n 1, 1) := by decide +kernel
theorem s121_23 {a0 a2 a3 a4 a5 : Option AV} {st : List AV} {m : MM} {x : Int32} : go 121 23 [a0, some (.inl x), a2, a3, a4, a5] st m = go 121 24 [a0, some (.inl x), a2, a3, a4, a5] (.inl x :: st) m := e_1 d121_23 (Or.inl rfl) rfl
theorem d121_24 : decode (mt 121).2.1 24 = .ok (.iaload, 1) := by decide +kernel
theorem s121_24 {ls : LV} {st : List AV} {m : MM} {n : Nat} {i : Int32} : go 121 24 ls (.inl i :: .inr (.inr (26, some n)) :: st) m = ixk (ix i (mN m 26 n)) (fun j => go 121 25 ls (.inl (mI m 26 n j) :: st) m) := e_ald d121_24 (fun j hj => by simp only [xi, pI, pA, hj, Option.bind_some]; rfl) (fun hj => by simp only [xi, pI, pA, hj, Option.bind_none])
theorem d121_25 : decode (mt 121).2.1 25 = .ok (.bipush (-4), 2) := by decide +kernel
theorem s121_25 {ls : LV} {st : List AV} {m : MM} : go 121 25 ls st m = go 121 27 ls (.inl (-4) :: st) m := e_1 d121_25 (Or.inl rfl) rfl
theorem d121_27 : decode (mt 121).2.1 27 = .ok (.if_icmp .eq 12, 3) := by decide +kernel
theorem s121_27 {ls : LV} {st : List AV} {m : MM} {a b : Int32} : go 121 27 ls (.inl b :: .inl a :: st) m = if a = b then go 121 39 ls st m else go 121 30 ls st m := e_if (t := 39) (b := hc .eq a b) d121_27 (Or.inl rfl) (by simp only [xi, pI, jm_some (t := 39) (show ((27 : Nat) : Int) + 12 = ((39 : Nat) : Int) by decide), Option.bind_some]) (by simp [hc])
theorem d121_30 : decode (mt 121).2.1 30 = .ok (.aload_n 0, 1) := by decide +kernel
theorem s121_30 {a1 a2 a3 a4 a5 : Option AV} {st : List AV} {m : MM} {x : Nat × Option Nat} : go 121 30 [some (.inr (.inr x)), a1, a2, a3, a4, a5] st m = go 121 31 [some (.inr (.inr x)), a1, a2, a3, a4, a5] (.inr (.inr x) :: st) m := e_1 d121_30 (Or.inl rfl) rfl
theorem d121_31 : decode (mt 121).2.1 31 = .ok (.getfield 36, 3) := by decide +kernel
theorem s121_31 {ls : LV} {st : List AV} {m : MM} {n : Nat} : go 121 31 ls (.inr (.inr (8, some n)) :: st) m = go 121 34 ls (.inr (.inr (26, mR m 8 n 9)) :: st) m := e_1 d121_31 (Or.inl rfl) (by rw [xi, pA, show lk fdL (mt 121).2.2.1 36 = some (8, 9) by decide +kernel]; rfl)
theorem d121_34 : decode (mt 121).2.1 34 = .ok (.iload_n 1, 1) := by decide +kernel
theorem s121_34 {a0 a2 a3 a4 a5 : Option AV} {st : List AV} {m : MM} {x : Int32} : go 121 34 [a0, some (.inl x), a2, a3, a4, a5] st m = go 121 35 [a0, some (.inl x), a2, a3, a4, a5] (.inl x :: st) m := e_1 d121_34 (Or.inl rfl) rfl
theorem d121_35 : decode (mt 121).2.1 35 = .ok (.iaload, 1) := by decide +kernel
theorem s121_35 {ls : LV} {st : List AV} {m : MM} {n : Nat} {i : Int32} : go 121 35 ls (.inl i :: .inr (.inr (26, some n)) :: st) m = ixk (ix i (mN m 26 n)) (fun j => go 121 36 ls (.inl (mI m 26 n j) :: st) m) := e_ald d121_35 (fun j hj => by simp only [xi, pI, pA, hj, Option.bind_some]; rfl) (fun hj => by simp only [xi, pI, pA, hj, Option.bind_none])
theorem d121_36 : decode (mt 121).2.1 36 = .ok (.goto 25, 3) := by decide +kernel
theorem s121_36 {ls : LV} {st : List AV} {m : MM} : go 121 36 ls st m = go 121 61 ls st m := e_1 d121_36 (Or.inl rfl) (by rw [xi, jm_some (t := 61) (by decide)]; rfl)
theorem d121_39 : decode (mt 121).2.1 39 = .ok (.aload_n 0, 1) := by decide +kernel
theorem s121_39 {a1 a2 a3 a4 a5 : Option AV} {st : List AV} {m : MM} {x : Nat × Option Nat} : go 121 39 [some (.inr (.inr x)), a1, a2, a3, a4, a5] st m = go 121 40 [some (.inr (.inr x)), a1, a2, a3, a4, a5] (.inr (.inr x) :: st) m := e_1 d121_39 (Or.inl rfl) rfl
theorem d121_40 : decode (mt 121).2.1 40 = .ok (.getfield 39, 3) := by decide +kernel
theorem s121_40 {ls : LV} {st : List AV} {m : MM} {n : Nat} : go 121 40 ls (.inr (.inr (8, some n)) :: st) m = go 121 43 ls (.inr (.inr (27, mR m 8 n 10)) :: st) m := e_1 d121_40 (Or.inl rfl) (by rw [xi, pA, show lk fdL (mt 121).2.2.1 39 = some (8, 10) by decide +kernel]; rfl)
theorem d121_43 : decode (mt 121).2.1 43 = .ok (.iload_n 1, 1) := by decide +kernel
theorem s121_43 {a0 a2 a3 a4 a5 : Option AV} {st : List AV} {m : MM} {x : Int32} : go 121 43 [a0, some (.inl x), a2, a3, a4, a5] st m = go 121 44 [a0, some (.inl x), a2, a3, a4, a5] (.inl x :: st) m := e_1 d121_43 (Or.inl rfl) rfl
theorem d121_44 : decode (mt 121).2.1 44 = .ok (.iaload, 1) := by decide +kernel
theorem s121_44 {ls : LV} {st : List AV} {m : MM} {n : Nat} {i : Int32} : go 121 44 ls (.inl i :: .inr (.inr (27, some n)) :: st) m = ixk (ix i (mN m 27 n)) (fun j => go 121 45 ls (.inl (mI m 27 n j) :: st) m) := e_ald d121_44 (fun j hj => by simp only [xi, pI, pA, hj, Option.bind_some]; rfl) (fun hj => by simp only [xi, pI, pA, hj, Option.bind_none])
theorem d121_45 : decode (mt 121).2.1 45 = .ok (.bipush (-4), 2) := by decide +kernel
theorem s121_45 {ls : LV} {st : List AV} {m : MM} : go 121 45 ls st m = go 121 47 ls (.inl (-4) :: st) m := e_1 d121_45 (Or.inl rfl) rfl
theorem d121_47 : decode (mt 121).2.1 47 = .ok (.if_icmp .eq 12, 3) := by decide +kernel
theorem s121_47 {ls : LV} {st : List AV} {m : MM} {a b : Int32} : go 121 47 ls (.inl b :: .inl a :: st) m = if a = b then go 121 59 ls st m else go 121 50 ls st m := e_if (t := 59) (b := hc .eq a b) d121_47 (Or.inl rfl) (by simp only [xi, pI, jm_some (t := 59) (show ((47 : Nat) : Int) + 12 = ((59 : Nat) : Int) by decide), Option.bind_some]) (by simp [hc])
theorem d121_50 : decode (mt 121).2.1 50 = .ok (.aload_n 0, 1) := by decide +kernel
theorem s121_50 {a1 a2 a3 a4 a5 : Option AV} {st : List AV} {m : MM} {x : Nat × Option Nat} : go 121 50 [some (.inr (.inr x)), a1, a2, a3, a4, a5] st m = go 121 51 [some (.inr (.inr x)), a1, a2, a3, a4, a5] (.inr (.inr x) :: st) m := e_1 d121_50 (Or.inl rfl) rfl
theorem d121_51 : decode (mt 121).2.1 51 = .ok (.getfield 39, 3) := by decide +kernel
theorem s121_51 {ls : LV} {st : List AV} {m : MM} {n : Nat} : go 121 51 ls (.inr (.inr (8, some n)) :: st) m = go 121 54 ls (.inr (.inr (27, mR m 8 n 10)) :: st) m := e_1 d121_51 (Or.inl rfl) (by rw [xi, pA, show lk fdL (mt 121).2.2.1 39 = some (8, 10) by decide +kernel]; rfl)
theorem d121_54 : decode (mt 121).2.1 54 = .ok (.iload_n 1, 1) := by decide +kernel
theorem s121_54 {a0 a2 a3 a4 a5 : Option AV} {st : List AV} {m : MM} {x : Int32} : go 121 54 [a0, some (.inl x), a2, a3, a4, a5] st m = go 121 55 [a0, some (.inl x), a2, a3, a4, a5] (.inl x :: st) m := e_1 d121_54 (Or.inl rfl) rfl
theorem d121_55 : decode (mt 121).2.1 55 = .ok (.iaload, 1) := by decide +kernel
theorem s121_55 {ls : LV} {st : List AV} {m : MM} {n : Nat} {i : Int32} : go 121 55 ls (.inl i :: .inr (.inr (27, some n)) :: st) m = ixk (ix i (mN m 27 n)) (fun j => go 121 56 ls (.inl (mI m 27 n j) :: st) m) := e_ald d121_55 (fun j hj => by simp only [xi, pI, pA, hj, Option.bind_some]; rfl) (fun hj => by simp only [xi, pI, pA, hj, Option.bind_none])
theorem d121_56 : decode (mt 121).2.1 56 = .ok (.goto 5, 3) := by decide +kernel
theorem s121_56 {ls : LV} {st : List AV} {m : MM} : go 121 56 ls st m = go 121 61 ls st m := e_1 d121_56 (Or.inl rfl) (by rw [xi, jm_some (t := 61) (by decide)]; rfl)
theorem d121_59 : decode (mt 121).2.1 59 = .ok (.bipush (-11), 2) := by decide +kernel
theorem s121_59 {ls : LV} {st : List AV} {m : MM} : go 121 59 ls st m = go 121 61 ls (.inl (-11) :: st) m := e_1 d121_59 (Or.inl rfl) rfl
theorem d121_61 : decode (mt 121).2.1 61 = .ok (.ireturn, 1) := by decide +kernel
theorem s121_61 {ls : LV} {m : MM} {x : Int32} : go 121 61 ls [.inl x] m = some (some (.inl x), m) := e_int d121_61 (by decide +kernel)
theorem d121_62 : decode (mt 121).2.1 62 = .ok (.aload_n 0, 1) := by decide +kernel
theorem s121_62 {a1 a2 a3 a4 a5 : Option AV} {st : List AV} {m : MM} {x : Nat × Option Nat} : go 121 62 [some (.inr (.inr x)), a1, a2, a3, a4, a5] st m = go 121 63 [some (.inr (.inr x)), a1, a2, a3, a4, a5] (.inr (.inr x) :: st) m := e_1 d121_62 (Or.inl rfl) rfl
theorem d121_63 : decode (mt 121).2.1 63 = .ok (.getfield 13, 3) := by decide +kernel
theorem s121_63 {ls : LV} {st : List AV} {m : MM} {n : Nat} : go 121 63 ls (.inr (.inr (8, some n)) :: st) m = go 121 66 ls (.inr (.inr (19, mR m 8 n 2)) :: st) m := e_1 d121_63 (Or.inl rfl) (by rw [xi, pA, show lk fdL (mt 121).2.2.1 13 = some (8, 2) by decide +kernel]; rfl)
theorem d121_66 : decode (mt 121).2.1 66 = .ok (.iload_n 1, 1) := by decide +kernel
theorem s121_66 {a0 a2 a3 a4 a5 : Option AV} {st : List AV} {m : MM} {x : Int32} : go 121 66 [a0, some (.inl x), a2, a3, a4, a5] st m = go 121 67 [a0, some (.inl x), a2, a3, a4, a5] (.inl x :: st) m := e_1 d121_66 (Or.inl rfl) rfl
theorem d121_67 : decode (mt 121).2.1 67 = .ok (.iaload, 1) := by decide +kernel
theorem s121_67 {ls : LV} {st : List AV} {m : MM} {n : Nat} {i : Int32} : go 121 67 ls (.inl i :: .inr (.inr (19, some n)) :: st) m = ixk (ix i (mN m 19 n)) (fun j => go 121 68 ls (.inl (mI m 19 n j) :: st) m) := e_ald d121_67 (fun j hj => by simp only [xi, pI, pA, hj, Option.bind_some]; rfl) (fun hj => by simp only [xi, pI, pA, hj, Option.bind_none])
theorem d121_68 : decode (mt 121).2.1 68 = .ok (.i2l, 1) := by decide +kernel
theorem s121_68 {ls : LV} {st : List AV} {m : MM} {a : Int32} : go 121 68 ls (.inl a :: st) m = go 121 69 ls (.inr (.inl a.toInt64) :: st) m := e_1 d121_68 (Or.inl rfl) rfl
theorem d121_69 : decode (mt 121).2.1 69 = .ok (.lload_n 2, 1) := by decide +kernel
theorem s121_69 {a0 a1 a3 a4 a5 : Option AV} {st : List AV} {m : MM} {x : Int64} : go 121 69 [a0, a1, some (.inr (.inl x)), a3, a4, a5] st m = go 121 70 [a0, a1, some (.inr (.inl x)), a3, a4, a5] (.inr (.inl x) :: st) m := e_1 d121_69 (Or.inl rfl) rfl
theorem d121_70 : decode (mt 121).2.1 70 = .ok (.lcmp, 1) := by decide +kernel
theorem s121_70 {ls : LV} {st : List AV} {m : MM} {a b : Int64} : go 121 70 ls (.inr (.inl b) :: .inr (.inl a) :: st) m = go 121 71 ls (.inl (lg_cmp a b) :: st) m := e_1 d121_70 (Or.inl rfl) rfl
theorem d121_71 : decode (mt 121).2.1 71 = .ok (.ifCond .gt 53, 3) := by decide +kernel
theorem s121_71 {ls : LV} {st : List AV} {m : MM} {a : Int32} : go 121 71 ls (.inl a :: st) m = if 0 < a then go 121 124 ls st m else go 121 74 ls st m := e_if (t := 124) (b := hc .gt a 0) d121_71 (Or.inl rfl) (by simp only [xi, pI, jm_some (t := 124) (show ((71 : Nat) : Int) + 53 = ((124 : Nat) : Int) by decide), Option.bind_some]) (by simp [hc])
theorem d121_74 : decode (mt 121).2.1 74 = .ok (.bipush 8, 2) := by decide +kernel
theorem s121_74 {ls : LV} {st : List AV} {m : MM} : go 121 74 ls st m = go 121 76 ls (.inl 8 :: st) m := e_1 d121_74 (Or.inl rfl) rfl
theorem d121_76 : decode (mt 121).2.1 76 = .ok (.istore 4, 2) := by decide +kernel
theorem s121_76i {a0 a1 a2 a4 a5 : Option AV} {z : Int32} {st : List AV} {m : MM} {x : Int32} : go 121 76 [a0, a1, a2, some (.inl z), a4, a5] (.inl x :: st) m = go 121 78 [a0, a1, a2, some (.inl z), some (.inl x), a5] st m := e_1 d121_76 (Or.inl rfl) rfl
theorem s121_76r {a0 a1 a2 a4 a5 : Option AV} {z : Nat × Option Nat} {st : List AV} {m : MM} {x : Int32} : go 121 76 [a0, a1, a2, some (.inr (.inr z)), a4, a5] (.inl x :: st) m = go 121 78 [a0, a1, a2, some (.inr (.inr z)), some (.inl x), a5] st m := e_1 d121_76 (Or.inl rfl) rfl
theorem s121_76n {a0 a1 a2 a4 a5 : Option AV} {st : List AV} {m : MM} {x : Int32} : go 121 76 [a0, a1, a2, none, a4, a5] (.inl x :: st) m = go 121 78 [a0, a1, a2, none, some (.inl x), a5] st m := e_1 d121_76 (Or.inl rfl) rfl
theorem d121_78 : decode (mt 121).2.1 78 = .ok (.iload 4, 2) := by decide +kernel
theorem s121_78 {a0 a1 a2 a3 a5 : Option AV} {st : List AV} {m : MM} {x : Int32} : go 121 78 [a0, a1, a2, a3, some (.inl x), a5] st m = go 121 80 [a0, a1, a2, a3, some (.inl x), a5] (.inl x :: st) m := e_1 d121_78 (Or.inl rfl) rfl
theorem d121_80 : decode (mt 121).2.1 80 = .ok (.ifCond .lt 41, 3) := by decide +kernel
theorem s121_80 {ls : LV} {st : List AV} {m : MM} {a : Int32} : go 121 80 ls (.inl a :: st) m = if a < 0 then go 121 121 ls st m else go 121 83 ls st m := e_if (t := 121) (b := hc .lt a 0) d121_80 (Or.inl rfl) (by simp only [xi, pI, jm_some (t := 121) (show ((80 : Nat) : Int) + 41 = ((121 : Nat) : Int) by decide), Option.bind_some]) (by simp [hc])
theorem d121_83 : decode (mt 121).2.1 83 = .ok (.aload_n 0, 1) := by decide +kernel
theorem s121_83 {a1 a2 a3 a4 a5 : Option AV} {st : List AV} {m : MM} {x : Nat × Option Nat} : go 121 83 [some (.inr (.inr x)), a1, a2, a3, a4, a5] st m = go 121 84 [some (.inr (.inr x)), a1, a2, a3, a4, a5] (.inr (.inr x) :: st) m := e_1 d121_83 (Or.inl rfl) rfl
theorem d121_84 : decode (mt 121).2.1 84 = .ok (.iload_n 1, 1) := by decide +kernel
theorem s121_84 {a0 a2 a3 a4 a5 : Option AV} {st : List AV} {m : MM} {x : Int32} : go 121 84 [a0, some (.inl x), a2, a3, a4, a5] st m = go 121 85 [a0, some (.inl x), a2, a3, a4, a5] (.inl x :: st) m := e_1 d121_84 (Or.inl rfl) rfl
theorem d121_85 : decode (mt 121).2.1 85 = .ok (.iload 4, 2) := by decide +kernel
theorem s121_85 {a0 a1 a2 a3 a5 : Option AV} {st : List AV} {m : MM} {x : Int32} : go 121 85 [a0, a1, a2, a3, some (.inl x), a5] st m = go 121 87 [a0, a1, a2, a3, some (.inl x), a5] (.inl x :: st) m := e_1 d121_85 (Or.inl rfl) rfl
theorem d121_87 : decode (mt 121).2.1 87 = .ok (.invokevirtual 143, 3) := by decide +kernel
theorem s121_87 {ls : LV} {m : MM} {x0 : Int32} {x1 : Int32} {n : Nat} : go 121 87 ls [.inl x1, .inl x0, .inr (.inr (8, some n))] m = bd (go 113 0 [some (.inr (.inr (8, some n))), some (.inl x0), some (.inl x1)] [] m) (fun v m2 => go 121 90 ls (v.toList ++ []) m2) := e_virt (y1 := 113) (na := 2) (as := [.inl x0, .inl x1]) (rest := []) d121_87 (by decide +kernel) rfl (by decide +kernel) (show (ent [.inr (.inr (8, some n)), .inl x0, .inl x1]).length ≤ (mt 113).2.2.2.1 from Nat.le_of_ble_eq_true rfl) (cats_le (Nat.le_of_ble_eq_true rfl)) (by decide +kernel)
theorem d121_90 : decode (mt 121).2.1 90 = .ok (.istore 5, 2) := by decide +kernel
theorem s121_90i {a0 a1 a2 a3 a5 : Option AV} {z : Int32} {st : List AV} {m : MM} {x : Int32} : go 121 90 [a0, a1, a2, a3, some (.inl z), a5] (.inl x :: st) m = go 121 92 [a0, a1, a2, a3, some (.inl z), some (.inl x)] st m := e_1 d121_90 (Or.inl rfl) rfl
theorem s121_90r {a0 a1 a2 a3 a5 : Option AV} {z : Nat × Option Nat} {st : List AV} {m : MM} {x : Int32} : go 121 90 [a0, a1, a2, a3, some (.inr (.inr z)), a5] (.inl x :: st) m = go 121 92 [a0, a1, a2, a3, some (.inr (.inr z)), some (.inl x)] st m := e_1 d121_90 (Or.inl rfl) rfl
theorem s121_90n {a0 a1 a2 a3 a5 : Option AV} {st : List AV} {m : MM} {x : Int32} : go 121 90 [a0, a1, a2, a3, none, a5] (.inl x :: st) m = go 121 92 [a0, a1, a2, a3, none, some (.inl x)] st m := e_1 d121_90 (Or.inl rfl) rfl
theorem d121_92 : decode (mt 121).2.1 92 = .ok (.iload 5, 2) := by decide +kernel
theorem s121_92 {a0 a1 a2 a3 a4 : Option AV} {st : List AV} {m : MM} {x : Int32} : go 121 92 [a0, a1, a2, a3, a4, some (.inl x)] st m = go 121 94 [a0, a1, a2, a3, a4, some (.inl x)] (.inl x :: st) m := e_1 d121_92 (Or.inl rfl) rfl
theorem d121_94 : decode (mt 121).2.1 94 = .ok (.bipush (-4), 2) := by decide +kernel
theorem s121_94 {ls : LV} {st : List AV} {m : MM} : go 121 94 ls st m = go 121 96 ls (.inl (-4) :: st) m := e_1 d121_94 (Or.inl rfl) rfl
theorem d121_96 : decode (mt 121).2.1 96 = .ok (.if_icmp .eq 19, 3) := by decide +kernel
theorem s121_96 {ls : LV} {st : List AV} {m : MM} {a b : Int32} : go 121 96 ls (.inl b :: .inl a :: st) m = if a = b then go 121 115 ls st m else go 121 99 ls st m := e_if (t := 115) (b := hc .eq a b) d121_96 (Or.inl rfl) (by simp only [xi, pI, jm_some (t := 115) (show ((96 : Nat) : Int) + 19 = ((115 : Nat) : Int) by decide), Option.bind_some]) (by simp [hc])
theorem d121_99 : decode (mt 121).2.1 99 = .ok (.aload_n 0, 1) := by decide +kernel
theorem s121_99 {a1 a2 a3 a4 a5 : Option AV} {st : List AV} {m : MM} {x : Nat × Option Nat} : go 121 99 [some (.inr (.inr x)), a1, a2, a3, a4, a5] st m = go 121 100 [some (.inr (.inr x)), a1, a2, a3, a4, a5] (.inr (.inr x) :: st) m := e_1 d121_99 (Or.inl rfl) rfl
theorem d121_100 : decode (mt 121).2.1 100 = .ok (.getfield 13, 3) := by decide +kernel
theorem s121_100 {ls : LV} {st : List AV} {m : MM} {n : Nat} : go 121 100 ls (.inr (.inr (8, some n)) :: st) m = go 121 103 ls (.inr (.inr (19, mR m 8 n 2)) :: st) m := e_1 d121_100 (Or.inl rfl) (by rw [xi, pA, show lk fdL (mt 121).2.2.1 13 = some (8, 2) by decide +kernel]; rfl)
theorem d121_103 : decode (mt 121).2.1 103 = .ok (.iload 5, 2) := by decide +kernel
theorem s121_103 {a0 a1 a2 a3 a4 : Option AV} {st : List AV} {m : MM} {x : Int32} : go 121 103 [a0, a1, a2, a3, a4, some (.inl x)] st m = go 121 105 [a0, a1, a2, a3, a4, some (.inl x)] (.inl x :: st) m := e_1 d121_103 (Or.inl rfl) rfl
theorem d121_105 : decode (mt 121).2.1 105 = .ok (.iaload, 1) := by decide +kernel
theorem s121_105 {ls : LV} {st : List AV} {m : MM} {n : Nat} {i : Int32} : go 121 105 ls (.inl i :: .inr (.inr (19, some n)) :: st) m = ixk (ix i (mN m 19 n)) (fun j => go 121 106 ls (.inl (mI m 19 n j) :: st) m) := e_ald d121_105 (fun j hj => by simp only [xi, pI, pA, hj, Option.bind_some]; rfl) (fun hj => by simp only [xi, pI, pA, hj, Option.bind_none])
theorem d121_106 : decode (mt 121).2.1 106 = .ok (.i2l, 1) := by decide +kernel
theorem s121_106 {ls : LV} {st : List AV} {m : MM} {a : Int32} : go 121 106 ls (.inl a :: st) m = go 121 107 ls (.inr (.inl a.toInt64) :: st) m := e_1 d121_106 (Or.inl rfl) rfl
theorem d121_107 : decode (mt 121).2.1 107 = .ok (.lload_n 2, 1) := by decide +kernel
theorem s121_107 {a0 a1 a3 a4 a5 : Option AV} {st : List AV} {m : MM} {x : Int64} : go 121 107 [a0, a1, some (.inr (.inl x)), a3, a4, a5] st m = go 121 108 [a0, a1, some (.inr (.inl x)), a3, a4, a5] (.inr (.inl x) :: st) m := e_1 d121_107 (Or.inl rfl) rfl
theorem d121_108 : decode (mt 121).2.1 108 = .ok (.lcmp, 1) := by decide +kernel
theorem s121_108 {ls : LV} {st : List AV} {m : MM} {a b : Int64} : go 121 108 ls (.inr (.inl b) :: .inr (.inl a) :: st) m = go 121 109 ls (.inl (lg_cmp a b) :: st) m := e_1 d121_108 (Or.inl rfl) rfl
theorem d121_109 : decode (mt 121).2.1 109 = .ok (.ifCond .gt 6, 3) := by decide +kernel
theorem s121_109 {ls : LV} {st : List AV} {m : MM} {a : Int32} : go 121 109 ls (.inl a :: st) m = if 0 < a then go 121 115 ls st m else go 121 112 ls st m := e_if (t := 115) (b := hc .gt a 0) d121_109 (Or.inl rfl) (by simp only [xi, pI, jm_some (t := 115) (show ((109 : Nat) : Int) + 6 = ((115 : Nat) : Int) by decide), Option.bind_some]) (by simp [hc])
theorem d121_112 : decode (mt 121).2.1 112 = .ok (.iload 5, 2) := by decide +kernel
theorem s121_112 {a0 a1 a2 a3 a4 : Option AV} {st : List AV} {m : MM} {x : Int32} : go 121 112 [a0, a1, a2, a3, a4, some (.inl x)] st m = go 121 114 [a0, a1, a2, a3, a4, some (.inl x)] (.inl x :: st) m := e_1 d121_112 (Or.inl rfl) rfl
theorem d121_114 : decode (mt 121).2.1 114 = .ok (.ireturn, 1) := by decide +kernel
theorem s121_114 {ls : LV} {m : MM} {x : Int32} : go 121 114 ls [.inl x] m = some (some (.inl x), m) := e_int d121_114 (by decide +kernel)
theorem d121_115 : decode (mt 121).2.1 115 = .ok (.iinc 4 (-1), 3) := by decide +kernel
theorem s121_115i {a0 a1 a2 a5 : Option AV} {z : Int32} {st : List AV} {m : MM} {x : Int32} : go 121 115 [a0, a1, a2, some (.inl z), some (.inl x), a5] st m = go 121 118 [a0, a1, a2, some (.inl z), some (.inl (x + (-1))), a5] st m := e_1 d121_115 (Or.inl rfl) rfl
theorem s121_115r {a0 a1 a2 a5 : Option AV} {z : Nat × Option Nat} {st : List AV} {m : MM} {x : Int32} : go 121 115 [a0, a1, a2, some (.inr (.inr z)), some (.inl x), a5] st m = go 121 118 [a0, a1, a2, some (.inr (.inr z)), some (.inl (x + (-1))), a5] st m := e_1 d121_115 (Or.inl rfl) rfl
theorem s121_115n {a0 a1 a2 a5 : Option AV} {st : List AV} {m : MM} {x : Int32} : go 121 115 [a0, a1, a2, none, some (.inl x), a5] st m = go 121 118 [a0, a1, a2, none, some (.inl (x + (-1))), a5] st m := e_1 d121_115 (Or.inl rfl) rfl
theorem d121_118 : decode (mt 121).2.1 118 = .ok (.goto (-40), 3) := by decide +kernel
theorem s121_118 {ls : LV} {st : List AV} {m : MM} : go 121 118 ls st m = go 121 78 ls st m := e_1 d121_118 (Or.inl rfl) (by rw [xi, jm_some (t := 78) (by decide)]; rfl)
theorem d121_121 : decode (mt 121).2.1 121 = .ok (.bipush (-10), 2) := by decide +kernel
theorem s121_121 {ls : LV} {st : List AV} {m : MM} : go 121 121 ls st m = go 121 123 ls (.inl (-10) :: st) m := e_1 d121_121 (Or.inl rfl) rfl
theorem d121_123 : decode (mt 121).2.1 123 = .ok (.ireturn, 1) := by decide +kernel
theorem s121_123 {ls : LV} {m : MM} {x : Int32} : go 121 123 ls [.inl x] m = some (some (.inl x), m) := e_int d121_123 (by decide +kernel)
theorem d121_124 : decode (mt 121).2.1 124 = .ok (.bipush 8, 2) := by decide +kernel
theorem s121_124 {ls : LV} {st : List AV} {m : MM} : go 121 124 ls st m = go 121 126 ls (.inl 8 :: st) m := e_1 d121_124 (Or.inl rfl) rfl
theorem d121_126 : decode (mt 121).2.1 126 = .ok (.istore 4, 2) := by decide +kernel
theorem s121_126i {a0 a1 a2 a4 a5 : Option AV} {z : Int32} {st : List AV} {m : MM} {x : Int32} : go 121 126 [a0, a1, a2, some (.inl z), a4, a5] (.inl x :: st) m = go 121 128 [a0, a1, a2, some (.inl z), some (.inl x), a5] st m := e_1 d121_126 (Or.inl rfl) rfl
theorem s121_126r {a0 a1 a2 a4 a5 : Option AV} {z : Nat × Option Nat} {st : List AV} {m : MM} {x : Int32} : go 121 126 [a0, a1, a2, some (.inr (.inr z)), a4, a5] (.inl x :: st) m = go 121 128 [a0, a1, a2, some (.inr (.inr z)), some (.inl x), a5] st m := e_1 d121_126 (Or.inl rfl) rfl
theorem s121_126n {a0 a1 a2 a4 a5 : Option AV} {st : List AV} {m : MM} {x : Int32} : go 121 126 [a0, a1, a2, none, a4, a5] (.inl x :: st) m = go 121 128 [a0, a1, a2, none, some (.inl x), a5] st m := e_1 d121_126 (Or.inl rfl) rfl
theorem d121_128 : decode (mt 121).2.1 128 = .ok (.iload 4, 2) := by decide +kernel
theorem s121_128 {a0 a1 a2 a3 a5 : Option AV} {st : List AV} {m : MM} {x : Int32} : go 121 128 [a0, a1, a2, a3, some (.inl x), a5] st m = go 121 130 [a0, a1, a2, a3, some (.inl x), a5] (.inl x :: st) m := e_1 d121_128 (Or.inl rfl) rfl
theorem d121_130 : decode (mt 121).2.1 130 = .ok (.ifCond .lt 41, 3) := by decide +kernel
theorem s121_130 {ls : LV} {st : List AV} {m : MM} {a : Int32} : go 121 130 ls (.inl a :: st) m = if a < 0 then go 121 171 ls st m else go 121 133 ls st m := e_if (t := 171) (b := hc .lt a 0) d121_130 (Or.inl rfl) (by simp only [xi, pI, jm_some (t := 171) (show ((130 : Nat) : Int) + 41 = ((171 : Nat) : Int) by decide), Option.bind_some]) (by simp [hc])
theorem d121_133 : decode (mt 121).2.1 133 = .ok (.aload_n 0, 1) := by decide +kernel
theorem s121_133 {a1 a2 a3 a4 a5 : Option AV} {st : List AV} {m : MM} {x : Nat × Option Nat} : go 121 133 [some (.inr (.inr x)), a1, a2, a3, a4, a5] st m = go 121 134 [some (.inr (.inr x)), a1, a2, a3, a4, a5] (.inr (.inr x) :: st) m := e_1 d121_133 (Or.inl rfl) rfl
theorem d121_134 : decode (mt 121).2.1 134 = .ok (.iload_n 1, 1) := by decide +kernel
theorem s121_134 {a0 a2 a3 a4 a5 : Option AV} {st : List AV} {m : MM} {x : Int32} : go 121 134 [a0, some (.inl x), a2, a3, a4, a5] st m = go 121 135 [a0, some (.inl x), a2, a3, a4, a5] (.inl x :: st) m := e_1 d121_134 (Or.inl rfl) rfl
theorem d121_135 : decode (mt 121).2.1 135 = .ok (.iload 4, 2) := by decide +kernel
theorem s121_135 {a0 a1 a2 a3 a5 : Option AV} {st : List AV} {m : MM} {x : Int32} : go 121 135 [a0, a1, a2, a3, some (.inl x), a5] st m = go 121 137 [a0, a1, a2, a3, some (.inl x), a5] (.inl x :: st) m := e_1 d121_135 (Or.inl rfl) rfl
theorem d121_137 : decode (mt 121).2.1 137 = .ok (.invokevirtual 146, 3) := by decide +kernel
theorem s121_137 {ls : LV} {m : MM} {x0 : Int32} {x1 : Int32} {n : Nat} : go 121 137 ls [.inl x1, .inl x0, .inr (.inr (8, some n))] m = bd (go 112 0 [some (.inr (.inr (8, some n))), some (.inl x0), some (.inl x1)] [] m) (fun v m2 => go 121 140 ls (v.toList ++ []) m2) := e_virt (y1 := 112) (na := 2) (as := [.inl x0, .inl x1]) (rest := []) d121_137 (by decide +kernel) rfl (by decide +kernel) (show (ent [.inr (.inr (8, some n)), .inl x0, .inl x1]).length ≤ (mt 112).2.2.2.1 from Nat.le_of_ble_eq_true rfl) (cats_le (Nat.le_of_ble_eq_true rfl)) (by decide +kernel)
theorem d121_140 : decode (mt 121).2.1 140 = .ok (.istore 5, 2) := by decide +kernel
theorem s121_140i {a0 a1 a2 a3 a5 : Option AV} {z : Int32} {st : List AV} {m : MM} {x : Int32} : go 121 140 [a0, a1, a2, a3, some (.inl z), a5] (.inl x :: st) m = go 121 142 [a0, a1, a2, a3, some (.inl z), some (.inl x)] st m := e_1 d121_140 (Or.inl rfl) rfl
theorem s121_140r {a0 a1 a2 a3 a5 : Option AV} {z : Nat × Option Nat} {st : List AV} {m : MM} {x : Int32} : go 121 140 [a0, a1, a2, a3, some (.inr (.inr z)), a5] (.inl x :: st) m = go 121 142 [a0, a1, a2, a3, some (.inr (.inr z)), some (.inl x)] st m := e_1 d121_140 (Or.inl rfl) rfl
theorem s121_140n {a0 a1 a2 a3 a5 : Option AV} {st : List AV} {m : MM} {x : Int32} : go 121 140 [a0, a1, a2, a3, none, a5] (.inl x :: st) m = go 121 142 [a0, a1, a2, a3, none, some (.inl x)] st m := e_1 d121_140 (Or.inl rfl) rfl
theorem d121_142 : decode (mt 121).2.1 142 = .ok (.iload 5, 2) := by decide +kernel
theorem s121_142 {a0 a1 a2 a3 a4 : Option AV} {st : List AV} {m : MM} {x : Int32} : go 121 142 [a0, a1, a2, a3, a4, some (.inl x)] st m = go 121 144 [a0, a1, a2, a3, a4, some (.inl x)] (.inl x :: st) m := e_1 d121_142 (Or.inl rfl) rfl
theorem d121_144 : decode (mt 121).2.1 144 = .ok (.bipush (-4), 2) := by decide +kernel
theorem s121_144 {ls : LV} {st : List AV} {m : MM} : go 121 144 ls st m = go 121 146 ls (.inl (-4) :: st) m := e_1 d121_144 (Or.inl rfl) rfl
theorem d121_146 : decode (mt 121).2.1 146 = .ok (.if_icmp .eq 19, 3) := by decide +kernel
theorem s121_146 {ls : LV} {st : List AV} {m : MM} {a b : Int32} : go 121 146 ls (.inl b :: .inl a :: st) m = if a = b then go 121 165 ls st m else go 121 149 ls st m := e_if (t := 165) (b := hc .eq a b) d121_146 (Or.inl rfl) (by simp only [xi, pI, jm_some (t := 165) (show ((146 : Nat) : Int) + 19 = ((165 : Nat) : Int) by decide), Option.bind_some]) (by simp [hc])
theorem d121_149 : decode (mt 121).2.1 149 = .ok (.aload_n 0, 1) := by decide +kernel
theorem s121_149 {a1 a2 a3 a4 a5 : Option AV} {st : List AV} {m : MM} {x : Nat × Option Nat} : go 121 149 [some (.inr (.inr x)), a1, a2, a3, a4, a5] st m = go 121 150 [some (.inr (.inr x)), a1, a2, a3, a4, a5] (.inr (.inr x) :: st) m := e_1 d121_149 (Or.inl rfl) rfl
theorem d121_150 : decode (mt 121).2.1 150 = .ok (.getfield 13, 3) := by decide +kernel
theorem s121_150 {ls : LV} {st : List AV} {m : MM} {n : Nat} : go 121 150 ls (.inr (.inr (8, some n)) :: st) m = go 121 153 ls (.inr (.inr (19, mR m 8 n 2)) :: st) m := e_1 d121_150 (Or.inl rfl) (by rw [xi, pA, show lk fdL (mt 121).2.2.1 13 = some (8, 2) by decide +kernel]; rfl)
theorem d121_153 : decode (mt 121).2.1 153 = .ok (.iload 5, 2) := by decide +kernel
theorem s121_153 {a0 a1 a2 a3 a4 : Option AV} {st : List AV} {m : MM} {x : Int32} : go 121 153 [a0, a1, a2, a3, a4, some (.inl x)] st m = go 121 155 [a0, a1, a2, a3, a4, some (.inl x)] (.inl x :: st) m := e_1 d121_153 (Or.inl rfl) rfl
theorem d121_155 : decode (mt 121).2.1 155 = .ok (.iaload, 1) := by decide +kernel
theorem s121_155 {ls : LV} {st : List AV} {m : MM} {n : Nat} {i : Int32} : go 121 155 ls (.inl i :: .inr (.inr (19, some n)) :: st) m = ixk (ix i (mN m 19 n)) (fun j => go 121 156 ls (.inl (mI m 19 n j) :: st) m) := e_ald d121_155 (fun j hj => by simp only [xi, pI, pA, hj, Option.bind_some]; rfl) (fun hj => by simp only [xi, pI, pA, hj, Option.bind_none])
theorem d121_156 : decode (mt 121).2.1 156 = .ok (.i2l, 1) := by decide +kernel
theorem s121_156 {ls : LV} {st : List AV} {m : MM} {a : Int32} : go 121 156 ls (.inl a :: st) m = go 121 157 ls (.inr (.inl a.toInt64) :: st) m := e_1 d121_156 (Or.inl rfl) rfl
theorem d121_157 : decode (mt 121).2.1 157 = .ok (.lload_n 2, 1) := by decide +kernel
theorem s121_157 {a0 a1 a3 a4 a5 : Option AV} {st : List AV} {m : MM} {x : Int64} : go 121 157 [a0, a1, some (.inr (.inl x)), a3, a4, a5] st m = go 121 158 [a0, a1, some (.inr (.inl x)), a3, a4, a5] (.inr (.inl x) :: st) m := e_1 d121_157 (Or.inl rfl) rfl
theorem d121_158 : decode (mt 121).2.1 158 = .ok (.lcmp, 1) := by decide +kernel
theorem s121_158 {ls : LV} {st : List AV} {m : MM} {a b : Int64} : go 121 158 ls (.inr (.inl b) :: .inr (.inl a) :: st) m = go 121 159 ls (.inl (lg_cmp a b) :: st) m := e_1 d121_158 (Or.inl rfl) rfl
theorem d121_159 : decode (mt 121).2.1 159 = .ok (.ifCond .lt 6, 3) := by decide +kernel
theorem s121_159 {ls : LV} {st : List AV} {m : MM} {a : Int32} : go 121 159 ls (.inl a :: st) m = if a < 0 then go 121 165 ls st m else go 121 162 ls st m := e_if (t := 165) (b := hc .lt a 0) d121_159 (Or.inl rfl) (by simp only [xi, pI, jm_some (t := 165) (show ((159 : Nat) : Int) + 6 = ((165 : Nat) : Int) by decide), Option.bind_some]) (by simp [hc])
theorem d121_162 : decode (mt 121).2.1 162 = .ok (.iload 5, 2) := by decide +kernel
theorem s121_162 {a0 a1 a2 a3 a4 : Option AV} {st : List AV} {m : MM} {x : Int32} : go 121 162 [a0, a1, a2, a3, a4, some (.inl x)] st m = go 121 164 [a0, a1, a2, a3, a4, some (.inl x)] (.inl x :: st) m := e_1 d121_162 (Or.inl rfl) rfl
theorem d121_164 : decode (mt 121).2.1 164 = .ok (.ireturn, 1) := by decide +kernel
theorem s121_164 {ls : LV} {m : MM} {x : Int32} : go 121 164 ls [.inl x] m = some (some (.inl x), m) := e_int d121_164 (by decide +kernel)
theorem d121_165 : decode (mt 121).2.1 165 = .ok (.iinc 4 (-1), 3) := by decide +kernel
theorem s121_165i {a0 a1 a2 a5 : Option AV} {z : Int32} {st : List AV} {m : MM} {x : Int32} : go 121 165 [a0, a1, a2, some (.inl z), some (.inl x), a5] st m = go 121 168 [a0, a1, a2, some (.inl z), some (.inl (x + (-1))), a5] st m := e_1 d121_165 (Or.inl rfl) rfl
theorem s121_165r {a0 a1 a2 a5 : Option AV} {z : Nat × Option Nat} {st : List AV} {m : MM} {x : Int32} : go 121 165 [a0, a1, a2, some (.inr (.inr z)), some (.inl x), a5] st m = go 121 168 [a0, a1, a2, some (.inr (.inr z)), some (.inl (x + (-1))), a5] st m := e_1 d121_165 (Or.inl rfl) rfl
theorem s121_165n {a0 a1 a2 a5 : Option AV} {st : List AV} {m : MM} {x : Int32} : go 121 165 [a0, a1, a2, none, some (.inl x), a5] st m = go 121 168 [a0, a1, a2, none, some (.inl (x + (-1))), a5] st m := e_1 d121_165 (Or.inl rfl) rfl
theorem d121_168 : decode (mt 121).2.1 168 = .ok (.goto (-40), 3) := by decide +kernel
theorem s121_168 {ls : LV} {st : List AV} {m : MM} : go 121 168 ls st m = go 121 128 ls st m := e_1 d121_168 (Or.inl rfl) (by rw [xi, jm_some (t := 128) (by decide)]; rfl)
theorem d121_171 : decode (mt 121).2.1 171 = .ok (.aload_n 0, 1) := by decide +kernel
theorem s121_171 {a1 a2 a3 a4 a5 : Option AV} {st : List AV} {m : MM} {x : Nat × Option Nat} : go 121 171 [some (.inr (.inr x)), a1, a2, a3, a4, a5] st m = go 121 172 [some (.inr (.inr x)), a1, a2, a3, a4, a5] (.inr (.inr x) :: st) m := e_1 d121_171 (Or.inl rfl) rfl
theorem d121_172 : decode (mt 121).2.1 172 = .ok (.iload_n 1, 1) := by decide +kernel
theorem s121_172 {a0 a2 a3 a4 a5 : Option AV} {st : List AV} {m : MM} {x : Int32} : go 121 172 [a0, some (.inl x), a2, a3, a4, a5] st m = go 121 173 [a0, some (.inl x), a2, a3, a4, a5] (.inl x :: st) m := e_1 d121_172 (Or.inl rfl) rfl
theorem d121_173 : decode (mt 121).2.1 173 = .ok (.iconst 0, 1) := by decide +kernel
theorem s121_173 {ls : LV} {st : List AV} {m : MM} : go 121 173 ls st m = go 121 174 ls (.inl 0 :: st) m := e_1 d121_173 (Or.inl rfl) rfl
theorem d121_174 : decode (mt 121).2.1 174 = .ok (.invokevirtual 146, 3) := by decide +kernel
theorem s121_174 {ls : LV} {m : MM} {x0 : Int32} {x1 : Int32} {n : Nat} : go 121 174 ls [.inl x1, .inl x0, .inr (.inr (8, some n))] m = bd (go 112 0 [some (.inr (.inr (8, some n))), some (.inl x0), some (.inl x1)] [] m) (fun v m2 => go 121 177 ls (v.toList ++ []) m2) := e_virt (y1 := 112) (na := 2) (as := [.inl x0, .inl x1]) (rest := []) d121_174 (by decide +kernel) rfl (by decide +kernel) (show (ent [.inr (.inr (8, some n)), .inl x0, .inl x1]).length ≤ (mt 112).2.2.2.1 from Nat.le_of_ble_eq_true rfl) (cats_le (Nat.le_of_ble_eq_true rfl)) (by decide +kernel)
theorem d121_177 : decode (mt 121).2.1 177 = .ok (.bipush (-4), 2) := by decide +kernel
theorem s121_177 {ls : LV} {st : List AV} {m : MM} : go 121 177 ls st m = go 121 179 ls (.inl (-4) :: st) m := e_1 d121_177 (Or.inl rfl) rfl
theorem d121_179 : decode (mt 121).2.1 179 = .ok (.if_icmp .eq 12, 3) := by decide +kernel
theorem s121_179 {ls : LV} {st : List AV} {m : MM} {a b : Int32} : go 121 179 ls (.inl b :: .inl a :: st) m = if a = b then go 121 191 ls st m else go 121 182 ls st m := e_if (t := 191) (b := hc .eq a b) d121_179 (Or.inl rfl) (by simp only [xi, pI, jm_some (t := 191) (show ((179 : Nat) : Int) + 12 = ((191 : Nat) : Int) by decide), Option.bind_some]) (by simp [hc])
theorem d121_182 : decode (mt 121).2.1 182 = .ok (.aload_n 0, 1) := by decide +kernel
theorem s121_182 {a1 a2 a3 a4 a5 : Option AV} {st : List AV} {m : MM} {x : Nat × Option Nat} : go 121 182 [some (.inr (.inr x)), a1, a2, a3, a4, a5] st m = go 121 183 [some (.inr (.inr x)), a1, a2, a3, a4, a5] (.inr (.inr x) :: st) m := e_1 d121_182 (Or.inl rfl) rfl
theorem d121_183 : decode (mt 121).2.1 183 = .ok (.iload_n 1, 1) := by decide +kernel
theorem s121_183 {a0 a2 a3 a4 a5 : Option AV} {st : List AV} {m : MM} {x : Int32} : go 121 183 [a0, some (.inl x), a2, a3, a4, a5] st m = go 121 184 [a0, some (.inl x), a2, a3, a4, a5] (.inl x :: st) m := e_1 d121_183 (Or.inl rfl) rfl
theorem d121_184 : decode (mt 121).2.1 184 = .ok (.iconst 0, 1) := by decide +kernel
theorem s121_184 {ls : LV} {st : List AV} {m : MM} : go 121 184 ls st m = go 121 185 ls (.inl 0 :: st) m := e_1 d121_184 (Or.inl rfl) rfl
theorem d121_185 : decode (mt 121).2.1 185 = .ok (.invokevirtual 146, 3) := by decide +kernel
theorem s121_185 {ls : LV} {m : MM} {x0 : Int32} {x1 : Int32} {n : Nat} : go 121 185 ls [.inl x1, .inl x0, .inr (.inr (8, some n))] m = bd (go 112 0 [some (.inr (.inr (8, some n))), some (.inl x0), some (.inl x1)] [] m) (fun v m2 => go 121 188 ls (v.toList ++ []) m2) := e_virt (y1 := 112) (na := 2) (as := [.inl x0, .inl x1]) (rest := []) d121_185 (by decide +kernel) rfl (by decide +kernel) (show (ent [.inr (.inr (8, some n)), .inl x0, .inl x1]).length ≤ (mt 112).2.2.2.1 from Nat.le_of_ble_eq_true rfl) (cats_le (Nat.le_of_ble_eq_true rfl)) (by decide +kernel)
theorem d121_188 : decode (mt 121).2.1 188 = .ok (.goto 5, 3) := by decide +kernel
theorem s121_188 {ls : LV} {st : List AV} {m : MM} : go 121 188 ls st m = go 121 193 ls st m := e_1 d121_188 (Or.inl rfl) (by rw [xi, jm_some (t := 193) (by decide)]; rfl)
theorem d121_191 : decode (mt 121).2.1 191 = .ok (.bipush (-10), 2) := by decide +kernel
theorem s121_191 {ls : LV} {st : List AV} {m : MM} : go 121 191 ls st m = go 121 193 ls (.inl (-10) :: st) m := e_1 d121_191 (Or.inl rfl) rfl
theorem d121_193 : decode (mt 121).2.1 193 = .ok (.ireturn, 1) := by decide +kernel
theorem s121_193 {ls : LV} {m : MM} {x : Int32} : go 121 193 ls [.inl x] m = some (some (.inl x), m) := e_int d121_193 (by decide +kernel)
/-! X7_comesAsk: 122 -/
theorem d122_0 : decode (mt 122).2.1 0 = .ok (.aload_n 0, 1) := by decide +kernel
theorem s122_0 {a1 a2 a3 : Option AV} {st : List AV} {m : MM} {x : Nat × Option Nat} : go 122 0 [some (.inr (.inr x)), a1, a2, a3] st m = go 122 1 [some (.inr (.inr x)), a1, a2, a3] (.inr (.inr x) :: st) m := e_1 d122_0 (Or.inl rfl) rfl
theorem d122_1 : decode (mt 122).2.1 1 = .ok (.getfield 64, 3) := by decide +kernel
theorem s122_1 {ls : LV} {st : List AV} {m : MM} {n : Nat} : go 122 1 ls (.inr (.inr (8, some n)) :: st) m = go 122 4 ls (.inr (.inr (35, mR m 8 n 22)) :: st) m := e_1 d122_1 (Or.inl rfl) (by rw [xi, pA, show lk fdL (mt 122).2.2.1 64 = some (8, 22) by decide +kernel]; rfl)
theorem d122_4 : decode (mt 122).2.1 4 = .ok (.iload_n 1, 1) := by decide +kernel
theorem s122_4 {a0 a2 a3 : Option AV} {st : List AV} {m : MM} {x : Int32} : go 122 4 [a0, some (.inl x), a2, a3] st m = go 122 5 [a0, some (.inl x), a2, a3] (.inl x :: st) m := e_1 d122_4 (Or.inl rfl) rfl
theorem d122_5 : decode (mt 122).2.1 5 = .ok (.iaload, 1) := by decide +kernel
theorem s122_5 {ls : LV} {st : List AV} {m : MM} {n : Nat} {i : Int32} : go 122 5 ls (.inl i :: .inr (.inr (35, some n)) :: st) m = ixk (ix i (mN m 35 n)) (fun j => go 122 6 ls (.inl (mI m 35 n j) :: st) m) := e_ald d122_5 (fun j hj => by simp only [xi, pI, pA, hj, Option.bind_some]; rfl) (fun hj => by simp only [xi, pI, pA, hj, Option.bind_none])
theorem d122_6 : decode (mt 122).2.1 6 = .ok (.bipush 40, 2) := by decide +kernel
theorem s122_6 {ls : LV} {st : List AV} {m : MM} : go 122 6 ls st m = go 122 8 ls (.inl 40 :: st) m := e_1 d122_6 (Or.inl rfl) rfl
theorem d122_8 : decode (mt 122).2.1 8 = .ok (.if_icmp .ge 20, 3) := by decide +kernel
theorem s122_8 {ls : LV} {st : List AV} {m : MM} {a b : Int32} : go 122 8 ls (.inl b :: .inl a :: st) m = if b ≤ a then go 122 28 ls st m else go 122 11 ls st m := e_if (t := 28) (b := hc .ge a b) d122_8 (Or.inl rfl) (by simp only [xi, pI, jm_some (t := 28) (show ((8 : Nat) : Int) + 20 = ((28 : Nat) : Int) by decide), Option.bind_some]) (by simp [hc])
theorem d122_11 : decode (mt 122).2.1 11 = .ok (.aload_n 0, 1) := by decide +kernel
theorem s122_11 {a1 a2 a3 : Option AV} {st : List AV} {m : MM} {x : Nat × Option Nat} : go 122 11 [some (.inr (.inr x)), a1, a2, a3] st m = go 122 12 [some (.inr (.inr x)), a1, a2, a3] (.inr (.inr x) :: st) m := e_1 d122_11 (Or.inl rfl) rfl
theorem d122_12 : decode (mt 122).2.1 12 = .ok (.getfield 67, 3) := by decide +kernel
theorem s122_12 {ls : LV} {st : List AV} {m : MM} {n : Nat} : go 122 12 ls (.inr (.inr (8, some n)) :: st) m = go 122 15 ls (.inr (.inr (36, mR m 8 n 23)) :: st) m := e_1 d122_12 (Or.inl rfl) (by rw [xi, pA, show lk fdL (mt 122).2.2.1 67 = some (8, 23) by decide +kernel]; rfl)
theorem d122_15 : decode (mt 122).2.1 15 = .ok (.bipush 40, 2) := by decide +kernel
theorem s122_15 {ls : LV} {st : List AV} {m : MM} : go 122 15 ls st m = go 122 17 ls (.inl 40 :: st) m := e_1 d122_15 (Or.inl rfl) rfl
theorem d122_17 : decode (mt 122).2.1 17 = .ok (.iload_n 1, 1) := by decide +kernel
theorem s122_17 {a0 a2 a3 : Option AV} {st : List AV} {m : MM} {x : Int32} : go 122 17 [a0, some (.inl x), a2, a3] st m = go 122 18 [a0, some (.inl x), a2, a3] (.inl x :: st) m := e_1 d122_17 (Or.inl rfl) rfl
theorem d122_18 : decode (mt 122).2.1 18 = .ok (.imul, 1) := by decide +kernel
theorem s122_18 {ls : LV} {st : List AV} {m : MM} {a b : Int32} : go 122 18 ls (.inl b :: .inl a :: st) m = go 122 19 ls (.inl (a * b) :: st) m := e_1 d122_18 (Or.inl rfl) rfl
theorem d122_19 : decode (mt 122).2.1 19 = .ok (.aload_n 0, 1) := by decide +kernel
theorem s122_19 {a1 a2 a3 : Option AV} {st : List AV} {m : MM} {x : Nat × Option Nat} : go 122 19 [some (.inr (.inr x)), a1, a2, a3] st m = go 122 20 [some (.inr (.inr x)), a1, a2, a3] (.inr (.inr x) :: st) m := e_1 d122_19 (Or.inl rfl) rfl
theorem d122_20 : decode (mt 122).2.1 20 = .ok (.getfield 64, 3) := by decide +kernel
theorem s122_20 {ls : LV} {st : List AV} {m : MM} {n : Nat} : go 122 20 ls (.inr (.inr (8, some n)) :: st) m = go 122 23 ls (.inr (.inr (35, mR m 8 n 22)) :: st) m := e_1 d122_20 (Or.inl rfl) (by rw [xi, pA, show lk fdL (mt 122).2.2.1 64 = some (8, 22) by decide +kernel]; rfl)
theorem d122_23 : decode (mt 122).2.1 23 = .ok (.iload_n 1, 1) := by decide +kernel
theorem s122_23 {a0 a2 a3 : Option AV} {st : List AV} {m : MM} {x : Int32} : go 122 23 [a0, some (.inl x), a2, a3] st m = go 122 24 [a0, some (.inl x), a2, a3] (.inl x :: st) m := e_1 d122_23 (Or.inl rfl) rfl
theorem d122_24 : decode (mt 122).2.1 24 = .ok (.iaload, 1) := by decide +kernel
theorem s122_24 {ls : LV} {st : List AV} {m : MM} {n : Nat} {i : Int32} : go 122 24 ls (.inl i :: .inr (.inr (35, some n)) :: st) m = ixk (ix i (mN m 35 n)) (fun j => go 122 25 ls (.inl (mI m 35 n j) :: st) m) := e_ald d122_24 (fun j hj => by simp only [xi, pI, pA, hj, Option.bind_some]; rfl) (fun hj => by simp only [xi, pI, pA, hj, Option.bind_none])
theorem d122_25 : decode (mt 122).2.1 25 = .ok (.iadd, 1) := by decide +kernel
theorem s122_25 {ls : LV} {st : List AV} {m : MM} {a b : Int32} : go 122 25 ls (.inl b :: .inl a :: st) m = go 122 26 ls (.inl (a + b) :: st) m := e_1 d122_25 (Or.inl rfl) rfl
theorem d122_26 : decode (mt 122).2.1 26 = .ok (.iload_n 2, 1) := by decide +kernel
theorem s122_26 {a0 a1 a3 : Option AV} {st : List AV} {m : MM} {x : Int32} : go 122 26 [a0, a1, some (.inl x), a3] st m = go 122 27 [a0, a1, some (.inl x), a3] (.inl x :: st) m := e_1 d122_26 (Or.inl rfl) rfl
theorem d122_27 : decode (mt 122).2.1 27 = .ok (.iastore, 1) := by decide +kernel
theorem s122_27 {ls : LV} {st : List AV} {m : MM} {n : Nat} {i : Int32} {x : Int32} : go 122 27 ls (.inl x :: .inl i :: .inr (.inr (36, some n)) :: st) m = ixk (ix i (mN m 36 n)) (fun j => go 122 28 ls st (sI m 36 n j x)) := e_ald d122_27 (fun j hj => by simp only [xi, pI, pL, pR, pA, hj, Option.bind_some]; exact if_pos ⟨rfl, by decide⟩) (fun hj => by simp only [xi, pI, pL, pR, pA, hj, Option.bind_none])
theorem d122_28 : decode (mt 122).2.1 28 = .ok (.aload_n 0, 1) := by decide +kernel
theorem s122_28 {a1 a2 a3 : Option AV} {st : List AV} {m : MM} {x : Nat × Option Nat} : go 122 28 [some (.inr (.inr x)), a1, a2, a3] st m = go 122 29 [some (.inr (.inr x)), a1, a2, a3] (.inr (.inr x) :: st) m := e_1 d122_28 (Or.inl rfl) rfl
theorem d122_29 : decode (mt 122).2.1 29 = .ok (.getfield 64, 3) := by decide +kernel
theorem s122_29 {ls : LV} {st : List AV} {m : MM} {n : Nat} : go 122 29 ls (.inr (.inr (8, some n)) :: st) m = go 122 32 ls (.inr (.inr (35, mR m 8 n 22)) :: st) m := e_1 d122_29 (Or.inl rfl) (by rw [xi, pA, show lk fdL (mt 122).2.2.1 64 = some (8, 22) by decide +kernel]; rfl)
theorem d122_32 : decode (mt 122).2.1 32 = .ok (.iload_n 1, 1) := by decide +kernel
theorem s122_32 {a0 a2 a3 : Option AV} {st : List AV} {m : MM} {x : Int32} : go 122 32 [a0, some (.inl x), a2, a3] st m = go 122 33 [a0, some (.inl x), a2, a3] (.inl x :: st) m := e_1 d122_32 (Or.inl rfl) rfl
theorem d122_33 : decode (mt 122).2.1 33 = .ok (.dup2, 1) := by decide +kernel
theorem s122_33 {ls : LV} {st : List AV} {m : MM} {i : Int32} {x : Nat × Option Nat} : go 122 33 ls (.inl i :: .inr (.inr x) :: st) m = go 122 34 ls (.inl i :: .inr (.inr x) :: .inl i :: .inr (.inr x) :: st) m := e_1 d122_33 (Or.inl rfl) rfl
theorem d122_34 : decode (mt 122).2.1 34 = .ok (.iaload, 1) := by decide +kernel
theorem s122_34 {ls : LV} {st : List AV} {m : MM} {n : Nat} {i : Int32} : go 122 34 ls (.inl i :: .inr (.inr (35, some n)) :: st) m = ixk (ix i (mN m 35 n)) (fun j => go 122 35 ls (.inl (mI m 35 n j) :: st) m) := e_ald d122_34 (fun j hj => by simp only [xi, pI, pA, hj, Option.bind_some]; rfl) (fun hj => by simp only [xi, pI, pA, hj, Option.bind_none])
theorem d122_35 : decode (mt 122).2.1 35 = .ok (.iconst 1, 1) := by decide +kernel
theorem s122_35 {ls : LV} {st : List AV} {m : MM} : go 122 35 ls st m = go 122 36 ls (.inl 1 :: st) m := e_1 d122_35 (Or.inl rfl) rfl
theorem d122_36 : decode (mt 122).2.1 36 = .ok (.iadd, 1) := by decide +kernel
theorem s122_36 {ls : LV} {st : List AV} {m : MM} {a b : Int32} : go 122 36 ls (.inl b :: .inl a :: st) m = go 122 37 ls (.inl (a + b) :: st) m := e_1 d122_36 (Or.inl rfl) rfl
theorem d122_37 : decode (mt 122).2.1 37 = .ok (.iastore, 1) := by decide +kernel
theorem s122_37 {ls : LV} {st : List AV} {m : MM} {n : Nat} {i : Int32} {x : Int32} : go 122 37 ls (.inl x :: .inl i :: .inr (.inr (35, some n)) :: st) m = ixk (ix i (mN m 35 n)) (fun j => go 122 38 ls st (sI m 35 n j x)) := e_ald d122_37 (fun j hj => by simp only [xi, pI, pL, pR, pA, hj, Option.bind_some]; exact if_pos ⟨rfl, by decide⟩) (fun hj => by simp only [xi, pI, pL, pR, pA, hj, Option.bind_none])
theorem d122_38 : decode (mt 122).2.1 38 = .ok (.aload_n 0, 1) := by decide +kernel
theorem s122_38 {a1 a2 a3 : Option AV} {st : List AV} {m : MM} {x : Nat × Option Nat} : go 122 38 [some (.inr (.inr x)), a1, a2, a3] st m = go 122 39 [some (.inr (.inr x)), a1, a2, a3] (.inr (.inr x) :: st) m := e_1 d122_38 (Or.inl rfl) rfl
theorem d122_39 : decode (mt 122).2.1 39 = .ok (.getfield 76, 3) := by decide +kernel
theorem s122_39 {ls : LV} {st : List AV} {m : MM} {n : Nat} : go 122 39 ls (.inr (.inr (8, some n)) :: st) m = go 122 42 ls (.inr (.inr (39, mR m 8 n 26)) :: st) m := e_1 d122_39 (Or.inl rfl) (by rw [xi, pA, show lk fdL (mt 122).2.2.1 76 = some (8, 26) by decide +kernel]; rfl)
theorem d122_42 : decode (mt 122).2.1 42 = .ok (.iload_n 1, 1) := by decide +kernel
theorem s122_42 {a0 a2 a3 : Option AV} {st : List AV} {m : MM} {x : Int32} : go 122 42 [a0, some (.inl x), a2, a3] st m = go 122 43 [a0, some (.inl x), a2, a3] (.inl x :: st) m := e_1 d122_42 (Or.inl rfl) rfl
theorem d122_43 : decode (mt 122).2.1 43 = .ok (.baload, 1) := by decide +kernel
theorem s122_43 {ls : LV} {st : List AV} {m : MM} {n : Nat} {i : Int32} : go 122 43 ls (.inl i :: .inr (.inr (39, some n)) :: st) m = ixk (ix i (mN m 39 n)) (fun j => go 122 44 ls (.inl (mI m 39 n j) :: st) m) := e_ald d122_43 (fun j hj => by simp only [xi, pI, pA, hj, Option.bind_some]; rfl) (fun hj => by simp only [xi, pI, pA, hj, Option.bind_none])
theorem d122_44 : decode (mt 122).2.1 44 = .ok (.ifCond .eq 28, 3) := by decide +kernel
theorem s122_44 {ls : LV} {st : List AV} {m : MM} {a : Int32} : go 122 44 ls (.inl a :: st) m = if a = 0 then go 122 72 ls st m else go 122 47 ls st m := e_if (t := 72) (b := hc .eq a 0) d122_44 (Or.inl rfl) (by simp only [xi, pI, jm_some (t := 72) (show ((44 : Nat) : Int) + 28 = ((72 : Nat) : Int) by decide), Option.bind_some]) (by simp [hc])
theorem d122_47 : decode (mt 122).2.1 47 = .ok (.aload_n 0, 1) := by decide +kernel
theorem s122_47 {a1 a2 a3 : Option AV} {st : List AV} {m : MM} {x : Nat × Option Nat} : go 122 47 [some (.inr (.inr x)), a1, a2, a3] st m = go 122 48 [some (.inr (.inr x)), a1, a2, a3] (.inr (.inr x) :: st) m := e_1 d122_47 (Or.inl rfl) rfl
theorem d122_48 : decode (mt 122).2.1 48 = .ok (.getfield 20, 3) := by decide +kernel
theorem s122_48 {ls : LV} {st : List AV} {m : MM} {n : Nat} : go 122 48 ls (.inr (.inr (8, some n)) :: st) m = go 122 51 ls (.inr (.inr (21, mR m 8 n 4)) :: st) m := e_1 d122_48 (Or.inl rfl) (by rw [xi, pA, show lk fdL (mt 122).2.2.1 20 = some (8, 4) by decide +kernel]; rfl)
theorem d122_51 : decode (mt 122).2.1 51 = .ok (.iload_n 2, 1) := by decide +kernel
theorem s122_51 {a0 a1 a3 : Option AV} {st : List AV} {m : MM} {x : Int32} : go 122 51 [a0, a1, some (.inl x), a3] st m = go 122 52 [a0, a1, some (.inl x), a3] (.inl x :: st) m := e_1 d122_51 (Or.inl rfl) rfl
theorem d122_52 : decode (mt 122).2.1 52 = .ok (.iaload, 1) := by decide +kernel
theorem s122_52 {ls : LV} {st : List AV} {m : MM} {n : Nat} {i : Int32} : go 122 52 ls (.inl i :: .inr (.inr (21, some n)) :: st) m = ixk (ix i (mN m 21 n)) (fun j => go 122 53 ls (.inl (mI m 21 n j) :: st) m) := e_ald d122_52 (fun j hj => by simp only [xi, pI, pA, hj, Option.bind_some]; rfl) (fun hj => by simp only [xi, pI, pA, hj, Option.bind_none])
theorem d122_53 : decode (mt 122).2.1 53 = .ok (.iconst 2, 1) := by decide +kernel
theorem s122_53 {ls : LV} {st : List AV} {m : MM} : go 122 53 ls st m = go 122 54 ls (.inl 2 :: st) m := e_1 d122_53 (Or.inl rfl) rfl
theorem d122_54 : decode (mt 122).2.1 54 = .ok (.if_icmp .eq 13, 3) := by decide +kernel
theorem s122_54 {ls : LV} {st : List AV} {m : MM} {a b : Int32} : go 122 54 ls (.inl b :: .inl a :: st) m = if a = b then go 122 67 ls st m else go 122 57 ls st m := e_if (t := 67) (b := hc .eq a b) d122_54 (Or.inl rfl) (by simp only [xi, pI, jm_some (t := 67) (show ((54 : Nat) : Int) + 13 = ((67 : Nat) : Int) by decide), Option.bind_some]) (by simp [hc])
theorem d122_57 : decode (mt 122).2.1 57 = .ok (.aload_n 0, 1) := by decide +kernel
theorem s122_57 {a1 a2 a3 : Option AV} {st : List AV} {m : MM} {x : Nat × Option Nat} : go 122 57 [some (.inr (.inr x)), a1, a2, a3] st m = go 122 58 [some (.inr (.inr x)), a1, a2, a3] (.inr (.inr x) :: st) m := e_1 d122_57 (Or.inl rfl) rfl
theorem d122_58 : decode (mt 122).2.1 58 = .ok (.getfield 20, 3) := by decide +kernel
theorem s122_58 {ls : LV} {st : List AV} {m : MM} {n : Nat} : go 122 58 ls (.inr (.inr (8, some n)) :: st) m = go 122 61 ls (.inr (.inr (21, mR m 8 n 4)) :: st) m := e_1 d122_58 (Or.inl rfl) (by rw [xi, pA, show lk fdL (mt 122).2.2.1 20 = some (8, 4) by decide +kernel]; rfl)
theorem d122_61 : decode (mt 122).2.1 61 = .ok (.iload_n 2, 1) := by decide +kernel
theorem s122_61 {a0 a1 a3 : Option AV} {st : List AV} {m : MM} {x : Int32} : go 122 61 [a0, a1, some (.inl x), a3] st m = go 122 62 [a0, a1, some (.inl x), a3] (.inl x :: st) m := e_1 d122_61 (Or.inl rfl) rfl
theorem d122_62 : decode (mt 122).2.1 62 = .ok (.iaload, 1) := by decide +kernel
theorem s122_62 {ls : LV} {st : List AV} {m : MM} {n : Nat} {i : Int32} : go 122 62 ls (.inl i :: .inr (.inr (21, some n)) :: st) m = ixk (ix i (mN m 21 n)) (fun j => go 122 63 ls (.inl (mI m 21 n j) :: st) m) := e_ald d122_62 (fun j hj => by simp only [xi, pI, pA, hj, Option.bind_some]; rfl) (fun hj => by simp only [xi, pI, pA, hj, Option.bind_none])
theorem d122_63 : decode (mt 122).2.1 63 = .ok (.iconst 3, 1) := by decide +kernel
theorem s122_63 {ls : LV} {st : List AV} {m : MM} : go 122 63 ls st m = go 122 64 ls (.inl 3 :: st) m := e_1 d122_63 (Or.inl rfl) rfl
theorem d122_64 : decode (mt 122).2.1 64 = .ok (.if_icmp .ne 8, 3) := by decide +kernel
theorem s122_64 {ls : LV} {st : List AV} {m : MM} {a b : Int32} : go 122 64 ls (.inl b :: .inl a :: st) m = if ¬ a = b then go 122 72 ls st m else go 122 67 ls st m := e_if (t := 72) (b := hc .ne a b) d122_64 (Or.inl rfl) (by simp only [xi, pI, jm_some (t := 72) (show ((64 : Nat) : Int) + 8 = ((72 : Nat) : Int) by decide), Option.bind_some]) (by simp [hc])
theorem d122_67 : decode (mt 122).2.1 67 = .ok (.bipush (-10), 2) := by decide +kernel
theorem s122_67 {ls : LV} {st : List AV} {m : MM} : go 122 67 ls st m = go 122 69 ls (.inl (-10) :: st) m := e_1 d122_67 (Or.inl rfl) rfl
theorem d122_69 : decode (mt 122).2.1 69 = .ok (.goto 15, 3) := by decide +kernel
theorem s122_69 {ls : LV} {st : List AV} {m : MM} : go 122 69 ls st m = go 122 84 ls st m := e_1 d122_69 (Or.inl rfl) (by rw [xi, jm_some (t := 84) (by decide)]; rfl)
theorem d122_72 : decode (mt 122).2.1 72 = .ok (.aload_n 0, 1) := by decide +kernel
theorem s122_72 {a1 a2 a3 : Option AV} {st : List AV} {m : MM} {x : Nat × Option Nat} : go 122 72 [some (.inr (.inr x)), a1, a2, a3] st m = go 122 73 [some (.inr (.inr x)), a1, a2, a3] (.inr (.inr x) :: st) m := e_1 d122_72 (Or.inl rfl) rfl
theorem d122_73 : decode (mt 122).2.1 73 = .ok (.iload_n 2, 1) := by decide +kernel
theorem s122_73 {a0 a1 a3 : Option AV} {st : List AV} {m : MM} {x : Int32} : go 122 73 [a0, a1, some (.inl x), a3] st m = go 122 74 [a0, a1, some (.inl x), a3] (.inl x :: st) m := e_1 d122_73 (Or.inl rfl) rfl
theorem d122_74 : decode (mt 122).2.1 74 = .ok (.aload_n 0, 1) := by decide +kernel
theorem s122_74 {a1 a2 a3 : Option AV} {st : List AV} {m : MM} {x : Nat × Option Nat} : go 122 74 [some (.inr (.inr x)), a1, a2, a3] st m = go 122 75 [some (.inr (.inr x)), a1, a2, a3] (.inr (.inr x) :: st) m := e_1 d122_74 (Or.inl rfl) rfl
theorem d122_75 : decode (mt 122).2.1 75 = .ok (.getfield 79, 3) := by decide +kernel
theorem s122_75 {ls : LV} {st : List AV} {m : MM} {n : Nat} : go 122 75 ls (.inr (.inr (8, some n)) :: st) m = go 122 78 ls (.inr (.inr (40, mR m 8 n 27)) :: st) m := e_1 d122_75 (Or.inl rfl) (by rw [xi, pA, show lk fdL (mt 122).2.2.1 79 = some (8, 27) by decide +kernel]; rfl)
theorem d122_78 : decode (mt 122).2.1 78 = .ok (.iload_n 1, 1) := by decide +kernel
theorem s122_78 {a0 a2 a3 : Option AV} {st : List AV} {m : MM} {x : Int32} : go 122 78 [a0, some (.inl x), a2, a3] st m = go 122 79 [a0, some (.inl x), a2, a3] (.inl x :: st) m := e_1 d122_78 (Or.inl rfl) rfl
theorem d122_79 : decode (mt 122).2.1 79 = .ok (.iaload, 1) := by decide +kernel
theorem s122_79 {ls : LV} {st : List AV} {m : MM} {n : Nat} {i : Int32} : go 122 79 ls (.inl i :: .inr (.inr (40, some n)) :: st) m = ixk (ix i (mN m 40 n)) (fun j => go 122 80 ls (.inl (mI m 40 n j) :: st) m) := e_ald d122_79 (fun j hj => by simp only [xi, pI, pA, hj, Option.bind_some]; rfl) (fun hj => by simp only [xi, pI, pA, hj, Option.bind_none])
theorem d122_80 : decode (mt 122).2.1 80 = .ok (.i2l, 1) := by decide +kernel
theorem s122_80 {ls : LV} {st : List AV} {m : MM} {a : Int32} : go 122 80 ls (.inl a :: st) m = go 122 81 ls (.inr (.inl a.toInt64) :: st) m := e_1 d122_80 (Or.inl rfl) rfl
theorem d122_81 : decode (mt 122).2.1 81 = .ok (.invokevirtual 149, 3) := by decide +kernel
theorem s122_81 {ls : LV} {m : MM} {x0 : Int32} {x1 : Int64} {n : Nat} : go 122 81 ls [.inr (.inl x1), .inl x0, .inr (.inr (8, some n))] m = bd (go 121 0 [some (.inr (.inr (8, some n))), some (.inl x0), some (.inr (.inl x1)), none, none, none] [] m) (fun v m2 => go 122 84 ls (v.toList ++ []) m2) := e_virt (y1 := 121) (na := 2) (as := [.inl x0, .inr (.inl x1)]) (rest := []) d122_81 (by decide +kernel) rfl (by decide +kernel) (show (ent [.inr (.inr (8, some n)), .inl x0, .inr (.inl x1)]).length ≤ (mt 121).2.2.2.1 from Nat.le_of_ble_eq_true rfl) (cats_le (Nat.le_of_ble_eq_true rfl)) (by decide +kernel)
theorem d122_84 : decode (mt 122).2.1 84 = .ok (.istore_n 3, 1) := by decide +kernel
theorem s122_84i {a0 a1 a3 : Option AV} {z : Int32} {st : List AV} {m : MM} {x : Int32} : go 122 84 [a0, a1, some (.inl z), a3] (.inl x :: st) m = go 122 85 [a0, a1, some (.inl z), some (.inl x)] st m := e_1 d122_84 (Or.inl rfl) rfl
theorem s122_84r {a0 a1 a3 : Option AV} {z : Nat × Option Nat} {st : List AV} {m : MM} {x : Int32} : go 122 84 [a0, a1, some (.inr (.inr z)), a3] (.inl x :: st) m = go 122 85 [a0, a1, some (.inr (.inr z)), some (.inl x)] st m := e_1 d122_84 (Or.inl rfl) rfl
theorem s122_84n {a0 a1 a3 : Option AV} {st : List AV} {m : MM} {x : Int32} : go 122 84 [a0, a1, none, a3] (.inl x :: st) m = go 122 85 [a0, a1, none, some (.inl x)] st m := e_1 d122_84 (Or.inl rfl) rfl
theorem d122_85 : decode (mt 122).2.1 85 = .ok (.iload_n 3, 1) := by decide +kernel
theorem s122_85 {a0 a1 a2 : Option AV} {st : List AV} {m : MM} {x : Int32} : go 122 85 [a0, a1, a2, some (.inl x)] st m = go 122 86 [a0, a1, a2, some (.inl x)] (.inl x :: st) m := e_1 d122_85 (Or.inl rfl) rfl
theorem d122_86 : decode (mt 122).2.1 86 = .ok (.bipush (-11), 2) := by decide +kernel
theorem s122_86 {ls : LV} {st : List AV} {m : MM} : go 122 86 ls st m = go 122 88 ls (.inl (-11) :: st) m := e_1 d122_86 (Or.inl rfl) rfl
theorem d122_88 : decode (mt 122).2.1 88 = .ok (.if_icmp .ne 23, 3) := by decide +kernel
theorem s122_88 {ls : LV} {st : List AV} {m : MM} {a b : Int32} : go 122 88 ls (.inl b :: .inl a :: st) m = if ¬ a = b then go 122 111 ls st m else go 122 91 ls st m := e_if (t := 111) (b := hc .ne a b) d122_88 (Or.inl rfl) (by simp only [xi, pI, jm_some (t := 111) (show ((88 : Nat) : Int) + 23 = ((111 : Nat) : Int) by decide), Option.bind_some]) (by simp [hc])
theorem d122_91 : decode (mt 122).2.1 91 = .ok (.aload_n 0, 1) := by decide +kernel
theorem s122_91 {a1 a2 a3 : Option AV} {st : List AV} {m : MM} {x : Nat × Option Nat} : go 122 91 [some (.inr (.inr x)), a1, a2, a3] st m = go 122 92 [some (.inr (.inr x)), a1, a2, a3] (.inr (.inr x) :: st) m := e_1 d122_91 (Or.inl rfl) rfl
theorem d122_92 : decode (mt 122).2.1 92 = .ok (.dup, 1) := by decide +kernel
theorem s122_92 {ls : LV} {st : List AV} {m : MM} {x : Nat × Option Nat} : go 122 92 ls (.inr (.inr x) :: st) m = go 122 93 ls (.inr (.inr x) :: .inr (.inr x) :: st) m := e_1 d122_92 (Or.inl rfl) rfl
theorem d122_93 : decode (mt 122).2.1 93 = .ok (.getfield 153, 3) := by decide +kernel
theorem s122_93 {ls : LV} {st : List AV} {m : MM} {n : Nat} : go 122 93 ls (.inr (.inr (8, some n)) :: st) m = go 122 96 ls (.inl (mI m 8 n 18) :: st) m := e_1 d122_93 (Or.inl rfl) (by rw [xi, pA, show lk fdL (mt 122).2.2.1 153 = some (8, 18) by decide +kernel]; rfl)
theorem d122_96 : decode (mt 122).2.1 96 = .ok (.iconst 1, 1) := by decide +kernel
theorem s122_96 {ls : LV} {st : List AV} {m : MM} : go 122 96 ls st m = go 122 97 ls (.inl 1 :: st) m := e_1 d122_96 (Or.inl rfl) rfl
theorem d122_97 : decode (mt 122).2.1 97 = .ok (.iadd, 1) := by decide +kernel
theorem s122_97 {ls : LV} {st : List AV} {m : MM} {a b : Int32} : go 122 97 ls (.inl b :: .inl a :: st) m = go 122 98 ls (.inl (a + b) :: st) m := e_1 d122_97 (Or.inl rfl) rfl
theorem d122_98 : decode (mt 122).2.1 98 = .ok (.putfield 153, 3) := by decide +kernel
theorem s122_98 {ls : LV} {st : List AV} {m : MM} {n : Nat} {x : Int32} : go 122 98 ls (.inl x :: .inr (.inr (8, some n)) :: st) m = go 122 101 ls st (sI m 8 n 18 x) := e_put (r := 8) (f := 18) d122_98 (by decide +kernel) rfl (by decide +kernel)
theorem d122_101 : decode (mt 122).2.1 101 = .ok (.aload_n 0, 1) := by decide +kernel
theorem s122_101 {a1 a2 a3 : Option AV} {st : List AV} {m : MM} {x : Nat × Option Nat} : go 122 101 [some (.inr (.inr x)), a1, a2, a3] st m = go 122 102 [some (.inr (.inr x)), a1, a2, a3] (.inr (.inr x) :: st) m := e_1 d122_101 (Or.inl rfl) rfl
theorem d122_102 : decode (mt 122).2.1 102 = .ok (.iload_n 1, 1) := by decide +kernel
theorem s122_102 {a0 a2 a3 : Option AV} {st : List AV} {m : MM} {x : Int32} : go 122 102 [a0, some (.inl x), a2, a3] st m = go 122 103 [a0, some (.inl x), a2, a3] (.inl x :: st) m := e_1 d122_102 (Or.inl rfl) rfl
theorem d122_103 : decode (mt 122).2.1 103 = .ok (.bipush (-4), 2) := by decide +kernel
theorem s122_103 {ls : LV} {st : List AV} {m : MM} : go 122 103 ls st m = go 122 105 ls (.inl (-4) :: st) m := e_1 d122_103 (Or.inl rfl) rfl
theorem d122_105 : decode (mt 122).2.1 105 = .ok (.invokevirtual 156, 3) := by decide +kernel
theorem s122_105 {ls : LV} {m : MM} {x0 : Int32} {x1 : Int32} {n : Nat} : go 122 105 ls [.inl x1, .inl x0, .inr (.inr (8, some n))] m = bd (go 118 0 [some (.inr (.inr (8, some n))), some (.inl x0), some (.inl x1)] [] m) (fun v m2 => go 122 108 ls (v.toList ++ []) m2) := e_virt (y1 := 118) (na := 2) (as := [.inl x0, .inl x1]) (rest := []) d122_105 (by decide +kernel) rfl (by decide +kernel) (show (ent [.inr (.inr (8, some n)), .inl x0, .inl x1]).length ≤ (mt 118).2.2.2.1 from Nat.le_of_ble_eq_true rfl) (cats_le (Nat.le_of_ble_eq_true rfl)) (by decide +kernel)
theorem d122_108 : decode (mt 122).2.1 108 = .ok (.goto 37, 3) := by decide +kernel
theorem s122_108 {ls : LV} {st : List AV} {m : MM} : go 122 108 ls st m = go 122 145 ls st m := e_1 d122_108 (Or.inl rfl) (by rw [xi, jm_some (t := 145) (by decide)]; rfl)
theorem d122_111 : decode (mt 122).2.1 111 = .ok (.iload_n 3, 1) := by decide +kernel
theorem s122_111 {a0 a1 a2 : Option AV} {st : List AV} {m : MM} {x : Int32} : go 122 111 [a0, a1, a2, some (.inl x)] st m = go 122 112 [a0, a1, a2, some (.inl x)] (.inl x :: st) m := e_1 d122_111 (Or.inl rfl) rfl
theorem d122_112 : decode (mt 122).2.1 112 = .ok (.bipush (-10), 2) := by decide +kernel
theorem s122_112 {ls : LV} {st : List AV} {m : MM} : go 122 112 ls st m = go 122 114 ls (.inl (-10) :: st) m := e_1 d122_112 (Or.inl rfl) rfl
theorem d122_114 : decode (mt 122).2.1 114 = .ok (.if_icmp .eq 25, 3) := by decide +kernel
theorem s122_114 {ls : LV} {st : List AV} {m : MM} {a b : Int32} : go 122 114 ls (.inl b :: .inl a :: st) m = if a = b then go 122 139 ls st m else go 122 117 ls st m := e_if (t := 139) (b := hc .eq a b) d122_114 (Or.inl rfl) (by simp only [xi, pI, jm_some (t := 139) (show ((114 : Nat) : Int) + 25 = ((139 : Nat) : Int) by decide), Option.bind_some]) (by simp [hc])
theorem d122_117 : decode (mt 122).2.1 117 = .ok (.aload_n 0, 1) := by decide +kernel
theorem s122_117 {a1 a2 a3 : Option AV} {st : List AV} {m : MM} {x : Nat × Option Nat} : go 122 117 [some (.inr (.inr x)), a1, a2, a3] st m = go 122 118 [some (.inr (.inr x)), a1, a2, a3] (.inr (.inr x) :: st) m := e_1 d122_117 (Or.inl rfl) rfl
theorem d122_118 : decode (mt 122).2.1 118 = .ok (.aload_n 0, 1) := by decide +kernel
theorem s122_118 {a1 a2 a3 : Option AV} {st : List AV} {m : MM} {x : Nat × Option Nat} : go 122 118 [some (.inr (.inr x)), a1, a2, a3] st m = go 122 119 [some (.inr (.inr x)), a1, a2, a3] (.inr (.inr x) :: st) m := e_1 d122_118 (Or.inl rfl) rfl
theorem d122_119 : decode (mt 122).2.1 119 = .ok (.getfield 55, 3) := by decide +kernel
theorem s122_119 {ls : LV} {st : List AV} {m : MM} {n : Nat} : go 122 119 ls (.inr (.inr (8, some n)) :: st) m = go 122 122 ls (.inr (.inr (32, mR m 8 n 19)) :: st) m := e_1 d122_119 (Or.inl rfl) (by rw [xi, pA, show lk fdL (mt 122).2.2.1 55 = some (8, 19) by decide +kernel]; rfl)
theorem d122_122 : decode (mt 122).2.1 122 = .ok (.iload_n 1, 1) := by decide +kernel
theorem s122_122 {a0 a2 a3 : Option AV} {st : List AV} {m : MM} {x : Int32} : go 122 122 [a0, some (.inl x), a2, a3] st m = go 122 123 [a0, some (.inl x), a2, a3] (.inl x :: st) m := e_1 d122_122 (Or.inl rfl) rfl
theorem d122_123 : decode (mt 122).2.1 123 = .ok (.iaload, 1) := by decide +kernel
theorem s122_123 {ls : LV} {st : List AV} {m : MM} {n : Nat} {i : Int32} : go 122 123 ls (.inl i :: .inr (.inr (32, some n)) :: st) m = ixk (ix i (mN m 32 n)) (fun j => go 122 124 ls (.inl (mI m 32 n j) :: st) m) := e_ald d122_123 (fun j hj => by simp only [xi, pI, pA, hj, Option.bind_some]; rfl) (fun hj => by simp only [xi, pI, pA, hj, Option.bind_none])
theorem d122_124 : decode (mt 122).2.1 124 = .ok (.iload_n 3, 1) := by decide +kernel
theorem s122_124 {a0 a1 a2 : Option AV} {st : List AV} {m : MM} {x : Int32} : go 122 124 [a0, a1, a2, some (.inl x)] st m = go 122 125 [a0, a1, a2, some (.inl x)] (.inl x :: st) m := e_1 d122_124 (Or.inl rfl) rfl
theorem d122_125 : decode (mt 122).2.1 125 = .ok (.iload_n 1, 1) := by decide +kernel
theorem s122_125 {a0 a2 a3 : Option AV} {st : List AV} {m : MM} {x : Int32} : go 122 125 [a0, some (.inl x), a2, a3] st m = go 122 126 [a0, some (.inl x), a2, a3] (.inl x :: st) m := e_1 d122_125 (Or.inl rfl) rfl
theorem d122_126 : decode (mt 122).2.1 126 = .ok (.bipush (-4), 2) := by decide +kernel
theorem s122_126 {ls : LV} {st : List AV} {m : MM} : go 122 126 ls st m = go 122 128 ls (.inl (-4) :: st) m := e_1 d122_126 (Or.inl rfl) rfl
theorem d122_128 : decode (mt 122).2.1 128 = .ok (.iconst 0, 1) := by decide +kernel
theorem s122_128 {ls : LV} {st : List AV} {m : MM} : go 122 128 ls st m = go 122 129 ls (.inl 0 :: st) m := e_1 d122_128 (Or.inl rfl) rfl
theorem d122_129 : decode (mt 122).2.1 129 = .ok (.bipush (-4), 2) := by decide +kernel
theorem s122_129 {ls : LV} {st : List AV} {m : MM} : go 122 129 ls st m = go 122 131 ls (.inl (-4) :: st) m := e_1 d122_129 (Or.inl rfl) rfl
theorem d122_131 : decode (mt 122).2.1 131 = .ok (.bipush (-4), 2) := by decide +kernel
theorem s122_131 {ls : LV} {st : List AV} {m : MM} : go 122 131 ls st m = go 122 133 ls (.inl (-4) :: st) m := e_1 d122_131 (Or.inl rfl) rfl
theorem d122_133 : decode (mt 122).2.1 133 = .ok (.invokevirtual 159, 3) := by decide +kernel
theorem s122_133 {ls : LV} {m : MM} {x0 : Int32} {x1 : Int32} {x2 : Int32} {x3 : Int32} {x4 : Int32} {x5 : Int32} {x6 : Int32} {n : Nat} : go 122 133 ls [.inl x6, .inl x5, .inl x4, .inl x3, .inl x2, .inl x1, .inl x0, .inr (.inr (8, some n))] m = bd (go 119 0 [some (.inr (.inr (8, some n))), some (.inl x0), some (.inl x1), some (.inl x2), some (.inl x3), some (.inl x4), some (.inl x5), some (.inl x6), none] [] m) (fun v m2 => go 122 136 ls (v.toList ++ []) m2) := e_virt (y1 := 119) (na := 7) (as := [.inl x0, .inl x1, .inl x2, .inl x3, .inl x4, .inl x5, .inl x6]) (rest := []) d122_133 (by decide +kernel) rfl (by decide +kernel) (show (ent [.inr (.inr (8, some n)), .inl x0, .inl x1, .inl x2, .inl x3, .inl x4, .inl x5, .inl x6]).length ≤ (mt 119).2.2.2.1 from Nat.le_of_ble_eq_true rfl) (cats_le (Nat.le_of_ble_eq_true rfl)) (by decide +kernel)
theorem d122_136 : decode (mt 122).2.1 136 = .ok (.goto 9, 3) := by decide +kernel
theorem s122_136 {ls : LV} {st : List AV} {m : MM} : go 122 136 ls st m = go 122 145 ls st m := e_1 d122_136 (Or.inl rfl) (by rw [xi, jm_some (t := 145) (by decide)]; rfl)
theorem d122_139 : decode (mt 122).2.1 139 = .ok (.aload_n 0, 1) := by decide +kernel
theorem s122_139 {a1 a2 a3 : Option AV} {st : List AV} {m : MM} {x : Nat × Option Nat} : go 122 139 [some (.inr (.inr x)), a1, a2, a3] st m = go 122 140 [some (.inr (.inr x)), a1, a2, a3] (.inr (.inr x) :: st) m := e_1 d122_139 (Or.inl rfl) rfl
theorem d122_140 : decode (mt 122).2.1 140 = .ok (.iload_n 1, 1) := by decide +kernel
theorem s122_140 {a0 a2 a3 : Option AV} {st : List AV} {m : MM} {x : Int32} : go 122 140 [a0, some (.inl x), a2, a3] st m = go 122 141 [a0, some (.inl x), a2, a3] (.inl x :: st) m := e_1 d122_140 (Or.inl rfl) rfl
theorem d122_141 : decode (mt 122).2.1 141 = .ok (.iload_n 2, 1) := by decide +kernel
theorem s122_141 {a0 a1 a3 : Option AV} {st : List AV} {m : MM} {x : Int32} : go 122 141 [a0, a1, some (.inl x), a3] st m = go 122 142 [a0, a1, some (.inl x), a3] (.inl x :: st) m := e_1 d122_141 (Or.inl rfl) rfl
theorem d122_142 : decode (mt 122).2.1 142 = .ok (.invokevirtual 163, 3) := by decide +kernel
theorem s122_142 {ls : LV} {m : MM} {x0 : Int32} {x1 : Int32} {n : Nat} : go 122 142 ls [.inl x1, .inl x0, .inr (.inr (8, some n))] m = bd (go 123 0 [some (.inr (.inr (8, some n))), some (.inl x0), some (.inl x1), none] [] m) (fun v m2 => go 122 145 ls (v.toList ++ []) m2) := e_virt (y1 := 123) (na := 2) (as := [.inl x0, .inl x1]) (rest := []) d122_142 (by decide +kernel) rfl (by decide +kernel) (show (ent [.inr (.inr (8, some n)), .inl x0, .inl x1]).length ≤ (mt 123).2.2.2.1 from Nat.le_of_ble_eq_true rfl) (cats_le (Nat.le_of_ble_eq_true rfl)) (by decide +kernel)
theorem d122_145 : decode (mt 122).2.1 145 = .ok (.return_, 1) := by decide +kernel
theorem s122_145 {ls : LV} {m : MM} : go 122 145 ls [] m = some (none, m) := e_void d122_145 (by decide +kernel)
/-! X7_isThere: 123 -/
theorem d123_0 : decode (mt 123).2.1 0 = .ok (.aload_n 0, 1) := by decide +kernel
theorem s123_0 {a1 a2 a3 : Option AV} {st : List AV} {m : MM} {x : Nat × Option Nat} : go 123 0 [some (.inr (.inr x)), a1, a2, a3] st m = go 123 1 [some (.inr (.inr x)), a1, a2, a3] (.inr (.inr x) :: st) m := e_1 d123_0 (Or.inl rfl) rfl
theorem d123_1 : decode (mt 123).2.1 1 = .ok (.getfield 55, 3) := by decide +kernel
theorem s123_1 {ls : LV} {st : List AV} {m : MM} {n : Nat} : go 123 1 ls (.inr (.inr (8, some n)) :: st) m = go 123 4 ls (.inr (.inr (32, mR m 8 n 19)) :: st) m := e_1 d123_1 (Or.inl rfl) (by rw [xi, pA, show lk fdL (mt 123).2.2.1 55 = some (8, 19) by decide +kernel]; rfl)
theorem d123_4 : decode (mt 123).2.1 4 = .ok (.iload_n 1, 1) := by decide +kernel
theorem s123_4 {a0 a2 a3 : Option AV} {st : List AV} {m : MM} {x : Int32} : go 123 4 [a0, some (.inl x), a2, a3] st m = go 123 5 [a0, some (.inl x), a2, a3] (.inl x :: st) m := e_1 d123_4 (Or.inl rfl) rfl
theorem d123_5 : decode (mt 123).2.1 5 = .ok (.iaload, 1) := by decide +kernel
theorem s123_5 {ls : LV} {st : List AV} {m : MM} {n : Nat} {i : Int32} : go 123 5 ls (.inl i :: .inr (.inr (32, some n)) :: st) m = ixk (ix i (mN m 32 n)) (fun j => go 123 6 ls (.inl (mI m 32 n j) :: st) m) := e_ald d123_5 (fun j hj => by simp only [xi, pI, pA, hj, Option.bind_some]; rfl) (fun hj => by simp only [xi, pI, pA, hj, Option.bind_none])
theorem d123_6 : decode (mt 123).2.1 6 = .ok (.tableswitch 123 0 4 #[34, 123, 123, 43, 69], 34) := by decide +kernel
theorem s123_6_0 {ls : LV} {st : List AV} {m : MM} : go 123 6 ls (.inl 0 :: st) m = go 123 40 ls st m := e_1 d123_6 (Or.inr rfl) (by rw [xi]; rfl)
theorem s123_6_1 {ls : LV} {st : List AV} {m : MM} : go 123 6 ls (.inl 1 :: st) m = go 123 129 ls st m := e_1 d123_6 (Or.inr rfl) (by rw [xi]; rfl)
theorem s123_6_2 {ls : LV} {st : List AV} {m : MM} : go 123 6 ls (.inl 2 :: st) m = go 123 129 ls st m := e_1 d123_6 (Or.inr rfl) (by rw [xi]; rfl)
theorem s123_6_3 {ls : LV} {st : List AV} {m : MM} : go 123 6 ls (.inl 3 :: st) m = go 123 49 ls st m := e_1 d123_6 (Or.inr rfl) (by rw [xi]; rfl)
theorem s123_6_4 {ls : LV} {st : List AV} {m : MM} : go 123 6 ls (.inl 4 :: st) m = go 123 75 ls st m := e_1 d123_6 (Or.inr rfl) (by rw [xi]; rfl)
theorem s123_6_d {ls : LV} {st : List AV} {m : MM} {a : Int32} (h : a.toInt < 0 ∨ 4 < a.toInt) : go 123 6 ls (.inl a :: st) m = go 123 129 ls st m := e_1 d123_6 (Or.inr rfl) (by simp only [xi, pI, if_pos h, jm_some (t := 129) (show ((6 : Nat) : Int) + 123 = ((129 : Nat) : Int) by decide), Option.bind_some]; rw [if_pos (by omega)])
theorem d123_40 : decode (mt 123).2.1 40 = .ok (.aload_n 0, 1) := by decide +kernel
theorem s123_40 {a1 a2 a3 : Option AV} {st : List AV} {m : MM} {x : Nat × Option Nat} : go 123 40 [some (.inr (.inr x)), a1, a2, a3] st m = go 123 41 [some (.inr (.inr x)), a1, a2, a3] (.inr (.inr x) :: st) m := e_1 d123_40 (Or.inl rfl) rfl
theorem d123_41 : decode (mt 123).2.1 41 = .ok (.iload_n 1, 1) := by decide +kernel
theorem s123_41 {a0 a2 a3 : Option AV} {st : List AV} {m : MM} {x : Int32} : go 123 41 [a0, some (.inl x), a2, a3] st m = go 123 42 [a0, some (.inl x), a2, a3] (.inl x :: st) m := e_1 d123_41 (Or.inl rfl) rfl
theorem d123_42 : decode (mt 123).2.1 42 = .ok (.iload_n 2, 1) := by decide +kernel
theorem s123_42 {a0 a1 a3 : Option AV} {st : List AV} {m : MM} {x : Int32} : go 123 42 [a0, a1, some (.inl x), a3] st m = go 123 43 [a0, a1, some (.inl x), a3] (.inl x :: st) m := e_1 d123_42 (Or.inl rfl) rfl
theorem d123_43 : decode (mt 123).2.1 43 = .ok (.invokevirtual 156, 3) := by decide +kernel
theorem s123_43 {ls : LV} {m : MM} {x0 : Int32} {x1 : Int32} {n : Nat} : go 123 43 ls [.inl x1, .inl x0, .inr (.inr (8, some n))] m = bd (go 118 0 [some (.inr (.inr (8, some n))), some (.inl x0), some (.inl x1)] [] m) (fun v m2 => go 123 46 ls (v.toList ++ []) m2) := e_virt (y1 := 118) (na := 2) (as := [.inl x0, .inl x1]) (rest := []) d123_43 (by decide +kernel) rfl (by decide +kernel) (show (ent [.inr (.inr (8, some n)), .inl x0, .inl x1]).length ≤ (mt 118).2.2.2.1 from Nat.le_of_ble_eq_true rfl) (cats_le (Nat.le_of_ble_eq_true rfl)) (by decide +kernel)
theorem d123_46 : decode (mt 123).2.1 46 = .ok (.goto 219, 3) := by decide +kernel
theorem s123_46 {ls : LV} {st : List AV} {m : MM} : go 123 46 ls st m = go 123 265 ls st m := e_1 d123_46 (Or.inl rfl) (by rw [xi, jm_some (t := 265) (by decide)]; rfl)
theorem d123_49 : decode (mt 123).2.1 49 = .ok (.aload_n 0, 1) := by decide +kernel
theorem s123_49 {a1 a2 a3 : Option AV} {st : List AV} {m : MM} {x : Nat × Option Nat} : go 123 49 [some (.inr (.inr x)), a1, a2, a3] st m = go 123 50 [some (.inr (.inr x)), a1, a2, a3] (.inr (.inr x) :: st) m := e_1 d123_49 (Or.inl rfl) rfl
theorem d123_50 : decode (mt 123).2.1 50 = .ok (.iload_n 2, 1) := by decide +kernel
theorem s123_50 {a0 a1 a3 : Option AV} {st : List AV} {m : MM} {x : Int32} : go 123 50 [a0, a1, some (.inl x), a3] st m = go 123 51 [a0, a1, some (.inl x), a3] (.inl x :: st) m := e_1 d123_50 (Or.inl rfl) rfl
theorem d123_51 : decode (mt 123).2.1 51 = .ok (.aload_n 0, 1) := by decide +kernel
theorem s123_51 {a1 a2 a3 : Option AV} {st : List AV} {m : MM} {x : Nat × Option Nat} : go 123 51 [some (.inr (.inr x)), a1, a2, a3] st m = go 123 52 [some (.inr (.inr x)), a1, a2, a3] (.inr (.inr x) :: st) m := e_1 d123_51 (Or.inl rfl) rfl
theorem d123_52 : decode (mt 123).2.1 52 = .ok (.getfield 79, 3) := by decide +kernel
theorem s123_52 {ls : LV} {st : List AV} {m : MM} {n : Nat} : go 123 52 ls (.inr (.inr (8, some n)) :: st) m = go 123 55 ls (.inr (.inr (40, mR m 8 n 27)) :: st) m := e_1 d123_52 (Or.inl rfl) (by rw [xi, pA, show lk fdL (mt 123).2.2.1 79 = some (8, 27) by decide +kernel]; rfl)
theorem d123_55 : decode (mt 123).2.1 55 = .ok (.iload_n 1, 1) := by decide +kernel
theorem s123_55 {a0 a2 a3 : Option AV} {st : List AV} {m : MM} {x : Int32} : go 123 55 [a0, some (.inl x), a2, a3] st m = go 123 56 [a0, some (.inl x), a2, a3] (.inl x :: st) m := e_1 d123_55 (Or.inl rfl) rfl
theorem d123_56 : decode (mt 123).2.1 56 = .ok (.iaload, 1) := by decide +kernel
theorem s123_56 {ls : LV} {st : List AV} {m : MM} {n : Nat} {i : Int32} : go 123 56 ls (.inl i :: .inr (.inr (40, some n)) :: st) m = ixk (ix i (mN m 40 n)) (fun j => go 123 57 ls (.inl (mI m 40 n j) :: st) m) := e_ald d123_56 (fun j hj => by simp only [xi, pI, pA, hj, Option.bind_some]; rfl) (fun hj => by simp only [xi, pI, pA, hj, Option.bind_none])
theorem d123_57 : decode (mt 123).2.1 57 = .ok (.aload_n 0, 1) := by decide +kernel
theorem s123_57 {a1 a2 a3 : Option AV} {st : List AV} {m : MM} {x : Nat × Option Nat} : go 123 57 [some (.inr (.inr x)), a1, a2, a3] st m = go 123 58 [some (.inr (.inr x)), a1, a2, a3] (.inr (.inr x) :: st) m := e_1 d123_57 (Or.inl rfl) rfl
theorem d123_58 : decode (mt 123).2.1 58 = .ok (.getfield 85, 3) := by decide +kernel
theorem s123_58 {ls : LV} {st : List AV} {m : MM} {n : Nat} : go 123 58 ls (.inr (.inr (8, some n)) :: st) m = go 123 61 ls (.inr (.inr (42, mR m 8 n 29)) :: st) m := e_1 d123_58 (Or.inl rfl) (by rw [xi, pA, show lk fdL (mt 123).2.2.1 85 = some (8, 29) by decide +kernel]; rfl)
theorem d123_61 : decode (mt 123).2.1 61 = .ok (.iload_n 1, 1) := by decide +kernel
theorem s123_61 {a0 a2 a3 : Option AV} {st : List AV} {m : MM} {x : Int32} : go 123 61 [a0, some (.inl x), a2, a3] st m = go 123 62 [a0, some (.inl x), a2, a3] (.inl x :: st) m := e_1 d123_61 (Or.inl rfl) rfl
theorem d123_62 : decode (mt 123).2.1 62 = .ok (.laload, 1) := by decide +kernel
theorem s123_62 {ls : LV} {st : List AV} {m : MM} {n : Nat} {i : Int32} : go 123 62 ls (.inl i :: .inr (.inr (42, some n)) :: st) m = ixk (ix i (mN m 42 n)) (fun j => go 123 63 ls (.inr (.inl (mL m 42 n j)) :: st) m) := e_ald d123_62 (fun j hj => by simp only [xi, pI, pA, hj, Option.bind_some]; rfl) (fun hj => by simp only [xi, pI, pA, hj, Option.bind_none])
theorem d123_63 : decode (mt 123).2.1 63 = .ok (.invokevirtual 166, 3) := by decide +kernel
theorem s123_63 {ls : LV} {m : MM} {x0 : Int32} {x1 : Int32} {x2 : Int64} {n : Nat} : go 123 63 ls [.inr (.inl x2), .inl x1, .inl x0, .inr (.inr (8, some n))] m = bd (go 115 0 [some (.inr (.inr (8, some n))), some (.inl x0), some (.inl x1), some (.inr (.inl x2)), none, none, none] [] m) (fun v m2 => go 123 66 ls (v.toList ++ []) m2) := e_virt (y1 := 115) (na := 3) (as := [.inl x0, .inl x1, .inr (.inl x2)]) (rest := []) d123_63 (by decide +kernel) rfl (by decide +kernel) (show (ent [.inr (.inr (8, some n)), .inl x0, .inl x1, .inr (.inl x2)]).length ≤ (mt 115).2.2.2.1 from Nat.le_of_ble_eq_true rfl) (cats_le (Nat.le_of_ble_eq_true rfl)) (by decide +kernel)
theorem d123_66 : decode (mt 123).2.1 66 = .ok (.aload_n 0, 1) := by decide +kernel
theorem s123_66 {a1 a2 a3 : Option AV} {st : List AV} {m : MM} {x : Nat × Option Nat} : go 123 66 [some (.inr (.inr x)), a1, a2, a3] st m = go 123 67 [some (.inr (.inr x)), a1, a2, a3] (.inr (.inr x) :: st) m := e_1 d123_66 (Or.inl rfl) rfl
theorem d123_67 : decode (mt 123).2.1 67 = .ok (.iload_n 1, 1) := by decide +kernel
theorem s123_67 {a0 a2 a3 : Option AV} {st : List AV} {m : MM} {x : Int32} : go 123 67 [a0, some (.inl x), a2, a3] st m = go 123 68 [a0, some (.inl x), a2, a3] (.inl x :: st) m := e_1 d123_67 (Or.inl rfl) rfl
theorem d123_68 : decode (mt 123).2.1 68 = .ok (.iconst 1, 1) := by decide +kernel
theorem s123_68 {ls : LV} {st : List AV} {m : MM} : go 123 68 ls st m = go 123 69 ls (.inl 1 :: st) m := e_1 d123_68 (Or.inl rfl) rfl
theorem d123_69 : decode (mt 123).2.1 69 = .ok (.invokevirtual 156, 3) := by decide +kernel
theorem s123_69 {ls : LV} {m : MM} {x0 : Int32} {x1 : Int32} {n : Nat} : go 123 69 ls [.inl x1, .inl x0, .inr (.inr (8, some n))] m = bd (go 118 0 [some (.inr (.inr (8, some n))), some (.inl x0), some (.inl x1)] [] m) (fun v m2 => go 123 72 ls (v.toList ++ []) m2) := e_virt (y1 := 118) (na := 2) (as := [.inl x0, .inl x1]) (rest := []) d123_69 (by decide +kernel) rfl (by decide +kernel) (show (ent [.inr (.inr (8, some n)), .inl x0, .inl x1]).length ≤ (mt 118).2.2.2.1 from Nat.le_of_ble_eq_true rfl) (cats_le (Nat.le_of_ble_eq_true rfl)) (by decide +kernel)
theorem d123_72 : decode (mt 123).2.1 72 = .ok (.goto 193, 3) := by decide +kernel
theorem s123_72 {ls : LV} {st : List AV} {m : MM} : go 123 72 ls st m = go 123 265 ls st m := e_1 d123_72 (Or.inl rfl) (by rw [xi, jm_some (t := 265) (by decide)]; rfl)
theorem d123_75 : decode (mt 123).2.1 75 = .ok (.aload_n 0, 1) := by decide +kernel
theorem s123_75 {a1 a2 a3 : Option AV} {st : List AV} {m : MM} {x : Nat × Option Nat} : go 123 75 [some (.inr (.inr x)), a1, a2, a3] st m = go 123 76 [some (.inr (.inr x)), a1, a2, a3] (.inr (.inr x) :: st) m := e_1 d123_75 (Or.inl rfl) rfl
theorem d123_76 : decode (mt 123).2.1 76 = .ok (.iload_n 2, 1) := by decide +kernel
theorem s123_76 {a0 a1 a3 : Option AV} {st : List AV} {m : MM} {x : Int32} : go 123 76 [a0, a1, some (.inl x), a3] st m = go 123 77 [a0, a1, some (.inl x), a3] (.inl x :: st) m := e_1 d123_76 (Or.inl rfl) rfl
theorem d123_77 : decode (mt 123).2.1 77 = .ok (.aload_n 0, 1) := by decide +kernel
theorem s123_77 {a1 a2 a3 : Option AV} {st : List AV} {m : MM} {x : Nat × Option Nat} : go 123 77 [some (.inr (.inr x)), a1, a2, a3] st m = go 123 78 [some (.inr (.inr x)), a1, a2, a3] (.inr (.inr x) :: st) m := e_1 d123_77 (Or.inl rfl) rfl
theorem d123_78 : decode (mt 123).2.1 78 = .ok (.getfield 79, 3) := by decide +kernel
theorem s123_78 {ls : LV} {st : List AV} {m : MM} {n : Nat} : go 123 78 ls (.inr (.inr (8, some n)) :: st) m = go 123 81 ls (.inr (.inr (40, mR m 8 n 27)) :: st) m := e_1 d123_78 (Or.inl rfl) (by rw [xi, pA, show lk fdL (mt 123).2.2.1 79 = some (8, 27) by decide +kernel]; rfl)
theorem d123_81 : decode (mt 123).2.1 81 = .ok (.iload_n 1, 1) := by decide +kernel
theorem s123_81 {a0 a2 a3 : Option AV} {st : List AV} {m : MM} {x : Int32} : go 123 81 [a0, some (.inl x), a2, a3] st m = go 123 82 [a0, some (.inl x), a2, a3] (.inl x :: st) m := e_1 d123_81 (Or.inl rfl) rfl
theorem d123_82 : decode (mt 123).2.1 82 = .ok (.iaload, 1) := by decide +kernel
theorem s123_82 {ls : LV} {st : List AV} {m : MM} {n : Nat} {i : Int32} : go 123 82 ls (.inl i :: .inr (.inr (40, some n)) :: st) m = ixk (ix i (mN m 40 n)) (fun j => go 123 83 ls (.inl (mI m 40 n j) :: st) m) := e_ald d123_82 (fun j hj => by simp only [xi, pI, pA, hj, Option.bind_some]; rfl) (fun hj => by simp only [xi, pI, pA, hj, Option.bind_none])
theorem d123_83 : decode (mt 123).2.1 83 = .ok (.invokevirtual 170, 3) := by decide +kernel
theorem s123_83 {ls : LV} {m : MM} {x0 : Int32} {x1 : Int32} {n : Nat} : go 123 83 ls [.inl x1, .inl x0, .inr (.inr (8, some n))] m = bd (go 116 0 [some (.inr (.inr (8, some n))), some (.inl x0), some (.inl x1), none] [] m) (fun v m2 => go 123 86 ls (v.toList ++ []) m2) := e_virt (y1 := 116) (na := 2) (as := [.inl x0, .inl x1]) (rest := []) d123_83 (by decide +kernel) rfl (by decide +kernel) (show (ent [.inr (.inr (8, some n)), .inl x0, .inl x1]).length ≤ (mt 116).2.2.2.1 from Nat.le_of_ble_eq_true rfl) (cats_le (Nat.le_of_ble_eq_true rfl)) (by decide +kernel)
theorem d123_86 : decode (mt 123).2.1 86 = .ok (.istore_n 3, 1) := by decide +kernel
theorem s123_86i {a0 a1 a3 : Option AV} {z : Int32} {st : List AV} {m : MM} {x : Int32} : go 123 86 [a0, a1, some (.inl z), a3] (.inl x :: st) m = go 123 87 [a0, a1, some (.inl z), some (.inl x)] st m := e_1 d123_86 (Or.inl rfl) rfl
theorem s123_86r {a0 a1 a3 : Option AV} {z : Nat × Option Nat} {st : List AV} {m : MM} {x : Int32} : go 123 86 [a0, a1, some (.inr (.inr z)), a3] (.inl x :: st) m = go 123 87 [a0, a1, some (.inr (.inr z)), some (.inl x)] st m := e_1 d123_86 (Or.inl rfl) rfl
theorem s123_86n {a0 a1 a3 : Option AV} {st : List AV} {m : MM} {x : Int32} : go 123 86 [a0, a1, none, a3] (.inl x :: st) m = go 123 87 [a0, a1, none, some (.inl x)] st m := e_1 d123_86 (Or.inl rfl) rfl
theorem d123_87 : decode (mt 123).2.1 87 = .ok (.aload_n 0, 1) := by decide +kernel
theorem s123_87 {a1 a2 a3 : Option AV} {st : List AV} {m : MM} {x : Nat × Option Nat} : go 123 87 [some (.inr (.inr x)), a1, a2, a3] st m = go 123 88 [some (.inr (.inr x)), a1, a2, a3] (.inr (.inr x) :: st) m := e_1 d123_87 (Or.inl rfl) rfl
theorem d123_88 : decode (mt 123).2.1 88 = .ok (.getfield 85, 3) := by decide +kernel
theorem s123_88 {ls : LV} {st : List AV} {m : MM} {n : Nat} : go 123 88 ls (.inr (.inr (8, some n)) :: st) m = go 123 91 ls (.inr (.inr (42, mR m 8 n 29)) :: st) m := e_1 d123_88 (Or.inl rfl) (by rw [xi, pA, show lk fdL (mt 123).2.2.1 85 = some (8, 29) by decide +kernel]; rfl)
theorem d123_91 : decode (mt 123).2.1 91 = .ok (.iload_n 1, 1) := by decide +kernel
theorem s123_91 {a0 a2 a3 : Option AV} {st : List AV} {m : MM} {x : Int32} : go 123 91 [a0, some (.inl x), a2, a3] st m = go 123 92 [a0, some (.inl x), a2, a3] (.inl x :: st) m := e_1 d123_91 (Or.inl rfl) rfl
theorem d123_92 : decode (mt 123).2.1 92 = .ok (.iload_n 3, 1) := by decide +kernel
theorem s123_92 {a0 a1 a2 : Option AV} {st : List AV} {m : MM} {x : Int32} : go 123 92 [a0, a1, a2, some (.inl x)] st m = go 123 93 [a0, a1, a2, some (.inl x)] (.inl x :: st) m := e_1 d123_92 (Or.inl rfl) rfl
theorem d123_93 : decode (mt 123).2.1 93 = .ok (.bipush (-4), 2) := by decide +kernel
theorem s123_93 {ls : LV} {st : List AV} {m : MM} : go 123 93 ls st m = go 123 95 ls (.inl (-4) :: st) m := e_1 d123_93 (Or.inl rfl) rfl
theorem d123_95 : decode (mt 123).2.1 95 = .ok (.if_icmp .ne 7, 3) := by decide +kernel
theorem s123_95 {ls : LV} {st : List AV} {m : MM} {a b : Int32} : go 123 95 ls (.inl b :: .inl a :: st) m = if ¬ a = b then go 123 102 ls st m else go 123 98 ls st m := e_if (t := 102) (b := hc .ne a b) d123_95 (Or.inl rfl) (by simp only [xi, pI, jm_some (t := 102) (show ((95 : Nat) : Int) + 7 = ((102 : Nat) : Int) by decide), Option.bind_some]) (by simp [hc])
theorem d123_98 : decode (mt 123).2.1 98 = .ok (.lconst 0, 1) := by decide +kernel
theorem s123_98 {ls : LV} {st : List AV} {m : MM} : go 123 98 ls st m = go 123 99 ls (.inr (.inl 0) :: st) m := e_1 d123_98 (Or.inl rfl) rfl
theorem d123_99 : decode (mt 123).2.1 99 = .ok (.goto 9, 3) := by decide +kernel
theorem s123_99 {ls : LV} {st : List AV} {m : MM} : go 123 99 ls st m = go 123 108 ls st m := e_1 d123_99 (Or.inl rfl) (by rw [xi, jm_some (t := 108) (by decide)]; rfl)
theorem d123_102 : decode (mt 123).2.1 102 = .ok (.aload_n 0, 1) := by decide +kernel
theorem s123_102 {a1 a2 a3 : Option AV} {st : List AV} {m : MM} {x : Nat × Option Nat} : go 123 102 [some (.inr (.inr x)), a1, a2, a3] st m = go 123 103 [some (.inr (.inr x)), a1, a2, a3] (.inr (.inr x) :: st) m := e_1 d123_102 (Or.inl rfl) rfl
theorem d123_103 : decode (mt 123).2.1 103 = .ok (.getfield 48, 3) := by decide +kernel
theorem s123_103 {ls : LV} {st : List AV} {m : MM} {n : Nat} : go 123 103 ls (.inr (.inr (8, some n)) :: st) m = go 123 106 ls (.inr (.inr (30, mR m 8 n 13)) :: st) m := e_1 d123_103 (Or.inl rfl) (by rw [xi, pA, show lk fdL (mt 123).2.2.1 48 = some (8, 13) by decide +kernel]; rfl)
theorem d123_106 : decode (mt 123).2.1 106 = .ok (.iload_n 3, 1) := by decide +kernel
theorem s123_106 {a0 a1 a2 : Option AV} {st : List AV} {m : MM} {x : Int32} : go 123 106 [a0, a1, a2, some (.inl x)] st m = go 123 107 [a0, a1, a2, some (.inl x)] (.inl x :: st) m := e_1 d123_106 (Or.inl rfl) rfl
theorem d123_107 : decode (mt 123).2.1 107 = .ok (.laload, 1) := by decide +kernel
theorem s123_107 {ls : LV} {st : List AV} {m : MM} {n : Nat} {i : Int32} : go 123 107 ls (.inl i :: .inr (.inr (30, some n)) :: st) m = ixk (ix i (mN m 30 n)) (fun j => go 123 108 ls (.inr (.inl (mL m 30 n j)) :: st) m) := e_ald d123_107 (fun j hj => by simp only [xi, pI, pA, hj, Option.bind_some]; rfl) (fun hj => by simp only [xi, pI, pA, hj, Option.bind_none])
theorem d123_108 : decode (mt 123).2.1 108 = .ok (.lastore, 1) := by decide +kernel
theorem s123_108 {ls : LV} {st : List AV} {m : MM} {n : Nat} {i : Int32} {x : Int64} : go 123 108 ls (.inr (.inl x) :: .inl i :: .inr (.inr (42, some n)) :: st) m = ixk (ix i (mN m 42 n)) (fun j => go 123 109 ls st (sL m 42 n j x)) := e_ald d123_108 (fun j hj => by simp only [xi, pI, pL, pR, pA, hj, Option.bind_some]; exact if_pos rfl) (fun hj => by simp only [xi, pI, pL, pR, pA, hj, Option.bind_none])
theorem d123_109 : decode (mt 123).2.1 109 = .ok (.aload_n 0, 1) := by decide +kernel
theorem s123_109 {a1 a2 a3 : Option AV} {st : List AV} {m : MM} {x : Nat × Option Nat} : go 123 109 [some (.inr (.inr x)), a1, a2, a3] st m = go 123 110 [some (.inr (.inr x)), a1, a2, a3] (.inr (.inr x) :: st) m := e_1 d123_109 (Or.inl rfl) rfl
theorem d123_110 : decode (mt 123).2.1 110 = .ok (.iload_n 1, 1) := by decide +kernel
theorem s123_110 {a0 a2 a3 : Option AV} {st : List AV} {m : MM} {x : Int32} : go 123 110 [a0, some (.inl x), a2, a3] st m = go 123 111 [a0, some (.inl x), a2, a3] (.inl x :: st) m := e_1 d123_110 (Or.inl rfl) rfl
theorem d123_111 : decode (mt 123).2.1 111 = .ok (.iload_n 3, 1) := by decide +kernel
theorem s123_111 {a0 a1 a2 : Option AV} {st : List AV} {m : MM} {x : Int32} : go 123 111 [a0, a1, a2, some (.inl x)] st m = go 123 112 [a0, a1, a2, some (.inl x)] (.inl x :: st) m := e_1 d123_111 (Or.inl rfl) rfl
theorem d123_112 : decode (mt 123).2.1 112 = .ok (.bipush (-4), 2) := by decide +kernel
theorem s123_112 {ls : LV} {st : List AV} {m : MM} : go 123 112 ls st m = go 123 114 ls (.inl (-4) :: st) m := e_1 d123_112 (Or.inl rfl) rfl
theorem d123_114 : decode (mt 123).2.1 114 = .ok (.if_icmp .ne 8, 3) := by decide +kernel
theorem s123_114 {ls : LV} {st : List AV} {m : MM} {a b : Int32} : go 123 114 ls (.inl b :: .inl a :: st) m = if ¬ a = b then go 123 122 ls st m else go 123 117 ls st m := e_if (t := 122) (b := hc .ne a b) d123_114 (Or.inl rfl) (by simp only [xi, pI, jm_some (t := 122) (show ((114 : Nat) : Int) + 8 = ((122 : Nat) : Int) by decide), Option.bind_some]) (by simp [hc])
theorem d123_117 : decode (mt 123).2.1 117 = .ok (.bipush (-4), 2) := by decide +kernel
theorem s123_117 {ls : LV} {st : List AV} {m : MM} : go 123 117 ls st m = go 123 119 ls (.inl (-4) :: st) m := e_1 d123_117 (Or.inl rfl) rfl
theorem d123_119 : decode (mt 123).2.1 119 = .ok (.goto 4, 3) := by decide +kernel
theorem s123_119 {ls : LV} {st : List AV} {m : MM} : go 123 119 ls st m = go 123 123 ls st m := e_1 d123_119 (Or.inl rfl) (by rw [xi, jm_some (t := 123) (by decide)]; rfl)
theorem d123_122 : decode (mt 123).2.1 122 = .ok (.iconst 1, 1) := by decide +kernel
theorem s123_122 {ls : LV} {st : List AV} {m : MM} : go 123 122 ls st m = go 123 123 ls (.inl 1 :: st) m := e_1 d123_122 (Or.inl rfl) rfl
theorem d123_123 : decode (mt 123).2.1 123 = .ok (.invokevirtual 156, 3) := by decide +kernel
theorem s123_123 {ls : LV} {m : MM} {x0 : Int32} {x1 : Int32} {n : Nat} : go 123 123 ls [.inl x1, .inl x0, .inr (.inr (8, some n))] m = bd (go 118 0 [some (.inr (.inr (8, some n))), some (.inl x0), some (.inl x1)] [] m) (fun v m2 => go 123 126 ls (v.toList ++ []) m2) := e_virt (y1 := 118) (na := 2) (as := [.inl x0, .inl x1]) (rest := []) d123_123 (by decide +kernel) rfl (by decide +kernel) (show (ent [.inr (.inr (8, some n)), .inl x0, .inl x1]).length ≤ (mt 118).2.2.2.1 from Nat.le_of_ble_eq_true rfl) (cats_le (Nat.le_of_ble_eq_true rfl)) (by decide +kernel)
theorem d123_126 : decode (mt 123).2.1 126 = .ok (.goto 139, 3) := by decide +kernel
theorem s123_126 {ls : LV} {st : List AV} {m : MM} : go 123 126 ls st m = go 123 265 ls st m := e_1 d123_126 (Or.inl rfl) (by rw [xi, jm_some (t := 265) (by decide)]; rfl)
theorem d123_129 : decode (mt 123).2.1 129 = .ok (.aload_n 0, 1) := by decide +kernel
theorem s123_129 {a1 a2 a3 : Option AV} {st : List AV} {m : MM} {x : Nat × Option Nat} : go 123 129 [some (.inr (.inr x)), a1, a2, a3] st m = go 123 130 [some (.inr (.inr x)), a1, a2, a3] (.inr (.inr x) :: st) m := e_1 d123_129 (Or.inl rfl) rfl
theorem d123_130 : decode (mt 123).2.1 130 = .ok (.getfield 76, 3) := by decide +kernel
theorem s123_130 {ls : LV} {st : List AV} {m : MM} {n : Nat} : go 123 130 ls (.inr (.inr (8, some n)) :: st) m = go 123 133 ls (.inr (.inr (39, mR m 8 n 26)) :: st) m := e_1 d123_130 (Or.inl rfl) (by rw [xi, pA, show lk fdL (mt 123).2.2.1 76 = some (8, 26) by decide +kernel]; rfl)
theorem d123_133 : decode (mt 123).2.1 133 = .ok (.iload_n 1, 1) := by decide +kernel
theorem s123_133 {a0 a2 a3 : Option AV} {st : List AV} {m : MM} {x : Int32} : go 123 133 [a0, some (.inl x), a2, a3] st m = go 123 134 [a0, some (.inl x), a2, a3] (.inl x :: st) m := e_1 d123_133 (Or.inl rfl) rfl
theorem d123_134 : decode (mt 123).2.1 134 = .ok (.iconst 1, 1) := by decide +kernel
theorem s123_134 {ls : LV} {st : List AV} {m : MM} : go 123 134 ls st m = go 123 135 ls (.inl 1 :: st) m := e_1 d123_134 (Or.inl rfl) rfl
theorem d123_135 : decode (mt 123).2.1 135 = .ok (.bastore, 1) := by decide +kernel
theorem s123_135b0 {ls : LV} {st : List AV} {m : MM} {n : Nat} {i : Int32} : go 123 135 ls (.inl 0 :: .inl i :: .inr (.inr (39, some n)) :: st) m = ixk (ix i (mN m 39 n)) (fun j => go 123 136 ls st (sI m 39 n j 0)) := e_ald d123_135 (fun j hj => by simp only [xi, pI, pL, pR, pA, hj, Option.bind_some]; exact if_pos (Or.inl ⟨rfl, by decide⟩)) (fun hj => by simp only [xi, pI, pL, pR, pA, hj, Option.bind_none])
theorem s123_135b1 {ls : LV} {st : List AV} {m : MM} {n : Nat} {i : Int32} : go 123 135 ls (.inl 1 :: .inl i :: .inr (.inr (39, some n)) :: st) m = ixk (ix i (mN m 39 n)) (fun j => go 123 136 ls st (sI m 39 n j 1)) := e_ald d123_135 (fun j hj => by simp only [xi, pI, pL, pR, pA, hj, Option.bind_some]; exact if_pos (Or.inl ⟨rfl, by decide⟩)) (fun hj => by simp only [xi, pI, pL, pR, pA, hj, Option.bind_none])
theorem d123_136 : decode (mt 123).2.1 136 = .ok (.aload_n 0, 1) := by decide +kernel
theorem s123_136 {a1 a2 a3 : Option AV} {st : List AV} {m : MM} {x : Nat × Option Nat} : go 123 136 [some (.inr (.inr x)), a1, a2, a3] st m = go 123 137 [some (.inr (.inr x)), a1, a2, a3] (.inr (.inr x) :: st) m := e_1 d123_136 (Or.inl rfl) rfl
theorem d123_137 : decode (mt 123).2.1 137 = .ok (.getfield 13, 3) := by decide +kernel
theorem s123_137 {ls : LV} {st : List AV} {m : MM} {n : Nat} : go 123 137 ls (.inr (.inr (8, some n)) :: st) m = go 123 140 ls (.inr (.inr (19, mR m 8 n 2)) :: st) m := e_1 d123_137 (Or.inl rfl) (by rw [xi, pA, show lk fdL (mt 123).2.2.1 13 = some (8, 2) by decide +kernel]; rfl)
theorem d123_140 : decode (mt 123).2.1 140 = .ok (.iload_n 2, 1) := by decide +kernel
theorem s123_140 {a0 a1 a3 : Option AV} {st : List AV} {m : MM} {x : Int32} : go 123 140 [a0, a1, some (.inl x), a3] st m = go 123 141 [a0, a1, some (.inl x), a3] (.inl x :: st) m := e_1 d123_140 (Or.inl rfl) rfl
theorem d123_141 : decode (mt 123).2.1 141 = .ok (.iaload, 1) := by decide +kernel
theorem s123_141 {ls : LV} {st : List AV} {m : MM} {n : Nat} {i : Int32} : go 123 141 ls (.inl i :: .inr (.inr (19, some n)) :: st) m = ixk (ix i (mN m 19 n)) (fun j => go 123 142 ls (.inl (mI m 19 n j) :: st) m) := e_ald d123_141 (fun j hj => by simp only [xi, pI, pA, hj, Option.bind_some]; rfl) (fun hj => by simp only [xi, pI, pA, hj, Option.bind_none])
theorem d123_142 : decode (mt 123).2.1 142 = .ok (.aload_n 0, 1) := by decide +kernel
theorem s123_142 {a1 a2 a3 : Option AV} {st : List AV} {m : MM} {x : Nat × Option Nat} : go 123 142 [some (.inr (.inr x)), a1, a2, a3] st m = go 123 143 [some (.inr (.inr x)), a1, a2, a3] (.inr (.inr x) :: st) m := e_1 d123_142 (Or.inl rfl) rfl
theorem d123_143 : decode (mt 123).2.1 143 = .ok (.getfield 79, 3) := by decide +kernel
theorem s123_143 {ls : LV} {st : List AV} {m : MM} {n : Nat} : go 123 143 ls (.inr (.inr (8, some n)) :: st) m = go 123 146 ls (.inr (.inr (40, mR m 8 n 27)) :: st) m := e_1 d123_143 (Or.inl rfl) (by rw [xi, pA, show lk fdL (mt 123).2.2.1 79 = some (8, 27) by decide +kernel]; rfl)
theorem d123_146 : decode (mt 123).2.1 146 = .ok (.iload_n 1, 1) := by decide +kernel
theorem s123_146 {a0 a2 a3 : Option AV} {st : List AV} {m : MM} {x : Int32} : go 123 146 [a0, some (.inl x), a2, a3] st m = go 123 147 [a0, some (.inl x), a2, a3] (.inl x :: st) m := e_1 d123_146 (Or.inl rfl) rfl
theorem d123_147 : decode (mt 123).2.1 147 = .ok (.iaload, 1) := by decide +kernel
theorem s123_147 {ls : LV} {st : List AV} {m : MM} {n : Nat} {i : Int32} : go 123 147 ls (.inl i :: .inr (.inr (40, some n)) :: st) m = ixk (ix i (mN m 40 n)) (fun j => go 123 148 ls (.inl (mI m 40 n j) :: st) m) := e_ald d123_147 (fun j hj => by simp only [xi, pI, pA, hj, Option.bind_some]; rfl) (fun hj => by simp only [xi, pI, pA, hj, Option.bind_none])
theorem d123_148 : decode (mt 123).2.1 148 = .ok (.if_icmp .lt 56, 3) := by decide +kernel
theorem s123_148 {ls : LV} {st : List AV} {m : MM} {a b : Int32} : go 123 148 ls (.inl b :: .inl a :: st) m = if a < b then go 123 204 ls st m else go 123 151 ls st m := e_if (t := 204) (b := hc .lt a b) d123_148 (Or.inl rfl) (by simp only [xi, pI, jm_some (t := 204) (show ((148 : Nat) : Int) + 56 = ((204 : Nat) : Int) by decide), Option.bind_some]) (by simp [hc])
theorem d123_151 : decode (mt 123).2.1 151 = .ok (.aload_n 0, 1) := by decide +kernel
theorem s123_151 {a1 a2 a3 : Option AV} {st : List AV} {m : MM} {x : Nat × Option Nat} : go 123 151 [some (.inr (.inr x)), a1, a2, a3] st m = go 123 152 [some (.inr (.inr x)), a1, a2, a3] (.inr (.inr x) :: st) m := e_1 d123_151 (Or.inl rfl) rfl
theorem d123_152 : decode (mt 123).2.1 152 = .ok (.getfield 13, 3) := by decide +kernel
theorem s123_152 {ls : LV} {st : List AV} {m : MM} {n : Nat} : go 123 152 ls (.inr (.inr (8, some n)) :: st) m = go 123 155 ls (.inr (.inr (19, mR m 8 n 2)) :: st) m := e_1 d123_152 (Or.inl rfl) (by rw [xi, pA, show lk fdL (mt 123).2.2.1 13 = some (8, 2) by decide +kernel]; rfl)
theorem d123_155 : decode (mt 123).2.1 155 = .ok (.iload_n 2, 1) := by decide +kernel
theorem s123_155 {a0 a1 a3 : Option AV} {st : List AV} {m : MM} {x : Int32} : go 123 155 [a0, a1, some (.inl x), a3] st m = go 123 156 [a0, a1, some (.inl x), a3] (.inl x :: st) m := e_1 d123_155 (Or.inl rfl) rfl
theorem d123_156 : decode (mt 123).2.1 156 = .ok (.iaload, 1) := by decide +kernel
theorem s123_156 {ls : LV} {st : List AV} {m : MM} {n : Nat} {i : Int32} : go 123 156 ls (.inl i :: .inr (.inr (19, some n)) :: st) m = ixk (ix i (mN m 19 n)) (fun j => go 123 157 ls (.inl (mI m 19 n j) :: st) m) := e_ald d123_156 (fun j hj => by simp only [xi, pI, pA, hj, Option.bind_some]; rfl) (fun hj => by simp only [xi, pI, pA, hj, Option.bind_none])
theorem d123_157 : decode (mt 123).2.1 157 = .ok (.aload_n 0, 1) := by decide +kernel
theorem s123_157 {a1 a2 a3 : Option AV} {st : List AV} {m : MM} {x : Nat × Option Nat} : go 123 157 [some (.inr (.inr x)), a1, a2, a3] st m = go 123 158 [some (.inr (.inr x)), a1, a2, a3] (.inr (.inr x) :: st) m := e_1 d123_157 (Or.inl rfl) rfl
theorem d123_158 : decode (mt 123).2.1 158 = .ok (.getfield 82, 3) := by decide +kernel
theorem s123_158 {ls : LV} {st : List AV} {m : MM} {n : Nat} : go 123 158 ls (.inr (.inr (8, some n)) :: st) m = go 123 161 ls (.inr (.inr (41, mR m 8 n 28)) :: st) m := e_1 d123_158 (Or.inl rfl) (by rw [xi, pA, show lk fdL (mt 123).2.2.1 82 = some (8, 28) by decide +kernel]; rfl)
theorem d123_161 : decode (mt 123).2.1 161 = .ok (.iload_n 1, 1) := by decide +kernel
theorem s123_161 {a0 a2 a3 : Option AV} {st : List AV} {m : MM} {x : Int32} : go 123 161 [a0, some (.inl x), a2, a3] st m = go 123 162 [a0, some (.inl x), a2, a3] (.inl x :: st) m := e_1 d123_161 (Or.inl rfl) rfl
theorem d123_162 : decode (mt 123).2.1 162 = .ok (.iaload, 1) := by decide +kernel
theorem s123_162 {ls : LV} {st : List AV} {m : MM} {n : Nat} {i : Int32} : go 123 162 ls (.inl i :: .inr (.inr (41, some n)) :: st) m = ixk (ix i (mN m 41 n)) (fun j => go 123 163 ls (.inl (mI m 41 n j) :: st) m) := e_ald d123_162 (fun j hj => by simp only [xi, pI, pA, hj, Option.bind_some]; rfl) (fun hj => by simp only [xi, pI, pA, hj, Option.bind_none])
theorem d123_163 : decode (mt 123).2.1 163 = .ok (.if_icmp .gt 41, 3) := by decide +kernel
theorem s123_163 {ls : LV} {st : List AV} {m : MM} {a b : Int32} : go 123 163 ls (.inl b :: .inl a :: st) m = if b < a then go 123 204 ls st m else go 123 166 ls st m := e_if (t := 204) (b := hc .gt a b) d123_163 (Or.inl rfl) (by simp only [xi, pI, jm_some (t := 204) (show ((163 : Nat) : Int) + 41 = ((204 : Nat) : Int) by decide), Option.bind_some]) (by simp [hc])
theorem d123_166 : decode (mt 123).2.1 166 = .ok (.aload_n 0, 1) := by decide +kernel
theorem s123_166 {a1 a2 a3 : Option AV} {st : List AV} {m : MM} {x : Nat × Option Nat} : go 123 166 [some (.inr (.inr x)), a1, a2, a3] st m = go 123 167 [some (.inr (.inr x)), a1, a2, a3] (.inr (.inr x) :: st) m := e_1 d123_166 (Or.inl rfl) rfl
theorem d123_167 : decode (mt 123).2.1 167 = .ok (.getfield 73, 3) := by decide +kernel
theorem s123_167 {ls : LV} {st : List AV} {m : MM} {n : Nat} : go 123 167 ls (.inr (.inr (8, some n)) :: st) m = go 123 170 ls (.inr (.inr (38, mR m 8 n 25)) :: st) m := e_1 d123_167 (Or.inl rfl) (by rw [xi, pA, show lk fdL (mt 123).2.2.1 73 = some (8, 25) by decide +kernel]; rfl)
theorem d123_170 : decode (mt 123).2.1 170 = .ok (.iload_n 1, 1) := by decide +kernel
theorem s123_170 {a0 a2 a3 : Option AV} {st : List AV} {m : MM} {x : Int32} : go 123 170 [a0, some (.inl x), a2, a3] st m = go 123 171 [a0, some (.inl x), a2, a3] (.inl x :: st) m := e_1 d123_170 (Or.inl rfl) rfl
theorem d123_171 : decode (mt 123).2.1 171 = .ok (.iaload, 1) := by decide +kernel
theorem s123_171 {ls : LV} {st : List AV} {m : MM} {n : Nat} {i : Int32} : go 123 171 ls (.inl i :: .inr (.inr (38, some n)) :: st) m = ixk (ix i (mN m 38 n)) (fun j => go 123 172 ls (.inl (mI m 38 n j) :: st) m) := e_ald d123_171 (fun j hj => by simp only [xi, pI, pA, hj, Option.bind_some]; rfl) (fun hj => by simp only [xi, pI, pA, hj, Option.bind_none])
theorem d123_172 : decode (mt 123).2.1 172 = .ok (.bipush 40, 2) := by decide +kernel
theorem s123_172 {ls : LV} {st : List AV} {m : MM} : go 123 172 ls st m = go 123 174 ls (.inl 40 :: st) m := e_1 d123_172 (Or.inl rfl) rfl
theorem d123_174 : decode (mt 123).2.1 174 = .ok (.if_icmp .ge 20, 3) := by decide +kernel
theorem s123_174 {ls : LV} {st : List AV} {m : MM} {a b : Int32} : go 123 174 ls (.inl b :: .inl a :: st) m = if b ≤ a then go 123 194 ls st m else go 123 177 ls st m := e_if (t := 194) (b := hc .ge a b) d123_174 (Or.inl rfl) (by simp only [xi, pI, jm_some (t := 194) (show ((174 : Nat) : Int) + 20 = ((194 : Nat) : Int) by decide), Option.bind_some]) (by simp [hc])
theorem d123_177 : decode (mt 123).2.1 177 = .ok (.aload_n 0, 1) := by decide +kernel
theorem s123_177 {a1 a2 a3 : Option AV} {st : List AV} {m : MM} {x : Nat × Option Nat} : go 123 177 [some (.inr (.inr x)), a1, a2, a3] st m = go 123 178 [some (.inr (.inr x)), a1, a2, a3] (.inr (.inr x) :: st) m := e_1 d123_177 (Or.inl rfl) rfl
theorem d123_178 : decode (mt 123).2.1 178 = .ok (.getfield 70, 3) := by decide +kernel
theorem s123_178 {ls : LV} {st : List AV} {m : MM} {n : Nat} : go 123 178 ls (.inr (.inr (8, some n)) :: st) m = go 123 181 ls (.inr (.inr (37, mR m 8 n 24)) :: st) m := e_1 d123_178 (Or.inl rfl) (by rw [xi, pA, show lk fdL (mt 123).2.2.1 70 = some (8, 24) by decide +kernel]; rfl)
theorem d123_181 : decode (mt 123).2.1 181 = .ok (.bipush 40, 2) := by decide +kernel
theorem s123_181 {ls : LV} {st : List AV} {m : MM} : go 123 181 ls st m = go 123 183 ls (.inl 40 :: st) m := e_1 d123_181 (Or.inl rfl) rfl
theorem d123_183 : decode (mt 123).2.1 183 = .ok (.iload_n 1, 1) := by decide +kernel
theorem s123_183 {a0 a2 a3 : Option AV} {st : List AV} {m : MM} {x : Int32} : go 123 183 [a0, some (.inl x), a2, a3] st m = go 123 184 [a0, some (.inl x), a2, a3] (.inl x :: st) m := e_1 d123_183 (Or.inl rfl) rfl
theorem d123_184 : decode (mt 123).2.1 184 = .ok (.imul, 1) := by decide +kernel
theorem s123_184 {ls : LV} {st : List AV} {m : MM} {a b : Int32} : go 123 184 ls (.inl b :: .inl a :: st) m = go 123 185 ls (.inl (a * b) :: st) m := e_1 d123_184 (Or.inl rfl) rfl
theorem d123_185 : decode (mt 123).2.1 185 = .ok (.aload_n 0, 1) := by decide +kernel
theorem s123_185 {a1 a2 a3 : Option AV} {st : List AV} {m : MM} {x : Nat × Option Nat} : go 123 185 [some (.inr (.inr x)), a1, a2, a3] st m = go 123 186 [some (.inr (.inr x)), a1, a2, a3] (.inr (.inr x) :: st) m := e_1 d123_185 (Or.inl rfl) rfl
theorem d123_186 : decode (mt 123).2.1 186 = .ok (.getfield 73, 3) := by decide +kernel
theorem s123_186 {ls : LV} {st : List AV} {m : MM} {n : Nat} : go 123 186 ls (.inr (.inr (8, some n)) :: st) m = go 123 189 ls (.inr (.inr (38, mR m 8 n 25)) :: st) m := e_1 d123_186 (Or.inl rfl) (by rw [xi, pA, show lk fdL (mt 123).2.2.1 73 = some (8, 25) by decide +kernel]; rfl)
theorem d123_189 : decode (mt 123).2.1 189 = .ok (.iload_n 1, 1) := by decide +kernel
theorem s123_189 {a0 a2 a3 : Option AV} {st : List AV} {m : MM} {x : Int32} : go 123 189 [a0, some (.inl x), a2, a3] st m = go 123 190 [a0, some (.inl x), a2, a3] (.inl x :: st) m := e_1 d123_189 (Or.inl rfl) rfl
theorem d123_190 : decode (mt 123).2.1 190 = .ok (.iaload, 1) := by decide +kernel
theorem s123_190 {ls : LV} {st : List AV} {m : MM} {n : Nat} {i : Int32} : go 123 190 ls (.inl i :: .inr (.inr (38, some n)) :: st) m = ixk (ix i (mN m 38 n)) (fun j => go 123 191 ls (.inl (mI m 38 n j) :: st) m) := e_ald d123_190 (fun j hj => by simp only [xi, pI, pA, hj, Option.bind_some]; rfl) (fun hj => by simp only [xi, pI, pA, hj, Option.bind_none])
theorem d123_191 : decode (mt 123).2.1 191 = .ok (.iadd, 1) := by decide +kernel
theorem s123_191 {ls : LV} {st : List AV} {m : MM} {a b : Int32} : go 123 191 ls (.inl b :: .inl a :: st) m = go 123 192 ls (.inl (a + b) :: st) m := e_1 d123_191 (Or.inl rfl) rfl
theorem d123_192 : decode (mt 123).2.1 192 = .ok (.iload_n 2, 1) := by decide +kernel
theorem s123_192 {a0 a1 a3 : Option AV} {st : List AV} {m : MM} {x : Int32} : go 123 192 [a0, a1, some (.inl x), a3] st m = go 123 193 [a0, a1, some (.inl x), a3] (.inl x :: st) m := e_1 d123_192 (Or.inl rfl) rfl
theorem d123_193 : decode (mt 123).2.1 193 = .ok (.iastore, 1) := by decide +kernel
theorem s123_193 {ls : LV} {st : List AV} {m : MM} {n : Nat} {i : Int32} {x : Int32} : go 123 193 ls (.inl x :: .inl i :: .inr (.inr (37, some n)) :: st) m = ixk (ix i (mN m 37 n)) (fun j => go 123 194 ls st (sI m 37 n j x)) := e_ald d123_193 (fun j hj => by simp only [xi, pI, pL, pR, pA, hj, Option.bind_some]; exact if_pos ⟨rfl, by decide⟩) (fun hj => by simp only [xi, pI, pL, pR, pA, hj, Option.bind_none])
theorem d123_194 : decode (mt 123).2.1 194 = .ok (.aload_n 0, 1) := by decide +kernel
theorem s123_194 {a1 a2 a3 : Option AV} {st : List AV} {m : MM} {x : Nat × Option Nat} : go 123 194 [some (.inr (.inr x)), a1, a2, a3] st m = go 123 195 [some (.inr (.inr x)), a1, a2, a3] (.inr (.inr x) :: st) m := e_1 d123_194 (Or.inl rfl) rfl
theorem d123_195 : decode (mt 123).2.1 195 = .ok (.getfield 73, 3) := by decide +kernel
theorem s123_195 {ls : LV} {st : List AV} {m : MM} {n : Nat} : go 123 195 ls (.inr (.inr (8, some n)) :: st) m = go 123 198 ls (.inr (.inr (38, mR m 8 n 25)) :: st) m := e_1 d123_195 (Or.inl rfl) (by rw [xi, pA, show lk fdL (mt 123).2.2.1 73 = some (8, 25) by decide +kernel]; rfl)
theorem d123_198 : decode (mt 123).2.1 198 = .ok (.iload_n 1, 1) := by decide +kernel
theorem s123_198 {a0 a2 a3 : Option AV} {st : List AV} {m : MM} {x : Int32} : go 123 198 [a0, some (.inl x), a2, a3] st m = go 123 199 [a0, some (.inl x), a2, a3] (.inl x :: st) m := e_1 d123_198 (Or.inl rfl) rfl
theorem d123_199 : decode (mt 123).2.1 199 = .ok (.dup2, 1) := by decide +kernel
theorem s123_199 {ls : LV} {st : List AV} {m : MM} {i : Int32} {x : Nat × Option Nat} : go 123 199 ls (.inl i :: .inr (.inr x) :: st) m = go 123 200 ls (.inl i :: .inr (.inr x) :: .inl i :: .inr (.inr x) :: st) m := e_1 d123_199 (Or.inl rfl) rfl
theorem d123_200 : decode (mt 123).2.1 200 = .ok (.iaload, 1) := by decide +kernel
theorem s123_200 {ls : LV} {st : List AV} {m : MM} {n : Nat} {i : Int32} : go 123 200 ls (.inl i :: .inr (.inr (38, some n)) :: st) m = ixk (ix i (mN m 38 n)) (fun j => go 123 201 ls (.inl (mI m 38 n j) :: st) m) := e_ald d123_200 (fun j hj => by simp only [xi, pI, pA, hj, Option.bind_some]; rfl) (fun hj => by simp only [xi, pI, pA, hj, Option.bind_none])
theorem d123_201 : decode (mt 123).2.1 201 = .ok (.iconst 1, 1) := by decide +kernel
theorem s123_201 {ls : LV} {st : List AV} {m : MM} : go 123 201 ls st m = go 123 202 ls (.inl 1 :: st) m := e_1 d123_201 (Or.inl rfl) rfl
theorem d123_202 : decode (mt 123).2.1 202 = .ok (.iadd, 1) := by decide +kernel
theorem s123_202 {ls : LV} {st : List AV} {m : MM} {a b : Int32} : go 123 202 ls (.inl b :: .inl a :: st) m = go 123 203 ls (.inl (a + b) :: st) m := e_1 d123_202 (Or.inl rfl) rfl
theorem d123_203 : decode (mt 123).2.1 203 = .ok (.iastore, 1) := by decide +kernel
theorem s123_203 {ls : LV} {st : List AV} {m : MM} {n : Nat} {i : Int32} {x : Int32} : go 123 203 ls (.inl x :: .inl i :: .inr (.inr (38, some n)) :: st) m = ixk (ix i (mN m 38 n)) (fun j => go 123 204 ls st (sI m 38 n j x)) := e_ald d123_203 (fun j hj => by simp only [xi, pI, pL, pR, pA, hj, Option.bind_some]; exact if_pos ⟨rfl, by decide⟩) (fun hj => by simp only [xi, pI, pL, pR, pA, hj, Option.bind_none])
theorem d123_204 : decode (mt 123).2.1 204 = .ok (.aload_n 0, 1) := by decide +kernel
theorem s123_204 {a1 a2 a3 : Option AV} {st : List AV} {m : MM} {x : Nat × Option Nat} : go 123 204 [some (.inr (.inr x)), a1, a2, a3] st m = go 123 205 [some (.inr (.inr x)), a1, a2, a3] (.inr (.inr x) :: st) m := e_1 d123_204 (Or.inl rfl) rfl
theorem d123_205 : decode (mt 123).2.1 205 = .ok (.iload_n 2, 1) := by decide +kernel
theorem s123_205 {a0 a1 a3 : Option AV} {st : List AV} {m : MM} {x : Int32} : go 123 205 [a0, a1, some (.inl x), a3] st m = go 123 206 [a0, a1, some (.inl x), a3] (.inl x :: st) m := e_1 d123_205 (Or.inl rfl) rfl
theorem d123_206 : decode (mt 123).2.1 206 = .ok (.iconst 0, 1) := by decide +kernel
theorem s123_206 {ls : LV} {st : List AV} {m : MM} : go 123 206 ls st m = go 123 207 ls (.inl 0 :: st) m := e_1 d123_206 (Or.inl rfl) rfl
theorem d123_207 : decode (mt 123).2.1 207 = .ok (.invokevirtual 143, 3) := by decide +kernel
theorem s123_207 {ls : LV} {m : MM} {x0 : Int32} {x1 : Int32} {n : Nat} : go 123 207 ls [.inl x1, .inl x0, .inr (.inr (8, some n))] m = bd (go 113 0 [some (.inr (.inr (8, some n))), some (.inl x0), some (.inl x1)] [] m) (fun v m2 => go 123 210 ls (v.toList ++ []) m2) := e_virt (y1 := 113) (na := 2) (as := [.inl x0, .inl x1]) (rest := []) d123_207 (by decide +kernel) rfl (by decide +kernel) (show (ent [.inr (.inr (8, some n)), .inl x0, .inl x1]).length ≤ (mt 113).2.2.2.1 from Nat.le_of_ble_eq_true rfl) (cats_le (Nat.le_of_ble_eq_true rfl)) (by decide +kernel)
theorem d123_210 : decode (mt 123).2.1 210 = .ok (.istore_n 3, 1) := by decide +kernel
theorem s123_210i {a0 a1 a3 : Option AV} {z : Int32} {st : List AV} {m : MM} {x : Int32} : go 123 210 [a0, a1, some (.inl z), a3] (.inl x :: st) m = go 123 211 [a0, a1, some (.inl z), some (.inl x)] st m := e_1 d123_210 (Or.inl rfl) rfl
theorem s123_210r {a0 a1 a3 : Option AV} {z : Nat × Option Nat} {st : List AV} {m : MM} {x : Int32} : go 123 210 [a0, a1, some (.inr (.inr z)), a3] (.inl x :: st) m = go 123 211 [a0, a1, some (.inr (.inr z)), some (.inl x)] st m := e_1 d123_210 (Or.inl rfl) rfl
theorem s123_210n {a0 a1 a3 : Option AV} {st : List AV} {m : MM} {x : Int32} : go 123 210 [a0, a1, none, a3] (.inl x :: st) m = go 123 211 [a0, a1, none, some (.inl x)] st m := e_1 d123_210 (Or.inl rfl) rfl
theorem d123_211 : decode (mt 123).2.1 211 = .ok (.iload_n 3, 1) := by decide +kernel
theorem s123_211 {a0 a1 a2 : Option AV} {st : List AV} {m : MM} {x : Int32} : go 123 211 [a0, a1, a2, some (.inl x)] st m = go 123 212 [a0, a1, a2, some (.inl x)] (.inl x :: st) m := e_1 d123_211 (Or.inl rfl) rfl
theorem d123_212 : decode (mt 123).2.1 212 = .ok (.bipush (-4), 2) := by decide +kernel
theorem s123_212 {ls : LV} {st : List AV} {m : MM} : go 123 212 ls st m = go 123 214 ls (.inl (-4) :: st) m := e_1 d123_212 (Or.inl rfl) rfl
theorem d123_214 : decode (mt 123).2.1 214 = .ok (.if_icmp .eq 40, 3) := by decide +kernel
theorem s123_214 {ls : LV} {st : List AV} {m : MM} {a b : Int32} : go 123 214 ls (.inl b :: .inl a :: st) m = if a = b then go 123 254 ls st m else go 123 217 ls st m := e_if (t := 254) (b := hc .eq a b) d123_214 (Or.inl rfl) (by simp only [xi, pI, jm_some (t := 254) (show ((214 : Nat) : Int) + 40 = ((254 : Nat) : Int) by decide), Option.bind_some]) (by simp [hc])
theorem d123_217 : decode (mt 123).2.1 217 = .ok (.aload_n 0, 1) := by decide +kernel
theorem s123_217 {a1 a2 a3 : Option AV} {st : List AV} {m : MM} {x : Nat × Option Nat} : go 123 217 [some (.inr (.inr x)), a1, a2, a3] st m = go 123 218 [some (.inr (.inr x)), a1, a2, a3] (.inr (.inr x) :: st) m := e_1 d123_217 (Or.inl rfl) rfl
theorem d123_218 : decode (mt 123).2.1 218 = .ok (.getfield 13, 3) := by decide +kernel
theorem s123_218 {ls : LV} {st : List AV} {m : MM} {n : Nat} : go 123 218 ls (.inr (.inr (8, some n)) :: st) m = go 123 221 ls (.inr (.inr (19, mR m 8 n 2)) :: st) m := e_1 d123_218 (Or.inl rfl) (by rw [xi, pA, show lk fdL (mt 123).2.2.1 13 = some (8, 2) by decide +kernel]; rfl)
theorem d123_221 : decode (mt 123).2.1 221 = .ok (.iload_n 3, 1) := by decide +kernel
theorem s123_221 {a0 a1 a2 : Option AV} {st : List AV} {m : MM} {x : Int32} : go 123 221 [a0, a1, a2, some (.inl x)] st m = go 123 222 [a0, a1, a2, some (.inl x)] (.inl x :: st) m := e_1 d123_221 (Or.inl rfl) rfl
theorem d123_222 : decode (mt 123).2.1 222 = .ok (.iaload, 1) := by decide +kernel
theorem s123_222 {ls : LV} {st : List AV} {m : MM} {n : Nat} {i : Int32} : go 123 222 ls (.inl i :: .inr (.inr (19, some n)) :: st) m = ixk (ix i (mN m 19 n)) (fun j => go 123 223 ls (.inl (mI m 19 n j) :: st) m) := e_ald d123_222 (fun j hj => by simp only [xi, pI, pA, hj, Option.bind_some]; rfl) (fun hj => by simp only [xi, pI, pA, hj, Option.bind_none])
theorem d123_223 : decode (mt 123).2.1 223 = .ok (.aload_n 0, 1) := by decide +kernel
theorem s123_223 {a1 a2 a3 : Option AV} {st : List AV} {m : MM} {x : Nat × Option Nat} : go 123 223 [some (.inr (.inr x)), a1, a2, a3] st m = go 123 224 [some (.inr (.inr x)), a1, a2, a3] (.inr (.inr x) :: st) m := e_1 d123_223 (Or.inl rfl) rfl
theorem d123_224 : decode (mt 123).2.1 224 = .ok (.getfield 82, 3) := by decide +kernel
theorem s123_224 {ls : LV} {st : List AV} {m : MM} {n : Nat} : go 123 224 ls (.inr (.inr (8, some n)) :: st) m = go 123 227 ls (.inr (.inr (41, mR m 8 n 28)) :: st) m := e_1 d123_224 (Or.inl rfl) (by rw [xi, pA, show lk fdL (mt 123).2.2.1 82 = some (8, 28) by decide +kernel]; rfl)
theorem d123_227 : decode (mt 123).2.1 227 = .ok (.iload_n 1, 1) := by decide +kernel
theorem s123_227 {a0 a2 a3 : Option AV} {st : List AV} {m : MM} {x : Int32} : go 123 227 [a0, some (.inl x), a2, a3] st m = go 123 228 [a0, some (.inl x), a2, a3] (.inl x :: st) m := e_1 d123_227 (Or.inl rfl) rfl
theorem d123_228 : decode (mt 123).2.1 228 = .ok (.iaload, 1) := by decide +kernel
theorem s123_228 {ls : LV} {st : List AV} {m : MM} {n : Nat} {i : Int32} : go 123 228 ls (.inl i :: .inr (.inr (41, some n)) :: st) m = ixk (ix i (mN m 41 n)) (fun j => go 123 229 ls (.inl (mI m 41 n j) :: st) m) := e_ald d123_228 (fun j hj => by simp only [xi, pI, pA, hj, Option.bind_some]; rfl) (fun hj => by simp only [xi, pI, pA, hj, Option.bind_none])
theorem d123_229 : decode (mt 123).2.1 229 = .ok (.if_icmp .gt 25, 3) := by decide +kernel
theorem s123_229 {ls : LV} {st : List AV} {m : MM} {a b : Int32} : go 123 229 ls (.inl b :: .inl a :: st) m = if b < a then go 123 254 ls st m else go 123 232 ls st m := e_if (t := 254) (b := hc .gt a b) d123_229 (Or.inl rfl) (by simp only [xi, pI, jm_some (t := 254) (show ((229 : Nat) : Int) + 25 = ((254 : Nat) : Int) by decide), Option.bind_some]) (by simp [hc])
theorem d123_232 : decode (mt 123).2.1 232 = .ok (.aload_n 0, 1) := by decide +kernel
theorem s123_232 {a1 a2 a3 : Option AV} {st : List AV} {m : MM} {x : Nat × Option Nat} : go 123 232 [some (.inr (.inr x)), a1, a2, a3] st m = go 123 233 [some (.inr (.inr x)), a1, a2, a3] (.inr (.inr x) :: st) m := e_1 d123_232 (Or.inl rfl) rfl
theorem d123_233 : decode (mt 123).2.1 233 = .ok (.aload_n 0, 1) := by decide +kernel
theorem s123_233 {a1 a2 a3 : Option AV} {st : List AV} {m : MM} {x : Nat × Option Nat} : go 123 233 [some (.inr (.inr x)), a1, a2, a3] st m = go 123 234 [some (.inr (.inr x)), a1, a2, a3] (.inr (.inr x) :: st) m := e_1 d123_233 (Or.inl rfl) rfl
theorem d123_234 : decode (mt 123).2.1 234 = .ok (.getfield 55, 3) := by decide +kernel
theorem s123_234 {ls : LV} {st : List AV} {m : MM} {n : Nat} : go 123 234 ls (.inr (.inr (8, some n)) :: st) m = go 123 237 ls (.inr (.inr (32, mR m 8 n 19)) :: st) m := e_1 d123_234 (Or.inl rfl) (by rw [xi, pA, show lk fdL (mt 123).2.2.1 55 = some (8, 19) by decide +kernel]; rfl)
theorem d123_237 : decode (mt 123).2.1 237 = .ok (.iload_n 1, 1) := by decide +kernel
theorem s123_237 {a0 a2 a3 : Option AV} {st : List AV} {m : MM} {x : Int32} : go 123 237 [a0, some (.inl x), a2, a3] st m = go 123 238 [a0, some (.inl x), a2, a3] (.inl x :: st) m := e_1 d123_237 (Or.inl rfl) rfl
theorem d123_238 : decode (mt 123).2.1 238 = .ok (.iaload, 1) := by decide +kernel
theorem s123_238 {ls : LV} {st : List AV} {m : MM} {n : Nat} {i : Int32} : go 123 238 ls (.inl i :: .inr (.inr (32, some n)) :: st) m = ixk (ix i (mN m 32 n)) (fun j => go 123 239 ls (.inl (mI m 32 n j) :: st) m) := e_ald d123_238 (fun j hj => by simp only [xi, pI, pA, hj, Option.bind_some]; rfl) (fun hj => by simp only [xi, pI, pA, hj, Option.bind_none])
theorem d123_239 : decode (mt 123).2.1 239 = .ok (.iload_n 3, 1) := by decide +kernel
theorem s123_239 {a0 a1 a2 : Option AV} {st : List AV} {m : MM} {x : Int32} : go 123 239 [a0, a1, a2, some (.inl x)] st m = go 123 240 [a0, a1, a2, some (.inl x)] (.inl x :: st) m := e_1 d123_239 (Or.inl rfl) rfl
theorem d123_240 : decode (mt 123).2.1 240 = .ok (.iload_n 1, 1) := by decide +kernel
theorem s123_240 {a0 a2 a3 : Option AV} {st : List AV} {m : MM} {x : Int32} : go 123 240 [a0, some (.inl x), a2, a3] st m = go 123 241 [a0, some (.inl x), a2, a3] (.inl x :: st) m := e_1 d123_240 (Or.inl rfl) rfl
theorem d123_241 : decode (mt 123).2.1 241 = .ok (.bipush (-4), 2) := by decide +kernel
theorem s123_241 {ls : LV} {st : List AV} {m : MM} : go 123 241 ls st m = go 123 243 ls (.inl (-4) :: st) m := e_1 d123_241 (Or.inl rfl) rfl
theorem d123_243 : decode (mt 123).2.1 243 = .ok (.iconst 0, 1) := by decide +kernel
theorem s123_243 {ls : LV} {st : List AV} {m : MM} : go 123 243 ls st m = go 123 244 ls (.inl 0 :: st) m := e_1 d123_243 (Or.inl rfl) rfl
theorem d123_244 : decode (mt 123).2.1 244 = .ok (.bipush (-4), 2) := by decide +kernel
theorem s123_244 {ls : LV} {st : List AV} {m : MM} : go 123 244 ls st m = go 123 246 ls (.inl (-4) :: st) m := e_1 d123_244 (Or.inl rfl) rfl
theorem d123_246 : decode (mt 123).2.1 246 = .ok (.bipush (-4), 2) := by decide +kernel
theorem s123_246 {ls : LV} {st : List AV} {m : MM} : go 123 246 ls st m = go 123 248 ls (.inl (-4) :: st) m := e_1 d123_246 (Or.inl rfl) rfl
theorem d123_248 : decode (mt 123).2.1 248 = .ok (.invokevirtual 159, 3) := by decide +kernel
theorem s123_248 {ls : LV} {m : MM} {x0 : Int32} {x1 : Int32} {x2 : Int32} {x3 : Int32} {x4 : Int32} {x5 : Int32} {x6 : Int32} {n : Nat} : go 123 248 ls [.inl x6, .inl x5, .inl x4, .inl x3, .inl x2, .inl x1, .inl x0, .inr (.inr (8, some n))] m = bd (go 119 0 [some (.inr (.inr (8, some n))), some (.inl x0), some (.inl x1), some (.inl x2), some (.inl x3), some (.inl x4), some (.inl x5), some (.inl x6), none] [] m) (fun v m2 => go 123 251 ls (v.toList ++ []) m2) := e_virt (y1 := 119) (na := 7) (as := [.inl x0, .inl x1, .inl x2, .inl x3, .inl x4, .inl x5, .inl x6]) (rest := []) d123_248 (by decide +kernel) rfl (by decide +kernel) (show (ent [.inr (.inr (8, some n)), .inl x0, .inl x1, .inl x2, .inl x3, .inl x4, .inl x5, .inl x6]).length ≤ (mt 119).2.2.2.1 from Nat.le_of_ble_eq_true rfl) (cats_le (Nat.le_of_ble_eq_true rfl)) (by decide +kernel)
theorem d123_251 : decode (mt 123).2.1 251 = .ok (.goto 14, 3) := by decide +kernel
theorem s123_251 {ls : LV} {st : List AV} {m : MM} : go 123 251 ls st m = go 123 265 ls st m := e_1 d123_251 (Or.inl rfl) (by rw [xi, jm_some (t := 265) (by decide)]; rfl)
theorem d123_254 : decode (mt 123).2.1 254 = .ok (.aload_n 0, 1) := by decide +kernel
theorem s123_254 {a1 a2 a3 : Option AV} {st : List AV} {m : MM} {x : Nat × Option Nat} : go 123 254 [some (.inr (.inr x)), a1, a2, a3] st m = go 123 255 [some (.inr (.inr x)), a1, a2, a3] (.inr (.inr x) :: st) m := e_1 d123_254 (Or.inl rfl) rfl
theorem d123_255 : decode (mt 123).2.1 255 = .ok (.iload_n 1, 1) := by decide +kernel
theorem s123_255 {a0 a2 a3 : Option AV} {st : List AV} {m : MM} {x : Int32} : go 123 255 [a0, some (.inl x), a2, a3] st m = go 123 256 [a0, some (.inl x), a2, a3] (.inl x :: st) m := e_1 d123_255 (Or.inl rfl) rfl
theorem d123_256 : decode (mt 123).2.1 256 = .ok (.aload_n 0, 1) := by decide +kernel
theorem s123_256 {a1 a2 a3 : Option AV} {st : List AV} {m : MM} {x : Nat × Option Nat} : go 123 256 [some (.inr (.inr x)), a1, a2, a3] st m = go 123 257 [some (.inr (.inr x)), a1, a2, a3] (.inr (.inr x) :: st) m := e_1 d123_256 (Or.inl rfl) rfl
theorem d123_257 : decode (mt 123).2.1 257 = .ok (.getfield 73, 3) := by decide +kernel
theorem s123_257 {ls : LV} {st : List AV} {m : MM} {n : Nat} : go 123 257 ls (.inr (.inr (8, some n)) :: st) m = go 123 260 ls (.inr (.inr (38, mR m 8 n 25)) :: st) m := e_1 d123_257 (Or.inl rfl) (by rw [xi, pA, show lk fdL (mt 123).2.2.1 73 = some (8, 25) by decide +kernel]; rfl)
theorem d123_260 : decode (mt 123).2.1 260 = .ok (.iload_n 1, 1) := by decide +kernel
theorem s123_260 {a0 a2 a3 : Option AV} {st : List AV} {m : MM} {x : Int32} : go 123 260 [a0, some (.inl x), a2, a3] st m = go 123 261 [a0, some (.inl x), a2, a3] (.inl x :: st) m := e_1 d123_260 (Or.inl rfl) rfl
theorem d123_261 : decode (mt 123).2.1 261 = .ok (.iaload, 1) := by decide +kernel
theorem s123_261 {ls : LV} {st : List AV} {m : MM} {n : Nat} {i : Int32} : go 123 261 ls (.inl i :: .inr (.inr (38, some n)) :: st) m = ixk (ix i (mN m 38 n)) (fun j => go 123 262 ls (.inl (mI m 38 n j) :: st) m) := e_ald d123_261 (fun j hj => by simp only [xi, pI, pA, hj, Option.bind_some]; rfl) (fun hj => by simp only [xi, pI, pA, hj, Option.bind_none])
theorem d123_262 : decode (mt 123).2.1 262 = .ok (.invokevirtual 156, 3) := by decide +kernel
theorem s123_262 {ls : LV} {m : MM} {x0 : Int32} {x1 : Int32} {n : Nat} : go 123 262 ls [.inl x1, .inl x0, .inr (.inr (8, some n))] m = bd (go 118 0 [some (.inr (.inr (8, some n))), some (.inl x0), some (.inl x1)] [] m) (fun v m2 => go 123 265 ls (v.toList ++ []) m2) := e_virt (y1 := 118) (na := 2) (as := [.inl x0, .inl x1]) (rest := []) d123_262 (by decide +kernel) rfl (by decide +kernel) (show (ent [.inr (.inr (8, some n)), .inl x0, .inl x1]).length ≤ (mt 118).2.2.2.1 from Nat.le_of_ble_eq_true rfl) (cats_le (Nat.le_of_ble_eq_true rfl)) (by decide +kernel)
theorem d123_265 : decode (mt 123).2.1 265 = .ok (.return_, 1) := by decide +kernel
theorem s123_265 {ls : LV} {m : MM} : go 123 265 ls [] m = some (none, m) := e_void d123_265 (by decide +kernel)
/-! X7_changeMessages: 124 -/
theorem d124_0 : decode (mt 124).2.1 0 = .ok (.iconst 0, 1) := by decide +kernel
theorem s124_0 {ls : LV} {st : List AV} {m : MM} : go 124 0 ls st m = go 124 1 ls (.inl 0 :: st) m := e_1 d124_0 (Or.inl rfl) rfl
theorem d124_1 : decode (mt 124).2.1 1 = .ok (.istore_n 1, 1) := by decide +kernel
theorem s124_1i {a1 a2 : Option AV} {z : Int32} {st : List AV} {m : MM} {x : Int32} : go 124 1 [some (.inl z), a1, a2] (.inl x :: st) m = go 124 2 [some (.inl z), some (.inl x), a2] st m := e_1 d124_1 (Or.inl rfl) rfl
theorem s124_1r {a1 a2 : Option AV} {z : Nat × Option Nat} {st : List AV} {m : MM} {x : Int32} : go 124 1 [some (.inr (.inr z)), a1, a2] (.inl x :: st) m = go 124 2 [some (.inr (.inr z)), some (.inl x), a2] st m := e_1 d124_1 (Or.inl rfl) rfl
theorem s124_1n {a1 a2 : Option AV} {st : List AV} {m : MM} {x : Int32} : go 124 1 [none, a1, a2] (.inl x :: st) m = go 124 2 [none, some (.inl x), a2] st m := e_1 d124_1 (Or.inl rfl) rfl
theorem d124_2 : decode (mt 124).2.1 2 = .ok (.iconst 0, 1) := by decide +kernel
theorem s124_2 {ls : LV} {st : List AV} {m : MM} : go 124 2 ls st m = go 124 3 ls (.inl 0 :: st) m := e_1 d124_2 (Or.inl rfl) rfl
theorem d124_3 : decode (mt 124).2.1 3 = .ok (.istore_n 2, 1) := by decide +kernel
theorem s124_3i {a0 a2 : Option AV} {z : Int32} {st : List AV} {m : MM} {x : Int32} : go 124 3 [a0, some (.inl z), a2] (.inl x :: st) m = go 124 4 [a0, some (.inl z), some (.inl x)] st m := e_1 d124_3 (Or.inl rfl) rfl
theorem s124_3r {a0 a2 : Option AV} {z : Nat × Option Nat} {st : List AV} {m : MM} {x : Int32} : go 124 3 [a0, some (.inr (.inr z)), a2] (.inl x :: st) m = go 124 4 [a0, some (.inr (.inr z)), some (.inl x)] st m := e_1 d124_3 (Or.inl rfl) rfl
theorem s124_3n {a0 a2 : Option AV} {st : List AV} {m : MM} {x : Int32} : go 124 3 [a0, none, a2] (.inl x :: st) m = go 124 4 [a0, none, some (.inl x)] st m := e_1 d124_3 (Or.inl rfl) rfl
theorem d124_4 : decode (mt 124).2.1 4 = .ok (.iload_n 2, 1) := by decide +kernel
theorem s124_4 {a0 a1 : Option AV} {st : List AV} {m : MM} {x : Int32} : go 124 4 [a0, a1, some (.inl x)] st m = go 124 5 [a0, a1, some (.inl x)] (.inl x :: st) m := e_1 d124_4 (Or.inl rfl) rfl
theorem d124_5 : decode (mt 124).2.1 5 = .ok (.aload_n 0, 1) := by decide +kernel
theorem s124_5 {a1 a2 : Option AV} {st : List AV} {m : MM} {x : Nat × Option Nat} : go 124 5 [some (.inr (.inr x)), a1, a2] st m = go 124 6 [some (.inr (.inr x)), a1, a2] (.inr (.inr x) :: st) m := e_1 d124_5 (Or.inl rfl) rfl
theorem d124_6 : decode (mt 124).2.1 6 = .ok (.getfield 140, 3) := by decide +kernel
theorem s124_6 {ls : LV} {st : List AV} {m : MM} {n : Nat} : go 124 6 ls (.inr (.inr (8, some n)) :: st) m = go 124 9 ls (.inl (mI m 8 n 30) :: st) m := e_1 d124_6 (Or.inl rfl) (by rw [xi, pA, show lk fdL (mt 124).2.2.1 140 = some (8, 30) by decide +kernel]; rfl)
theorem d124_9 : decode (mt 124).2.1 9 = .ok (.if_icmp .ge 27, 3) := by decide +kernel
theorem s124_9 {ls : LV} {st : List AV} {m : MM} {a b : Int32} : go 124 9 ls (.inl b :: .inl a :: st) m = if b ≤ a then go 124 36 ls st m else go 124 12 ls st m := e_if (t := 36) (b := hc .ge a b) d124_9 (Or.inl rfl) (by simp only [xi, pI, jm_some (t := 36) (show ((9 : Nat) : Int) + 27 = ((36 : Nat) : Int) by decide), Option.bind_some]) (by simp [hc])
theorem d124_12 : decode (mt 124).2.1 12 = .ok (.iload_n 1, 1) := by decide +kernel
theorem s124_12 {a0 a2 : Option AV} {st : List AV} {m : MM} {x : Int32} : go 124 12 [a0, some (.inl x), a2] st m = go 124 13 [a0, some (.inl x), a2] (.inl x :: st) m := e_1 d124_12 (Or.inl rfl) rfl
theorem d124_13 : decode (mt 124).2.1 13 = .ok (.aload_n 0, 1) := by decide +kernel
theorem s124_13 {a1 a2 : Option AV} {st : List AV} {m : MM} {x : Nat × Option Nat} : go 124 13 [some (.inr (.inr x)), a1, a2] st m = go 124 14 [some (.inr (.inr x)), a1, a2] (.inr (.inr x) :: st) m := e_1 d124_13 (Or.inl rfl) rfl
theorem d124_14 : decode (mt 124).2.1 14 = .ok (.getfield 88, 3) := by decide +kernel
theorem s124_14 {ls : LV} {st : List AV} {m : MM} {n : Nat} : go 124 14 ls (.inr (.inr (8, some n)) :: st) m = go 124 17 ls (.inr (.inr (43, mR m 8 n 31)) :: st) m := e_1 d124_14 (Or.inl rfl) (by rw [xi, pA, show lk fdL (mt 124).2.2.1 88 = some (8, 31) by decide +kernel]; rfl)
theorem d124_17 : decode (mt 124).2.1 17 = .ok (.iload_n 2, 1) := by decide +kernel
theorem s124_17 {a0 a1 : Option AV} {st : List AV} {m : MM} {x : Int32} : go 124 17 [a0, a1, some (.inl x)] st m = go 124 18 [a0, a1, some (.inl x)] (.inl x :: st) m := e_1 d124_17 (Or.inl rfl) rfl
theorem d124_18 : decode (mt 124).2.1 18 = .ok (.iaload, 1) := by decide +kernel
theorem s124_18 {ls : LV} {st : List AV} {m : MM} {n : Nat} {i : Int32} : go 124 18 ls (.inl i :: .inr (.inr (43, some n)) :: st) m = ixk (ix i (mN m 43 n)) (fun j => go 124 19 ls (.inl (mI m 43 n j) :: st) m) := e_ald d124_18 (fun j hj => by simp only [xi, pI, pA, hj, Option.bind_some]; rfl) (fun hj => by simp only [xi, pI, pA, hj, Option.bind_none])
theorem d124_19 : decode (mt 124).2.1 19 = .ok (.iconst 4, 1) := by decide +kernel
theorem s124_19 {ls : LV} {st : List AV} {m : MM} : go 124 19 ls st m = go 124 20 ls (.inl 4 :: st) m := e_1 d124_19 (Or.inl rfl) rfl
theorem d124_20 : decode (mt 124).2.1 20 = .ok (.if_icmp .le 7, 3) := by decide +kernel
theorem s124_20 {ls : LV} {st : List AV} {m : MM} {a b : Int32} : go 124 20 ls (.inl b :: .inl a :: st) m = if a ≤ b then go 124 27 ls st m else go 124 23 ls st m := e_if (t := 27) (b := hc .le a b) d124_20 (Or.inl rfl) (by simp only [xi, pI, jm_some (t := 27) (show ((20 : Nat) : Int) + 7 = ((27 : Nat) : Int) by decide), Option.bind_some]) (by simp [hc])
theorem d124_23 : decode (mt 124).2.1 23 = .ok (.iconst 1, 1) := by decide +kernel
theorem s124_23 {ls : LV} {st : List AV} {m : MM} : go 124 23 ls st m = go 124 24 ls (.inl 1 :: st) m := e_1 d124_23 (Or.inl rfl) rfl
theorem d124_24 : decode (mt 124).2.1 24 = .ok (.goto 4, 3) := by decide +kernel
theorem s124_24 {ls : LV} {st : List AV} {m : MM} : go 124 24 ls st m = go 124 28 ls st m := e_1 d124_24 (Or.inl rfl) (by rw [xi, jm_some (t := 28) (by decide)]; rfl)
theorem d124_27 : decode (mt 124).2.1 27 = .ok (.iconst 0, 1) := by decide +kernel
theorem s124_27 {ls : LV} {st : List AV} {m : MM} : go 124 27 ls st m = go 124 28 ls (.inl 0 :: st) m := e_1 d124_27 (Or.inl rfl) rfl
theorem d124_28 : decode (mt 124).2.1 28 = .ok (.iadd, 1) := by decide +kernel
theorem s124_28 {ls : LV} {st : List AV} {m : MM} {a b : Int32} : go 124 28 ls (.inl b :: .inl a :: st) m = go 124 29 ls (.inl (a + b) :: st) m := e_1 d124_28 (Or.inl rfl) rfl
theorem d124_29 : decode (mt 124).2.1 29 = .ok (.istore_n 1, 1) := by decide +kernel
theorem s124_29i {a1 a2 : Option AV} {z : Int32} {st : List AV} {m : MM} {x : Int32} : go 124 29 [some (.inl z), a1, a2] (.inl x :: st) m = go 124 30 [some (.inl z), some (.inl x), a2] st m := e_1 d124_29 (Or.inl rfl) rfl
theorem s124_29r {a1 a2 : Option AV} {z : Nat × Option Nat} {st : List AV} {m : MM} {x : Int32} : go 124 29 [some (.inr (.inr z)), a1, a2] (.inl x :: st) m = go 124 30 [some (.inr (.inr z)), some (.inl x), a2] st m := e_1 d124_29 (Or.inl rfl) rfl
theorem s124_29n {a1 a2 : Option AV} {st : List AV} {m : MM} {x : Int32} : go 124 29 [none, a1, a2] (.inl x :: st) m = go 124 30 [none, some (.inl x), a2] st m := e_1 d124_29 (Or.inl rfl) rfl
theorem d124_30 : decode (mt 124).2.1 30 = .ok (.iinc 2 1, 3) := by decide +kernel
theorem s124_30i {a0 : Option AV} {z : Int32} {st : List AV} {m : MM} {x : Int32} : go 124 30 [a0, some (.inl z), some (.inl x)] st m = go 124 33 [a0, some (.inl z), some (.inl (x + 1))] st m := e_1 d124_30 (Or.inl rfl) rfl
theorem s124_30r {a0 : Option AV} {z : Nat × Option Nat} {st : List AV} {m : MM} {x : Int32} : go 124 30 [a0, some (.inr (.inr z)), some (.inl x)] st m = go 124 33 [a0, some (.inr (.inr z)), some (.inl (x + 1))] st m := e_1 d124_30 (Or.inl rfl) rfl
theorem s124_30n {a0 : Option AV} {st : List AV} {m : MM} {x : Int32} : go 124 30 [a0, none, some (.inl x)] st m = go 124 33 [a0, none, some (.inl (x + 1))] st m := e_1 d124_30 (Or.inl rfl) rfl
theorem d124_33 : decode (mt 124).2.1 33 = .ok (.goto (-29), 3) := by decide +kernel
theorem s124_33 {ls : LV} {st : List AV} {m : MM} : go 124 33 ls st m = go 124 4 ls st m := e_1 d124_33 (Or.inl rfl) (by rw [xi, jm_some (t := 4) (by decide)]; rfl)
theorem d124_36 : decode (mt 124).2.1 36 = .ok (.iload_n 1, 1) := by decide +kernel
theorem s124_36 {a0 a2 : Option AV} {st : List AV} {m : MM} {x : Int32} : go 124 36 [a0, some (.inl x), a2] st m = go 124 37 [a0, some (.inl x), a2] (.inl x :: st) m := e_1 d124_36 (Or.inl rfl) rfl
theorem d124_37 : decode (mt 124).2.1 37 = .ok (.ireturn, 1) := by decide +kernel
theorem s124_37 {ls : LV} {m : MM} {x : Int32} : go 124 37 ls [.inl x] m = some (some (.inl x), m) := e_int d124_37 (by decide +kernel)
/-! X7_seeks: 125 -/
theorem d125_0 : decode (mt 125).2.1 0 = .ok (.aload_n 0, 1) := by decide +kernel
theorem s125_0 {a1 a2 a3 a4 : Option AV} {st : List AV} {m : MM} {x : Nat × Option Nat} : go 125 0 [some (.inr (.inr x)), a1, a2, a3, a4] st m = go 125 1 [some (.inr (.inr x)), a1, a2, a3, a4] (.inr (.inr x) :: st) m := e_1 d125_0 (Or.inl rfl) rfl
theorem d125_1 : decode (mt 125).2.1 1 = .ok (.iload_n 1, 1) := by decide +kernel
theorem s125_1 {a0 a2 a3 a4 : Option AV} {st : List AV} {m : MM} {x : Int32} : go 125 1 [a0, some (.inl x), a2, a3, a4] st m = go 125 2 [a0, some (.inl x), a2, a3, a4] (.inl x :: st) m := e_1 d125_1 (Or.inl rfl) rfl
theorem d125_2 : decode (mt 125).2.1 2 = .ok (.iload_n 2, 1) := by decide +kernel
theorem s125_2 {a0 a1 a3 a4 : Option AV} {st : List AV} {m : MM} {x : Int32} : go 125 2 [a0, a1, some (.inl x), a3, a4] st m = go 125 3 [a0, a1, some (.inl x), a3, a4] (.inl x :: st) m := e_1 d125_2 (Or.inl rfl) rfl
theorem d125_3 : decode (mt 125).2.1 3 = .ok (.invokevirtual 146, 3) := by decide +kernel
theorem s125_3 {ls : LV} {m : MM} {x0 : Int32} {x1 : Int32} {n : Nat} : go 125 3 ls [.inl x1, .inl x0, .inr (.inr (8, some n))] m = bd (go 112 0 [some (.inr (.inr (8, some n))), some (.inl x0), some (.inl x1)] [] m) (fun v m2 => go 125 6 ls (v.toList ++ []) m2) := e_virt (y1 := 112) (na := 2) (as := [.inl x0, .inl x1]) (rest := []) d125_3 (by decide +kernel) rfl (by decide +kernel) (show (ent [.inr (.inr (8, some n)), .inl x0, .inl x1]).length ≤ (mt 112).2.2.2.1 from Nat.le_of_ble_eq_true rfl) (cats_le (Nat.le_of_ble_eq_true rfl)) (by decide +kernel)
theorem d125_6 : decode (mt 125).2.1 6 = .ok (.istore_n 3, 1) := by decide +kernel
theorem s125_6i {a0 a1 a3 a4 : Option AV} {z : Int32} {st : List AV} {m : MM} {x : Int32} : go 125 6 [a0, a1, some (.inl z), a3, a4] (.inl x :: st) m = go 125 7 [a0, a1, some (.inl z), some (.inl x), a4] st m := e_1 d125_6 (Or.inl rfl) rfl
theorem s125_6r {a0 a1 a3 a4 : Option AV} {z : Nat × Option Nat} {st : List AV} {m : MM} {x : Int32} : go 125 6 [a0, a1, some (.inr (.inr z)), a3, a4] (.inl x :: st) m = go 125 7 [a0, a1, some (.inr (.inr z)), some (.inl x), a4] st m := e_1 d125_6 (Or.inl rfl) rfl
theorem s125_6n {a0 a1 a3 a4 : Option AV} {st : List AV} {m : MM} {x : Int32} : go 125 6 [a0, a1, none, a3, a4] (.inl x :: st) m = go 125 7 [a0, a1, none, some (.inl x), a4] st m := e_1 d125_6 (Or.inl rfl) rfl
theorem d125_7 : decode (mt 125).2.1 7 = .ok (.aload_n 0, 1) := by decide +kernel
theorem s125_7 {a1 a2 a3 a4 : Option AV} {st : List AV} {m : MM} {x : Nat × Option Nat} : go 125 7 [some (.inr (.inr x)), a1, a2, a3, a4] st m = go 125 8 [some (.inr (.inr x)), a1, a2, a3, a4] (.inr (.inr x) :: st) m := e_1 d125_7 (Or.inl rfl) rfl
theorem d125_8 : decode (mt 125).2.1 8 = .ok (.iload_n 1, 1) := by decide +kernel
theorem s125_8 {a0 a2 a3 a4 : Option AV} {st : List AV} {m : MM} {x : Int32} : go 125 8 [a0, some (.inl x), a2, a3, a4] st m = go 125 9 [a0, some (.inl x), a2, a3, a4] (.inl x :: st) m := e_1 d125_8 (Or.inl rfl) rfl
theorem d125_9 : decode (mt 125).2.1 9 = .ok (.iload_n 2, 1) := by decide +kernel
theorem s125_9 {a0 a1 a3 a4 : Option AV} {st : List AV} {m : MM} {x : Int32} : go 125 9 [a0, a1, some (.inl x), a3, a4] st m = go 125 10 [a0, a1, some (.inl x), a3, a4] (.inl x :: st) m := e_1 d125_9 (Or.inl rfl) rfl
theorem d125_10 : decode (mt 125).2.1 10 = .ok (.invokevirtual 143, 3) := by decide +kernel
theorem s125_10 {ls : LV} {m : MM} {x0 : Int32} {x1 : Int32} {n : Nat} : go 125 10 ls [.inl x1, .inl x0, .inr (.inr (8, some n))] m = bd (go 113 0 [some (.inr (.inr (8, some n))), some (.inl x0), some (.inl x1)] [] m) (fun v m2 => go 125 13 ls (v.toList ++ []) m2) := e_virt (y1 := 113) (na := 2) (as := [.inl x0, .inl x1]) (rest := []) d125_10 (by decide +kernel) rfl (by decide +kernel) (show (ent [.inr (.inr (8, some n)), .inl x0, .inl x1]).length ≤ (mt 113).2.2.2.1 from Nat.le_of_ble_eq_true rfl) (cats_le (Nat.le_of_ble_eq_true rfl)) (by decide +kernel)
theorem d125_13 : decode (mt 125).2.1 13 = .ok (.istore 4, 2) := by decide +kernel
theorem s125_13i {a0 a1 a2 a4 : Option AV} {z : Int32} {st : List AV} {m : MM} {x : Int32} : go 125 13 [a0, a1, a2, some (.inl z), a4] (.inl x :: st) m = go 125 15 [a0, a1, a2, some (.inl z), some (.inl x)] st m := e_1 d125_13 (Or.inl rfl) rfl
theorem s125_13r {a0 a1 a2 a4 : Option AV} {z : Nat × Option Nat} {st : List AV} {m : MM} {x : Int32} : go 125 13 [a0, a1, a2, some (.inr (.inr z)), a4] (.inl x :: st) m = go 125 15 [a0, a1, a2, some (.inr (.inr z)), some (.inl x)] st m := e_1 d125_13 (Or.inl rfl) rfl
theorem s125_13n {a0 a1 a2 a4 : Option AV} {st : List AV} {m : MM} {x : Int32} : go 125 13 [a0, a1, a2, none, a4] (.inl x :: st) m = go 125 15 [a0, a1, a2, none, some (.inl x)] st m := e_1 d125_13 (Or.inl rfl) rfl
theorem d125_15 : decode (mt 125).2.1 15 = .ok (.iload_n 2, 1) := by decide +kernel
theorem s125_15 {a0 a1 a3 a4 : Option AV} {st : List AV} {m : MM} {x : Int32} : go 125 15 [a0, a1, some (.inl x), a3, a4] st m = go 125 16 [a0, a1, some (.inl x), a3, a4] (.inl x :: st) m := e_1 d125_15 (Or.inl rfl) rfl
theorem d125_16 : decode (mt 125).2.1 16 = .ok (.bipush 8, 2) := by decide +kernel
theorem s125_16 {ls : LV} {st : List AV} {m : MM} : go 125 16 ls st m = go 125 18 ls (.inl 8 :: st) m := e_1 d125_16 (Or.inl rfl) rfl
theorem d125_18 : decode (mt 125).2.1 18 = .ok (.if_icmp .ge 53, 3) := by decide +kernel
theorem s125_18 {ls : LV} {st : List AV} {m : MM} {a b : Int32} : go 125 18 ls (.inl b :: .inl a :: st) m = if b ≤ a then go 125 71 ls st m else go 125 21 ls st m := e_if (t := 71) (b := hc .ge a b) d125_18 (Or.inl rfl) (by simp only [xi, pI, jm_some (t := 71) (show ((18 : Nat) : Int) + 53 = ((71 : Nat) : Int) by decide), Option.bind_some]) (by simp [hc])
theorem d125_21 : decode (mt 125).2.1 21 = .ok (.iload_n 3, 1) := by decide +kernel
theorem s125_21 {a0 a1 a2 a4 : Option AV} {st : List AV} {m : MM} {x : Int32} : go 125 21 [a0, a1, a2, some (.inl x), a4] st m = go 125 22 [a0, a1, a2, some (.inl x), a4] (.inl x :: st) m := e_1 d125_21 (Or.inl rfl) rfl
theorem d125_22 : decode (mt 125).2.1 22 = .ok (.bipush (-4), 2) := by decide +kernel
theorem s125_22 {ls : LV} {st : List AV} {m : MM} : go 125 22 ls st m = go 125 24 ls (.inl (-4) :: st) m := e_1 d125_22 (Or.inl rfl) rfl
theorem d125_24 : decode (mt 125).2.1 24 = .ok (.if_icmp .ne 10, 3) := by decide +kernel
theorem s125_24 {ls : LV} {st : List AV} {m : MM} {a b : Int32} : go 125 24 ls (.inl b :: .inl a :: st) m = if ¬ a = b then go 125 34 ls st m else go 125 27 ls st m := e_if (t := 34) (b := hc .ne a b) d125_24 (Or.inl rfl) (by simp only [xi, pI, jm_some (t := 34) (show ((24 : Nat) : Int) + 10 = ((34 : Nat) : Int) by decide), Option.bind_some]) (by simp [hc])
theorem d125_27 : decode (mt 125).2.1 27 = .ok (.iload 4, 2) := by decide +kernel
theorem s125_27 {a0 a1 a2 a3 : Option AV} {st : List AV} {m : MM} {x : Int32} : go 125 27 [a0, a1, a2, a3, some (.inl x)] st m = go 125 29 [a0, a1, a2, a3, some (.inl x)] (.inl x :: st) m := e_1 d125_27 (Or.inl rfl) rfl
theorem d125_29 : decode (mt 125).2.1 29 = .ok (.bipush (-4), 2) := by decide +kernel
theorem s125_29 {ls : LV} {st : List AV} {m : MM} : go 125 29 ls st m = go 125 31 ls (.inl (-4) :: st) m := e_1 d125_29 (Or.inl rfl) rfl
theorem d125_31 : decode (mt 125).2.1 31 = .ok (.if_icmp .eq 40, 3) := by decide +kernel
theorem s125_31 {ls : LV} {st : List AV} {m : MM} {a b : Int32} : go 125 31 ls (.inl b :: .inl a :: st) m = if a = b then go 125 71 ls st m else go 125 34 ls st m := e_if (t := 71) (b := hc .eq a b) d125_31 (Or.inl rfl) (by simp only [xi, pI, jm_some (t := 71) (show ((31 : Nat) : Int) + 40 = ((71 : Nat) : Int) by decide), Option.bind_some]) (by simp [hc])
theorem d125_34 : decode (mt 125).2.1 34 = .ok (.aload_n 0, 1) := by decide +kernel
theorem s125_34 {a1 a2 a3 a4 : Option AV} {st : List AV} {m : MM} {x : Nat × Option Nat} : go 125 34 [some (.inr (.inr x)), a1, a2, a3, a4] st m = go 125 35 [some (.inr (.inr x)), a1, a2, a3, a4] (.inr (.inr x) :: st) m := e_1 d125_34 (Or.inl rfl) rfl
theorem d125_35 : decode (mt 125).2.1 35 = .ok (.bipush 8, 2) := by decide +kernel
theorem s125_35 {ls : LV} {st : List AV} {m : MM} : go 125 35 ls st m = go 125 37 ls (.inl 8 :: st) m := e_1 d125_35 (Or.inl rfl) rfl
theorem d125_37 : decode (mt 125).2.1 37 = .ok (.iload 4, 2) := by decide +kernel
theorem s125_37 {a0 a1 a2 a3 : Option AV} {st : List AV} {m : MM} {x : Int32} : go 125 37 [a0, a1, a2, a3, some (.inl x)] st m = go 125 39 [a0, a1, a2, a3, some (.inl x)] (.inl x :: st) m := e_1 d125_37 (Or.inl rfl) rfl
theorem d125_39 : decode (mt 125).2.1 39 = .ok (.bipush (-4), 2) := by decide +kernel
theorem s125_39 {ls : LV} {st : List AV} {m : MM} : go 125 39 ls st m = go 125 41 ls (.inl (-4) :: st) m := e_1 d125_39 (Or.inl rfl) rfl
theorem d125_41 : decode (mt 125).2.1 41 = .ok (.if_icmp .eq 8, 3) := by decide +kernel
theorem s125_41 {ls : LV} {st : List AV} {m : MM} {a b : Int32} : go 125 41 ls (.inl b :: .inl a :: st) m = if a = b then go 125 49 ls st m else go 125 44 ls st m := e_if (t := 49) (b := hc .eq a b) d125_41 (Or.inl rfl) (by simp only [xi, pI, jm_some (t := 49) (show ((41 : Nat) : Int) + 8 = ((49 : Nat) : Int) by decide), Option.bind_some]) (by simp [hc])
theorem d125_44 : decode (mt 125).2.1 44 = .ok (.iload 4, 2) := by decide +kernel
theorem s125_44 {a0 a1 a2 a3 : Option AV} {st : List AV} {m : MM} {x : Int32} : go 125 44 [a0, a1, a2, a3, some (.inl x)] st m = go 125 46 [a0, a1, a2, a3, some (.inl x)] (.inl x :: st) m := e_1 d125_44 (Or.inl rfl) rfl
theorem d125_46 : decode (mt 125).2.1 46 = .ok (.goto 4, 3) := by decide +kernel
theorem s125_46 {ls : LV} {st : List AV} {m : MM} : go 125 46 ls st m = go 125 50 ls st m := e_1 d125_46 (Or.inl rfl) (by rw [xi, jm_some (t := 50) (by decide)]; rfl)
theorem d125_49 : decode (mt 125).2.1 49 = .ok (.iload_n 3, 1) := by decide +kernel
theorem s125_49 {a0 a1 a2 a4 : Option AV} {st : List AV} {m : MM} {x : Int32} : go 125 49 [a0, a1, a2, some (.inl x), a4] st m = go 125 50 [a0, a1, a2, some (.inl x), a4] (.inl x :: st) m := e_1 d125_49 (Or.inl rfl) rfl
theorem d125_50 : decode (mt 125).2.1 50 = .ok (.bipush (-4), 2) := by decide +kernel
theorem s125_50 {ls : LV} {st : List AV} {m : MM} : go 125 50 ls st m = go 125 52 ls (.inl (-4) :: st) m := e_1 d125_50 (Or.inl rfl) rfl
theorem d125_52 : decode (mt 125).2.1 52 = .ok (.iload_n 2, 1) := by decide +kernel
theorem s125_52 {a0 a1 a3 a4 : Option AV} {st : List AV} {m : MM} {x : Int32} : go 125 52 [a0, a1, some (.inl x), a3, a4] st m = go 125 53 [a0, a1, some (.inl x), a3, a4] (.inl x :: st) m := e_1 d125_52 (Or.inl rfl) rfl
theorem d125_53 : decode (mt 125).2.1 53 = .ok (.iload 4, 2) := by decide +kernel
theorem s125_53 {a0 a1 a2 a3 : Option AV} {st : List AV} {m : MM} {x : Int32} : go 125 53 [a0, a1, a2, a3, some (.inl x)] st m = go 125 55 [a0, a1, a2, a3, some (.inl x)] (.inl x :: st) m := e_1 d125_53 (Or.inl rfl) rfl
theorem d125_55 : decode (mt 125).2.1 55 = .ok (.bipush (-4), 2) := by decide +kernel
theorem s125_55 {ls : LV} {st : List AV} {m : MM} : go 125 55 ls st m = go 125 57 ls (.inl (-4) :: st) m := e_1 d125_55 (Or.inl rfl) rfl
theorem d125_57 : decode (mt 125).2.1 57 = .ok (.if_icmp .eq 7, 3) := by decide +kernel
theorem s125_57 {ls : LV} {st : List AV} {m : MM} {a b : Int32} : go 125 57 ls (.inl b :: .inl a :: st) m = if a = b then go 125 64 ls st m else go 125 60 ls st m := e_if (t := 64) (b := hc .eq a b) d125_57 (Or.inl rfl) (by simp only [xi, pI, jm_some (t := 64) (show ((57 : Nat) : Int) + 7 = ((64 : Nat) : Int) by decide), Option.bind_some]) (by simp [hc])
theorem d125_60 : decode (mt 125).2.1 60 = .ok (.iconst 1, 1) := by decide +kernel
theorem s125_60 {ls : LV} {st : List AV} {m : MM} : go 125 60 ls st m = go 125 61 ls (.inl 1 :: st) m := e_1 d125_60 (Or.inl rfl) rfl
theorem d125_61 : decode (mt 125).2.1 61 = .ok (.goto 4, 3) := by decide +kernel
theorem s125_61 {ls : LV} {st : List AV} {m : MM} : go 125 61 ls st m = go 125 65 ls st m := e_1 d125_61 (Or.inl rfl) (by rw [xi, jm_some (t := 65) (by decide)]; rfl)
theorem d125_64 : decode (mt 125).2.1 64 = .ok (.iconst 0, 1) := by decide +kernel
theorem s125_64 {ls : LV} {st : List AV} {m : MM} : go 125 64 ls st m = go 125 65 ls (.inl 0 :: st) m := e_1 d125_64 (Or.inl rfl) rfl
theorem d125_65 : decode (mt 125).2.1 65 = .ok (.iload_n 1, 1) := by decide +kernel
theorem s125_65 {a0 a2 a3 a4 : Option AV} {st : List AV} {m : MM} {x : Int32} : go 125 65 [a0, some (.inl x), a2, a3, a4] st m = go 125 66 [a0, some (.inl x), a2, a3, a4] (.inl x :: st) m := e_1 d125_65 (Or.inl rfl) rfl
theorem d125_66 : decode (mt 125).2.1 66 = .ok (.bipush (-4), 2) := by decide +kernel
theorem s125_66 {ls : LV} {st : List AV} {m : MM} : go 125 66 ls st m = go 125 68 ls (.inl (-4) :: st) m := e_1 d125_66 (Or.inl rfl) rfl
theorem d125_68 : decode (mt 125).2.1 68 = .ok (.invokevirtual 159, 3) := by decide +kernel
theorem s125_68 {ls : LV} {m : MM} {x0 : Int32} {x1 : Int32} {x2 : Int32} {x3 : Int32} {x4 : Int32} {x5 : Int32} {x6 : Int32} {n : Nat} : go 125 68 ls [.inl x6, .inl x5, .inl x4, .inl x3, .inl x2, .inl x1, .inl x0, .inr (.inr (8, some n))] m = bd (go 119 0 [some (.inr (.inr (8, some n))), some (.inl x0), some (.inl x1), some (.inl x2), some (.inl x3), some (.inl x4), some (.inl x5), some (.inl x6), none] [] m) (fun v m2 => go 125 71 ls (v.toList ++ []) m2) := e_virt (y1 := 119) (na := 7) (as := [.inl x0, .inl x1, .inl x2, .inl x3, .inl x4, .inl x5, .inl x6]) (rest := []) d125_68 (by decide +kernel) rfl (by decide +kernel) (show (ent [.inr (.inr (8, some n)), .inl x0, .inl x1, .inl x2, .inl x3, .inl x4, .inl x5, .inl x6]).length ≤ (mt 119).2.2.2.1 from Nat.le_of_ble_eq_true rfl) (cats_le (Nat.le_of_ble_eq_true rfl)) (by decide +kernel)
theorem d125_71 : decode (mt 125).2.1 71 = .ok (.return_, 1) := by decide +kernel
theorem s125_71 {ls : LV} {m : MM} : go 125 71 ls [] m = some (none, m) := e_void d125_71 (by decide +kernel)
/-! X7_linked: 126 -/
theorem d126_0 : decode (mt 126).2.1 0 = .ok (.aload_n 0, 1) := by decide +kernel
theorem s126_0 {a1 a2 a3 a4 : Option AV} {st : List AV} {m : MM} {x : Nat × Option Nat} : go 126 0 [some (.inr (.inr x)), a1, a2, a3, a4] st m = go 126 1 [some (.inr (.inr x)), a1, a2, a3, a4] (.inr (.inr x) :: st) m := e_1 d126_0 (Or.inl rfl) rfl
theorem d126_1 : decode (mt 126).2.1 1 = .ok (.iload_n 1, 1) := by decide +kernel
theorem s126_1 {a0 a2 a3 a4 : Option AV} {st : List AV} {m : MM} {x : Int32} : go 126 1 [a0, some (.inl x), a2, a3, a4] st m = go 126 2 [a0, some (.inl x), a2, a3, a4] (.inl x :: st) m := e_1 d126_1 (Or.inl rfl) rfl
theorem d126_2 : decode (mt 126).2.1 2 = .ok (.iload_n 2, 1) := by decide +kernel
theorem s126_2 {a0 a1 a3 a4 : Option AV} {st : List AV} {m : MM} {x : Int32} : go 126 2 [a0, a1, some (.inl x), a3, a4] st m = go 126 3 [a0, a1, some (.inl x), a3, a4] (.inl x :: st) m := e_1 d126_2 (Or.inl rfl) rfl
theorem d126_3 : decode (mt 126).2.1 3 = .ok (.invokevirtual 146, 3) := by decide +kernel
theorem s126_3 {ls : LV} {m : MM} {x0 : Int32} {x1 : Int32} {n : Nat} : go 126 3 ls [.inl x1, .inl x0, .inr (.inr (8, some n))] m = bd (go 112 0 [some (.inr (.inr (8, some n))), some (.inl x0), some (.inl x1)] [] m) (fun v m2 => go 126 6 ls (v.toList ++ []) m2) := e_virt (y1 := 112) (na := 2) (as := [.inl x0, .inl x1]) (rest := []) d126_3 (by decide +kernel) rfl (by decide +kernel) (show (ent [.inr (.inr (8, some n)), .inl x0, .inl x1]).length ≤ (mt 112).2.2.2.1 from Nat.le_of_ble_eq_true rfl) (cats_le (Nat.le_of_ble_eq_true rfl)) (by decide +kernel)
theorem d126_6 : decode (mt 126).2.1 6 = .ok (.istore_n 3, 1) := by decide +kernel
theorem s126_6i {a0 a1 a3 a4 : Option AV} {z : Int32} {st : List AV} {m : MM} {x : Int32} : go 126 6 [a0, a1, some (.inl z), a3, a4] (.inl x :: st) m = go 126 7 [a0, a1, some (.inl z), some (.inl x), a4] st m := e_1 d126_6 (Or.inl rfl) rfl
theorem s126_6r {a0 a1 a3 a4 : Option AV} {z : Nat × Option Nat} {st : List AV} {m : MM} {x : Int32} : go 126 6 [a0, a1, some (.inr (.inr z)), a3, a4] (.inl x :: st) m = go 126 7 [a0, a1, some (.inr (.inr z)), some (.inl x), a4] st m := e_1 d126_6 (Or.inl rfl) rfl
theorem s126_6n {a0 a1 a3 a4 : Option AV} {st : List AV} {m : MM} {x : Int32} : go 126 6 [a0, a1, none, a3, a4] (.inl x :: st) m = go 126 7 [a0, a1, none, some (.inl x), a4] st m := e_1 d126_6 (Or.inl rfl) rfl
theorem d126_7 : decode (mt 126).2.1 7 = .ok (.aload_n 0, 1) := by decide +kernel
theorem s126_7 {a1 a2 a3 a4 : Option AV} {st : List AV} {m : MM} {x : Nat × Option Nat} : go 126 7 [some (.inr (.inr x)), a1, a2, a3, a4] st m = go 126 8 [some (.inr (.inr x)), a1, a2, a3, a4] (.inr (.inr x) :: st) m := e_1 d126_7 (Or.inl rfl) rfl
theorem d126_8 : decode (mt 126).2.1 8 = .ok (.iload_n 1, 1) := by decide +kernel
theorem s126_8 {a0 a2 a3 a4 : Option AV} {st : List AV} {m : MM} {x : Int32} : go 126 8 [a0, some (.inl x), a2, a3, a4] st m = go 126 9 [a0, some (.inl x), a2, a3, a4] (.inl x :: st) m := e_1 d126_8 (Or.inl rfl) rfl
theorem d126_9 : decode (mt 126).2.1 9 = .ok (.iload_n 2, 1) := by decide +kernel
theorem s126_9 {a0 a1 a3 a4 : Option AV} {st : List AV} {m : MM} {x : Int32} : go 126 9 [a0, a1, some (.inl x), a3, a4] st m = go 126 10 [a0, a1, some (.inl x), a3, a4] (.inl x :: st) m := e_1 d126_9 (Or.inl rfl) rfl
theorem d126_10 : decode (mt 126).2.1 10 = .ok (.invokevirtual 143, 3) := by decide +kernel
theorem s126_10 {ls : LV} {m : MM} {x0 : Int32} {x1 : Int32} {n : Nat} : go 126 10 ls [.inl x1, .inl x0, .inr (.inr (8, some n))] m = bd (go 113 0 [some (.inr (.inr (8, some n))), some (.inl x0), some (.inl x1)] [] m) (fun v m2 => go 126 13 ls (v.toList ++ []) m2) := e_virt (y1 := 113) (na := 2) (as := [.inl x0, .inl x1]) (rest := []) d126_10 (by decide +kernel) rfl (by decide +kernel) (show (ent [.inr (.inr (8, some n)), .inl x0, .inl x1]).length ≤ (mt 113).2.2.2.1 from Nat.le_of_ble_eq_true rfl) (cats_le (Nat.le_of_ble_eq_true rfl)) (by decide +kernel)
theorem d126_13 : decode (mt 126).2.1 13 = .ok (.istore 4, 2) := by decide +kernel
theorem s126_13i {a0 a1 a2 a4 : Option AV} {z : Int32} {st : List AV} {m : MM} {x : Int32} : go 126 13 [a0, a1, a2, some (.inl z), a4] (.inl x :: st) m = go 126 15 [a0, a1, a2, some (.inl z), some (.inl x)] st m := e_1 d126_13 (Or.inl rfl) rfl
theorem s126_13r {a0 a1 a2 a4 : Option AV} {z : Nat × Option Nat} {st : List AV} {m : MM} {x : Int32} : go 126 13 [a0, a1, a2, some (.inr (.inr z)), a4] (.inl x :: st) m = go 126 15 [a0, a1, a2, some (.inr (.inr z)), some (.inl x)] st m := e_1 d126_13 (Or.inl rfl) rfl
theorem s126_13n {a0 a1 a2 a4 : Option AV} {st : List AV} {m : MM} {x : Int32} : go 126 13 [a0, a1, a2, none, a4] (.inl x :: st) m = go 126 15 [a0, a1, a2, none, some (.inl x)] st m := e_1 d126_13 (Or.inl rfl) rfl
theorem d126_15 : decode (mt 126).2.1 15 = .ok (.iload_n 3, 1) := by decide +kernel
theorem s126_15 {a0 a1 a2 a4 : Option AV} {st : List AV} {m : MM} {x : Int32} : go 126 15 [a0, a1, a2, some (.inl x), a4] st m = go 126 16 [a0, a1, a2, some (.inl x), a4] (.inl x :: st) m := e_1 d126_15 (Or.inl rfl) rfl
theorem d126_16 : decode (mt 126).2.1 16 = .ok (.bipush (-4), 2) := by decide +kernel
theorem s126_16 {ls : LV} {st : List AV} {m : MM} : go 126 16 ls st m = go 126 18 ls (.inl (-4) :: st) m := e_1 d126_16 (Or.inl rfl) rfl
theorem d126_18 : decode (mt 126).2.1 18 = .ok (.if_icmp .eq 17, 3) := by decide +kernel
theorem s126_18 {ls : LV} {st : List AV} {m : MM} {a b : Int32} : go 126 18 ls (.inl b :: .inl a :: st) m = if a = b then go 126 35 ls st m else go 126 21 ls st m := e_if (t := 35) (b := hc .eq a b) d126_18 (Or.inl rfl) (by simp only [xi, pI, jm_some (t := 35) (show ((18 : Nat) : Int) + 17 = ((35 : Nat) : Int) by decide), Option.bind_some]) (by simp [hc])
theorem d126_21 : decode (mt 126).2.1 21 = .ok (.aload_n 0, 1) := by decide +kernel
theorem s126_21 {a1 a2 a3 a4 : Option AV} {st : List AV} {m : MM} {x : Nat × Option Nat} : go 126 21 [some (.inr (.inr x)), a1, a2, a3, a4] st m = go 126 22 [some (.inr (.inr x)), a1, a2, a3, a4] (.inr (.inr x) :: st) m := e_1 d126_21 (Or.inl rfl) rfl
theorem d126_22 : decode (mt 126).2.1 22 = .ok (.bipush 7, 2) := by decide +kernel
theorem s126_22 {ls : LV} {st : List AV} {m : MM} : go 126 22 ls st m = go 126 24 ls (.inl 7 :: st) m := e_1 d126_22 (Or.inl rfl) rfl
theorem d126_24 : decode (mt 126).2.1 24 = .ok (.iload_n 3, 1) := by decide +kernel
theorem s126_24 {a0 a1 a2 a4 : Option AV} {st : List AV} {m : MM} {x : Int32} : go 126 24 [a0, a1, a2, some (.inl x), a4] st m = go 126 25 [a0, a1, a2, some (.inl x), a4] (.inl x :: st) m := e_1 d126_24 (Or.inl rfl) rfl
theorem d126_25 : decode (mt 126).2.1 25 = .ok (.bipush (-4), 2) := by decide +kernel
theorem s126_25 {ls : LV} {st : List AV} {m : MM} : go 126 25 ls st m = go 126 27 ls (.inl (-4) :: st) m := e_1 d126_25 (Or.inl rfl) rfl
theorem d126_27 : decode (mt 126).2.1 27 = .ok (.iload_n 2, 1) := by decide +kernel
theorem s126_27 {a0 a1 a3 a4 : Option AV} {st : List AV} {m : MM} {x : Int32} : go 126 27 [a0, a1, some (.inl x), a3, a4] st m = go 126 28 [a0, a1, some (.inl x), a3, a4] (.inl x :: st) m := e_1 d126_27 (Or.inl rfl) rfl
theorem d126_28 : decode (mt 126).2.1 28 = .ok (.iconst 1, 1) := by decide +kernel
theorem s126_28 {ls : LV} {st : List AV} {m : MM} : go 126 28 ls st m = go 126 29 ls (.inl 1 :: st) m := e_1 d126_28 (Or.inl rfl) rfl
theorem d126_29 : decode (mt 126).2.1 29 = .ok (.iload_n 1, 1) := by decide +kernel
theorem s126_29 {a0 a2 a3 a4 : Option AV} {st : List AV} {m : MM} {x : Int32} : go 126 29 [a0, some (.inl x), a2, a3, a4] st m = go 126 30 [a0, some (.inl x), a2, a3, a4] (.inl x :: st) m := e_1 d126_29 (Or.inl rfl) rfl
theorem d126_30 : decode (mt 126).2.1 30 = .ok (.bipush (-4), 2) := by decide +kernel
theorem s126_30 {ls : LV} {st : List AV} {m : MM} : go 126 30 ls st m = go 126 32 ls (.inl (-4) :: st) m := e_1 d126_30 (Or.inl rfl) rfl
theorem d126_32 : decode (mt 126).2.1 32 = .ok (.invokevirtual 159, 3) := by decide +kernel
theorem s126_32 {ls : LV} {m : MM} {x0 : Int32} {x1 : Int32} {x2 : Int32} {x3 : Int32} {x4 : Int32} {x5 : Int32} {x6 : Int32} {n : Nat} : go 126 32 ls [.inl x6, .inl x5, .inl x4, .inl x3, .inl x2, .inl x1, .inl x0, .inr (.inr (8, some n))] m = bd (go 119 0 [some (.inr (.inr (8, some n))), some (.inl x0), some (.inl x1), some (.inl x2), some (.inl x3), some (.inl x4), some (.inl x5), some (.inl x6), none] [] m) (fun v m2 => go 126 35 ls (v.toList ++ []) m2) := e_virt (y1 := 119) (na := 7) (as := [.inl x0, .inl x1, .inl x2, .inl x3, .inl x4, .inl x5, .inl x6]) (rest := []) d126_32 (by decide +kernel) rfl (by decide +kernel) (show (ent [.inr (.inr (8, some n)), .inl x0, .inl x1, .inl x2, .inl x3, .inl x4, .inl x5, .inl x6]).length ≤ (mt 119).2.2.2.1 from Nat.le_of_ble_eq_true rfl) (cats_le (Nat.le_of_ble_eq_true rfl)) (by decide +kernel)
theorem d126_35 : decode (mt 126).2.1 35 = .ok (.iload 4, 2) := by decide +kernel
theorem s126_35 {a0 a1 a2 a3 : Option AV} {st : List AV} {m : MM} {x : Int32} : go 126 35 [a0, a1, a2, a3, some (.inl x)] st m = go 126 37 [a0, a1, a2, a3, some (.inl x)] (.inl x :: st) m := e_1 d126_35 (Or.inl rfl) rfl
theorem d126_37 : decode (mt 126).2.1 37 = .ok (.bipush (-4), 2) := by decide +kernel
theorem s126_37 {ls : LV} {st : List AV} {m : MM} : go 126 37 ls st m = go 126 39 ls (.inl (-4) :: st) m := e_1 d126_37 (Or.inl rfl) rfl
theorem d126_39 : decode (mt 126).2.1 39 = .ok (.if_icmp .eq 18, 3) := by decide +kernel
theorem s126_39 {ls : LV} {st : List AV} {m : MM} {a b : Int32} : go 126 39 ls (.inl b :: .inl a :: st) m = if a = b then go 126 57 ls st m else go 126 42 ls st m := e_if (t := 57) (b := hc .eq a b) d126_39 (Or.inl rfl) (by simp only [xi, pI, jm_some (t := 57) (show ((39 : Nat) : Int) + 18 = ((57 : Nat) : Int) by decide), Option.bind_some]) (by simp [hc])
theorem d126_42 : decode (mt 126).2.1 42 = .ok (.aload_n 0, 1) := by decide +kernel
theorem s126_42 {a1 a2 a3 a4 : Option AV} {st : List AV} {m : MM} {x : Nat × Option Nat} : go 126 42 [some (.inr (.inr x)), a1, a2, a3, a4] st m = go 126 43 [some (.inr (.inr x)), a1, a2, a3, a4] (.inr (.inr x) :: st) m := e_1 d126_42 (Or.inl rfl) rfl
theorem d126_43 : decode (mt 126).2.1 43 = .ok (.bipush 7, 2) := by decide +kernel
theorem s126_43 {ls : LV} {st : List AV} {m : MM} : go 126 43 ls st m = go 126 45 ls (.inl 7 :: st) m := e_1 d126_43 (Or.inl rfl) rfl
theorem d126_45 : decode (mt 126).2.1 45 = .ok (.iload 4, 2) := by decide +kernel
theorem s126_45 {a0 a1 a2 a3 : Option AV} {st : List AV} {m : MM} {x : Int32} : go 126 45 [a0, a1, a2, a3, some (.inl x)] st m = go 126 47 [a0, a1, a2, a3, some (.inl x)] (.inl x :: st) m := e_1 d126_45 (Or.inl rfl) rfl
theorem d126_47 : decode (mt 126).2.1 47 = .ok (.bipush (-4), 2) := by decide +kernel
theorem s126_47 {ls : LV} {st : List AV} {m : MM} : go 126 47 ls st m = go 126 49 ls (.inl (-4) :: st) m := e_1 d126_47 (Or.inl rfl) rfl
theorem d126_49 : decode (mt 126).2.1 49 = .ok (.iload_n 2, 1) := by decide +kernel
theorem s126_49 {a0 a1 a3 a4 : Option AV} {st : List AV} {m : MM} {x : Int32} : go 126 49 [a0, a1, some (.inl x), a3, a4] st m = go 126 50 [a0, a1, some (.inl x), a3, a4] (.inl x :: st) m := e_1 d126_49 (Or.inl rfl) rfl
theorem d126_50 : decode (mt 126).2.1 50 = .ok (.iconst 0, 1) := by decide +kernel
theorem s126_50 {ls : LV} {st : List AV} {m : MM} : go 126 50 ls st m = go 126 51 ls (.inl 0 :: st) m := e_1 d126_50 (Or.inl rfl) rfl
theorem d126_51 : decode (mt 126).2.1 51 = .ok (.iload_n 1, 1) := by decide +kernel
theorem s126_51 {a0 a2 a3 a4 : Option AV} {st : List AV} {m : MM} {x : Int32} : go 126 51 [a0, some (.inl x), a2, a3, a4] st m = go 126 52 [a0, some (.inl x), a2, a3, a4] (.inl x :: st) m := e_1 d126_51 (Or.inl rfl) rfl
theorem d126_52 : decode (mt 126).2.1 52 = .ok (.bipush (-4), 2) := by decide +kernel
theorem s126_52 {ls : LV} {st : List AV} {m : MM} : go 126 52 ls st m = go 126 54 ls (.inl (-4) :: st) m := e_1 d126_52 (Or.inl rfl) rfl
theorem d126_54 : decode (mt 126).2.1 54 = .ok (.invokevirtual 159, 3) := by decide +kernel
theorem s126_54 {ls : LV} {m : MM} {x0 : Int32} {x1 : Int32} {x2 : Int32} {x3 : Int32} {x4 : Int32} {x5 : Int32} {x6 : Int32} {n : Nat} : go 126 54 ls [.inl x6, .inl x5, .inl x4, .inl x3, .inl x2, .inl x1, .inl x0, .inr (.inr (8, some n))] m = bd (go 119 0 [some (.inr (.inr (8, some n))), some (.inl x0), some (.inl x1), some (.inl x2), some (.inl x3), some (.inl x4), some (.inl x5), some (.inl x6), none] [] m) (fun v m2 => go 126 57 ls (v.toList ++ []) m2) := e_virt (y1 := 119) (na := 7) (as := [.inl x0, .inl x1, .inl x2, .inl x3, .inl x4, .inl x5, .inl x6]) (rest := []) d126_54 (by decide +kernel) rfl (by decide +kernel) (show (ent [.inr (.inr (8, some n)), .inl x0, .inl x1, .inl x2, .inl x3, .inl x4, .inl x5, .inl x6]).length ≤ (mt 119).2.2.2.1 from Nat.le_of_ble_eq_true rfl) (cats_le (Nat.le_of_ble_eq_true rfl)) (by decide +kernel)
theorem d126_57 : decode (mt 126).2.1 57 = .ok (.aload_n 0, 1) := by decide +kernel
theorem s126_57 {a1 a2 a3 a4 : Option AV} {st : List AV} {m : MM} {x : Nat × Option Nat} : go 126 57 [some (.inr (.inr x)), a1, a2, a3, a4] st m = go 126 58 [some (.inr (.inr x)), a1, a2, a3, a4] (.inr (.inr x) :: st) m := e_1 d126_57 (Or.inl rfl) rfl
theorem d126_58 : decode (mt 126).2.1 58 = .ok (.iload_n 1, 1) := by decide +kernel
theorem s126_58 {a0 a2 a3 a4 : Option AV} {st : List AV} {m : MM} {x : Int32} : go 126 58 [a0, some (.inl x), a2, a3, a4] st m = go 126 59 [a0, some (.inl x), a2, a3, a4] (.inl x :: st) m := e_1 d126_58 (Or.inl rfl) rfl
theorem d126_59 : decode (mt 126).2.1 59 = .ok (.iload_n 2, 1) := by decide +kernel
theorem s126_59 {a0 a1 a3 a4 : Option AV} {st : List AV} {m : MM} {x : Int32} : go 126 59 [a0, a1, some (.inl x), a3, a4] st m = go 126 60 [a0, a1, some (.inl x), a3, a4] (.inl x :: st) m := e_1 d126_59 (Or.inl rfl) rfl
theorem d126_60 : decode (mt 126).2.1 60 = .ok (.invokevirtual 173, 3) := by decide +kernel
theorem s126_60 {ls : LV} {m : MM} {x0 : Int32} {x1 : Int32} {n : Nat} : go 126 60 ls [.inl x1, .inl x0, .inr (.inr (8, some n))] m = bd (go 125 0 [some (.inr (.inr (8, some n))), some (.inl x0), some (.inl x1), none, none] [] m) (fun v m2 => go 126 63 ls (v.toList ++ []) m2) := e_virt (y1 := 125) (na := 2) (as := [.inl x0, .inl x1]) (rest := []) d126_60 (by decide +kernel) rfl (by decide +kernel) (show (ent [.inr (.inr (8, some n)), .inl x0, .inl x1]).length ≤ (mt 125).2.2.2.1 from Nat.le_of_ble_eq_true rfl) (cats_le (Nat.le_of_ble_eq_true rfl)) (by decide +kernel)
theorem d126_63 : decode (mt 126).2.1 63 = .ok (.return_, 1) := by decide +kernel
theorem s126_63 {ls : LV} {m : MM} : go 126 63 ls [] m = some (none, m) := e_void d126_63 (by decide +kernel)
/-! X7_unlinks: 127 -/
theorem d127_0 : decode (mt 127).2.1 0 = .ok (.iload_n 2, 1) := by decide +kernel
theorem s127_0 {a0 a1 a3 a4 a5 : Option AV} {st : List AV} {m : MM} {x : Int32} : go 127 0 [a0, a1, some (.inl x), a3, a4, a5] st m = go 127 1 [a0, a1, some (.inl x), a3, a4, a5] (.inl x :: st) m := e_1 d127_0 (Or.inl rfl) rfl
theorem d127_1 : decode (mt 127).2.1 1 = .ok (.istore_n 3, 1) := by decide +kernel
theorem s127_1i {a0 a1 a3 a4 a5 : Option AV} {z : Int32} {st : List AV} {m : MM} {x : Int32} : go 127 1 [a0, a1, some (.inl z), a3, a4, a5] (.inl x :: st) m = go 127 2 [a0, a1, some (.inl z), some (.inl x), a4, a5] st m := e_1 d127_1 (Or.inl rfl) rfl
theorem s127_1r {a0 a1 a3 a4 a5 : Option AV} {z : Nat × Option Nat} {st : List AV} {m : MM} {x : Int32} : go 127 1 [a0, a1, some (.inr (.inr z)), a3, a4, a5] (.inl x :: st) m = go 127 2 [a0, a1, some (.inr (.inr z)), some (.inl x), a4, a5] st m := e_1 d127_1 (Or.inl rfl) rfl
theorem s127_1n {a0 a1 a3 a4 a5 : Option AV} {st : List AV} {m : MM} {x : Int32} : go 127 1 [a0, a1, none, a3, a4, a5] (.inl x :: st) m = go 127 2 [a0, a1, none, some (.inl x), a4, a5] st m := e_1 d127_1 (Or.inl rfl) rfl
theorem d127_2 : decode (mt 127).2.1 2 = .ok (.iload_n 3, 1) := by decide +kernel
theorem s127_2 {a0 a1 a2 a4 a5 : Option AV} {st : List AV} {m : MM} {x : Int32} : go 127 2 [a0, a1, a2, some (.inl x), a4, a5] st m = go 127 3 [a0, a1, a2, some (.inl x), a4, a5] (.inl x :: st) m := e_1 d127_2 (Or.inl rfl) rfl
theorem d127_3 : decode (mt 127).2.1 3 = .ok (.bipush 9, 2) := by decide +kernel
theorem s127_3 {ls : LV} {st : List AV} {m : MM} : go 127 3 ls st m = go 127 5 ls (.inl 9 :: st) m := e_1 d127_3 (Or.inl rfl) rfl
theorem d127_5 : decode (mt 127).2.1 5 = .ok (.if_icmp .ge 71, 3) := by decide +kernel
theorem s127_5 {ls : LV} {st : List AV} {m : MM} {a b : Int32} : go 127 5 ls (.inl b :: .inl a :: st) m = if b ≤ a then go 127 76 ls st m else go 127 8 ls st m := e_if (t := 76) (b := hc .ge a b) d127_5 (Or.inl rfl) (by simp only [xi, pI, jm_some (t := 76) (show ((5 : Nat) : Int) + 71 = ((76 : Nat) : Int) by decide), Option.bind_some]) (by simp [hc])
theorem d127_8 : decode (mt 127).2.1 8 = .ok (.aload_n 0, 1) := by decide +kernel
theorem s127_8 {a1 a2 a3 a4 a5 : Option AV} {st : List AV} {m : MM} {x : Nat × Option Nat} : go 127 8 [some (.inr (.inr x)), a1, a2, a3, a4, a5] st m = go 127 9 [some (.inr (.inr x)), a1, a2, a3, a4, a5] (.inr (.inr x) :: st) m := e_1 d127_8 (Or.inl rfl) rfl
theorem d127_9 : decode (mt 127).2.1 9 = .ok (.iload_n 1, 1) := by decide +kernel
theorem s127_9 {a0 a2 a3 a4 a5 : Option AV} {st : List AV} {m : MM} {x : Int32} : go 127 9 [a0, some (.inl x), a2, a3, a4, a5] st m = go 127 10 [a0, some (.inl x), a2, a3, a4, a5] (.inl x :: st) m := e_1 d127_9 (Or.inl rfl) rfl
theorem d127_10 : decode (mt 127).2.1 10 = .ok (.iload_n 3, 1) := by decide +kernel
theorem s127_10 {a0 a1 a2 a4 a5 : Option AV} {st : List AV} {m : MM} {x : Int32} : go 127 10 [a0, a1, a2, some (.inl x), a4, a5] st m = go 127 11 [a0, a1, a2, some (.inl x), a4, a5] (.inl x :: st) m := e_1 d127_10 (Or.inl rfl) rfl
theorem d127_11 : decode (mt 127).2.1 11 = .ok (.invokevirtual 146, 3) := by decide +kernel
theorem s127_11 {ls : LV} {m : MM} {x0 : Int32} {x1 : Int32} {n : Nat} : go 127 11 ls [.inl x1, .inl x0, .inr (.inr (8, some n))] m = bd (go 112 0 [some (.inr (.inr (8, some n))), some (.inl x0), some (.inl x1)] [] m) (fun v m2 => go 127 14 ls (v.toList ++ []) m2) := e_virt (y1 := 112) (na := 2) (as := [.inl x0, .inl x1]) (rest := []) d127_11 (by decide +kernel) rfl (by decide +kernel) (show (ent [.inr (.inr (8, some n)), .inl x0, .inl x1]).length ≤ (mt 112).2.2.2.1 from Nat.le_of_ble_eq_true rfl) (cats_le (Nat.le_of_ble_eq_true rfl)) (by decide +kernel)
theorem d127_14 : decode (mt 127).2.1 14 = .ok (.istore 4, 2) := by decide +kernel
theorem s127_14i {a0 a1 a2 a4 a5 : Option AV} {z : Int32} {st : List AV} {m : MM} {x : Int32} : go 127 14 [a0, a1, a2, some (.inl z), a4, a5] (.inl x :: st) m = go 127 16 [a0, a1, a2, some (.inl z), some (.inl x), a5] st m := e_1 d127_14 (Or.inl rfl) rfl
theorem s127_14r {a0 a1 a2 a4 a5 : Option AV} {z : Nat × Option Nat} {st : List AV} {m : MM} {x : Int32} : go 127 14 [a0, a1, a2, some (.inr (.inr z)), a4, a5] (.inl x :: st) m = go 127 16 [a0, a1, a2, some (.inr (.inr z)), some (.inl x), a5] st m := e_1 d127_14 (Or.inl rfl) rfl
theorem s127_14n {a0 a1 a2 a4 a5 : Option AV} {st : List AV} {m : MM} {x : Int32} : go 127 14 [a0, a1, a2, none, a4, a5] (.inl x :: st) m = go 127 16 [a0, a1, a2, none, some (.inl x), a5] st m := e_1 d127_14 (Or.inl rfl) rfl
theorem d127_16 : decode (mt 127).2.1 16 = .ok (.aload_n 0, 1) := by decide +kernel
theorem s127_16 {a1 a2 a3 a4 a5 : Option AV} {st : List AV} {m : MM} {x : Nat × Option Nat} : go 127 16 [some (.inr (.inr x)), a1, a2, a3, a4, a5] st m = go 127 17 [some (.inr (.inr x)), a1, a2, a3, a4, a5] (.inr (.inr x) :: st) m := e_1 d127_16 (Or.inl rfl) rfl
theorem d127_17 : decode (mt 127).2.1 17 = .ok (.iload_n 1, 1) := by decide +kernel
theorem s127_17 {a0 a2 a3 a4 a5 : Option AV} {st : List AV} {m : MM} {x : Int32} : go 127 17 [a0, some (.inl x), a2, a3, a4, a5] st m = go 127 18 [a0, some (.inl x), a2, a3, a4, a5] (.inl x :: st) m := e_1 d127_17 (Or.inl rfl) rfl
theorem d127_18 : decode (mt 127).2.1 18 = .ok (.iload_n 3, 1) := by decide +kernel
theorem s127_18 {a0 a1 a2 a4 a5 : Option AV} {st : List AV} {m : MM} {x : Int32} : go 127 18 [a0, a1, a2, some (.inl x), a4, a5] st m = go 127 19 [a0, a1, a2, some (.inl x), a4, a5] (.inl x :: st) m := e_1 d127_18 (Or.inl rfl) rfl
theorem d127_19 : decode (mt 127).2.1 19 = .ok (.invokevirtual 143, 3) := by decide +kernel
theorem s127_19 {ls : LV} {m : MM} {x0 : Int32} {x1 : Int32} {n : Nat} : go 127 19 ls [.inl x1, .inl x0, .inr (.inr (8, some n))] m = bd (go 113 0 [some (.inr (.inr (8, some n))), some (.inl x0), some (.inl x1)] [] m) (fun v m2 => go 127 22 ls (v.toList ++ []) m2) := e_virt (y1 := 113) (na := 2) (as := [.inl x0, .inl x1]) (rest := []) d127_19 (by decide +kernel) rfl (by decide +kernel) (show (ent [.inr (.inr (8, some n)), .inl x0, .inl x1]).length ≤ (mt 113).2.2.2.1 from Nat.le_of_ble_eq_true rfl) (cats_le (Nat.le_of_ble_eq_true rfl)) (by decide +kernel)
theorem d127_22 : decode (mt 127).2.1 22 = .ok (.istore 5, 2) := by decide +kernel
theorem s127_22i {a0 a1 a2 a3 a5 : Option AV} {z : Int32} {st : List AV} {m : MM} {x : Int32} : go 127 22 [a0, a1, a2, a3, some (.inl z), a5] (.inl x :: st) m = go 127 24 [a0, a1, a2, a3, some (.inl z), some (.inl x)] st m := e_1 d127_22 (Or.inl rfl) rfl
theorem s127_22r {a0 a1 a2 a3 a5 : Option AV} {z : Nat × Option Nat} {st : List AV} {m : MM} {x : Int32} : go 127 22 [a0, a1, a2, a3, some (.inr (.inr z)), a5] (.inl x :: st) m = go 127 24 [a0, a1, a2, a3, some (.inr (.inr z)), some (.inl x)] st m := e_1 d127_22 (Or.inl rfl) rfl
theorem s127_22n {a0 a1 a2 a3 a5 : Option AV} {st : List AV} {m : MM} {x : Int32} : go 127 22 [a0, a1, a2, a3, none, a5] (.inl x :: st) m = go 127 24 [a0, a1, a2, a3, none, some (.inl x)] st m := e_1 d127_22 (Or.inl rfl) rfl
theorem d127_24 : decode (mt 127).2.1 24 = .ok (.iload 4, 2) := by decide +kernel
theorem s127_24 {a0 a1 a2 a3 a5 : Option AV} {st : List AV} {m : MM} {x : Int32} : go 127 24 [a0, a1, a2, a3, some (.inl x), a5] st m = go 127 26 [a0, a1, a2, a3, some (.inl x), a5] (.inl x :: st) m := e_1 d127_24 (Or.inl rfl) rfl
theorem d127_26 : decode (mt 127).2.1 26 = .ok (.bipush (-4), 2) := by decide +kernel
theorem s127_26 {ls : LV} {st : List AV} {m : MM} : go 127 26 ls st m = go 127 28 ls (.inl (-4) :: st) m := e_1 d127_26 (Or.inl rfl) rfl
theorem d127_28 : decode (mt 127).2.1 28 = .ok (.if_icmp .eq 19, 3) := by decide +kernel
theorem s127_28 {ls : LV} {st : List AV} {m : MM} {a b : Int32} : go 127 28 ls (.inl b :: .inl a :: st) m = if a = b then go 127 47 ls st m else go 127 31 ls st m := e_if (t := 47) (b := hc .eq a b) d127_28 (Or.inl rfl) (by simp only [xi, pI, jm_some (t := 47) (show ((28 : Nat) : Int) + 19 = ((47 : Nat) : Int) by decide), Option.bind_some]) (by simp [hc])
theorem d127_31 : decode (mt 127).2.1 31 = .ok (.aload_n 0, 1) := by decide +kernel
theorem s127_31 {a1 a2 a3 a4 a5 : Option AV} {st : List AV} {m : MM} {x : Nat × Option Nat} : go 127 31 [some (.inr (.inr x)), a1, a2, a3, a4, a5] st m = go 127 32 [some (.inr (.inr x)), a1, a2, a3, a4, a5] (.inr (.inr x) :: st) m := e_1 d127_31 (Or.inl rfl) rfl
theorem d127_32 : decode (mt 127).2.1 32 = .ok (.bipush 7, 2) := by decide +kernel
theorem s127_32 {ls : LV} {st : List AV} {m : MM} : go 127 32 ls st m = go 127 34 ls (.inl 7 :: st) m := e_1 d127_32 (Or.inl rfl) rfl
theorem d127_34 : decode (mt 127).2.1 34 = .ok (.iload 4, 2) := by decide +kernel
theorem s127_34 {a0 a1 a2 a3 a5 : Option AV} {st : List AV} {m : MM} {x : Int32} : go 127 34 [a0, a1, a2, a3, some (.inl x), a5] st m = go 127 36 [a0, a1, a2, a3, some (.inl x), a5] (.inl x :: st) m := e_1 d127_34 (Or.inl rfl) rfl
theorem d127_36 : decode (mt 127).2.1 36 = .ok (.bipush (-4), 2) := by decide +kernel
theorem s127_36 {ls : LV} {st : List AV} {m : MM} : go 127 36 ls st m = go 127 38 ls (.inl (-4) :: st) m := e_1 d127_36 (Or.inl rfl) rfl
theorem d127_38 : decode (mt 127).2.1 38 = .ok (.iload_n 3, 1) := by decide +kernel
theorem s127_38 {a0 a1 a2 a4 a5 : Option AV} {st : List AV} {m : MM} {x : Int32} : go 127 38 [a0, a1, a2, some (.inl x), a4, a5] st m = go 127 39 [a0, a1, a2, some (.inl x), a4, a5] (.inl x :: st) m := e_1 d127_38 (Or.inl rfl) rfl
theorem d127_39 : decode (mt 127).2.1 39 = .ok (.iconst 1, 1) := by decide +kernel
theorem s127_39 {ls : LV} {st : List AV} {m : MM} : go 127 39 ls st m = go 127 40 ls (.inl 1 :: st) m := e_1 d127_39 (Or.inl rfl) rfl
theorem d127_40 : decode (mt 127).2.1 40 = .ok (.iload 5, 2) := by decide +kernel
theorem s127_40 {a0 a1 a2 a3 a4 : Option AV} {st : List AV} {m : MM} {x : Int32} : go 127 40 [a0, a1, a2, a3, a4, some (.inl x)] st m = go 127 42 [a0, a1, a2, a3, a4, some (.inl x)] (.inl x :: st) m := e_1 d127_40 (Or.inl rfl) rfl
theorem d127_42 : decode (mt 127).2.1 42 = .ok (.bipush (-4), 2) := by decide +kernel
theorem s127_42 {ls : LV} {st : List AV} {m : MM} : go 127 42 ls st m = go 127 44 ls (.inl (-4) :: st) m := e_1 d127_42 (Or.inl rfl) rfl
theorem d127_44 : decode (mt 127).2.1 44 = .ok (.invokevirtual 159, 3) := by decide +kernel
theorem s127_44 {ls : LV} {m : MM} {x0 : Int32} {x1 : Int32} {x2 : Int32} {x3 : Int32} {x4 : Int32} {x5 : Int32} {x6 : Int32} {n : Nat} : go 127 44 ls [.inl x6, .inl x5, .inl x4, .inl x3, .inl x2, .inl x1, .inl x0, .inr (.inr (8, some n))] m = bd (go 119 0 [some (.inr (.inr (8, some n))), some (.inl x0), some (.inl x1), some (.inl x2), some (.inl x3), some (.inl x4), some (.inl x5), some (.inl x6), none] [] m) (fun v m2 => go 127 47 ls (v.toList ++ []) m2) := e_virt (y1 := 119) (na := 7) (as := [.inl x0, .inl x1, .inl x2, .inl x3, .inl x4, .inl x5, .inl x6]) (rest := []) d127_44 (by decide +kernel) rfl (by decide +kernel) (show (ent [.inr (.inr (8, some n)), .inl x0, .inl x1, .inl x2, .inl x3, .inl x4, .inl x5, .inl x6]).length ≤ (mt 119).2.2.2.1 from Nat.le_of_ble_eq_true rfl) (cats_le (Nat.le_of_ble_eq_true rfl)) (by decide +kernel)
theorem d127_47 : decode (mt 127).2.1 47 = .ok (.iload 5, 2) := by decide +kernel
theorem s127_47 {a0 a1 a2 a3 a4 : Option AV} {st : List AV} {m : MM} {x : Int32} : go 127 47 [a0, a1, a2, a3, a4, some (.inl x)] st m = go 127 49 [a0, a1, a2, a3, a4, some (.inl x)] (.inl x :: st) m := e_1 d127_47 (Or.inl rfl) rfl
theorem d127_49 : decode (mt 127).2.1 49 = .ok (.bipush (-4), 2) := by decide +kernel
theorem s127_49 {ls : LV} {st : List AV} {m : MM} : go 127 49 ls st m = go 127 51 ls (.inl (-4) :: st) m := e_1 d127_49 (Or.inl rfl) rfl
theorem d127_51 : decode (mt 127).2.1 51 = .ok (.if_icmp .eq 19, 3) := by decide +kernel
theorem s127_51 {ls : LV} {st : List AV} {m : MM} {a b : Int32} : go 127 51 ls (.inl b :: .inl a :: st) m = if a = b then go 127 70 ls st m else go 127 54 ls st m := e_if (t := 70) (b := hc .eq a b) d127_51 (Or.inl rfl) (by simp only [xi, pI, jm_some (t := 70) (show ((51 : Nat) : Int) + 19 = ((70 : Nat) : Int) by decide), Option.bind_some]) (by simp [hc])
theorem d127_54 : decode (mt 127).2.1 54 = .ok (.aload_n 0, 1) := by decide +kernel
theorem s127_54 {a1 a2 a3 a4 a5 : Option AV} {st : List AV} {m : MM} {x : Nat × Option Nat} : go 127 54 [some (.inr (.inr x)), a1, a2, a3, a4, a5] st m = go 127 55 [some (.inr (.inr x)), a1, a2, a3, a4, a5] (.inr (.inr x) :: st) m := e_1 d127_54 (Or.inl rfl) rfl
theorem d127_55 : decode (mt 127).2.1 55 = .ok (.bipush 7, 2) := by decide +kernel
theorem s127_55 {ls : LV} {st : List AV} {m : MM} : go 127 55 ls st m = go 127 57 ls (.inl 7 :: st) m := e_1 d127_55 (Or.inl rfl) rfl
theorem d127_57 : decode (mt 127).2.1 57 = .ok (.iload 5, 2) := by decide +kernel
theorem s127_57 {a0 a1 a2 a3 a4 : Option AV} {st : List AV} {m : MM} {x : Int32} : go 127 57 [a0, a1, a2, a3, a4, some (.inl x)] st m = go 127 59 [a0, a1, a2, a3, a4, some (.inl x)] (.inl x :: st) m := e_1 d127_57 (Or.inl rfl) rfl
theorem d127_59 : decode (mt 127).2.1 59 = .ok (.bipush (-4), 2) := by decide +kernel
theorem s127_59 {ls : LV} {st : List AV} {m : MM} : go 127 59 ls st m = go 127 61 ls (.inl (-4) :: st) m := e_1 d127_59 (Or.inl rfl) rfl
theorem d127_61 : decode (mt 127).2.1 61 = .ok (.iload_n 3, 1) := by decide +kernel
theorem s127_61 {a0 a1 a2 a4 a5 : Option AV} {st : List AV} {m : MM} {x : Int32} : go 127 61 [a0, a1, a2, some (.inl x), a4, a5] st m = go 127 62 [a0, a1, a2, some (.inl x), a4, a5] (.inl x :: st) m := e_1 d127_61 (Or.inl rfl) rfl
theorem d127_62 : decode (mt 127).2.1 62 = .ok (.iconst 0, 1) := by decide +kernel
theorem s127_62 {ls : LV} {st : List AV} {m : MM} : go 127 62 ls st m = go 127 63 ls (.inl 0 :: st) m := e_1 d127_62 (Or.inl rfl) rfl
theorem d127_63 : decode (mt 127).2.1 63 = .ok (.iload 4, 2) := by decide +kernel
theorem s127_63 {a0 a1 a2 a3 a5 : Option AV} {st : List AV} {m : MM} {x : Int32} : go 127 63 [a0, a1, a2, a3, some (.inl x), a5] st m = go 127 65 [a0, a1, a2, a3, some (.inl x), a5] (.inl x :: st) m := e_1 d127_63 (Or.inl rfl) rfl
theorem d127_65 : decode (mt 127).2.1 65 = .ok (.bipush (-4), 2) := by decide +kernel
theorem s127_65 {ls : LV} {st : List AV} {m : MM} : go 127 65 ls st m = go 127 67 ls (.inl (-4) :: st) m := e_1 d127_65 (Or.inl rfl) rfl
theorem d127_67 : decode (mt 127).2.1 67 = .ok (.invokevirtual 159, 3) := by decide +kernel
theorem s127_67 {ls : LV} {m : MM} {x0 : Int32} {x1 : Int32} {x2 : Int32} {x3 : Int32} {x4 : Int32} {x5 : Int32} {x6 : Int32} {n : Nat} : go 127 67 ls [.inl x6, .inl x5, .inl x4, .inl x3, .inl x2, .inl x1, .inl x0, .inr (.inr (8, some n))] m = bd (go 119 0 [some (.inr (.inr (8, some n))), some (.inl x0), some (.inl x1), some (.inl x2), some (.inl x3), some (.inl x4), some (.inl x5), some (.inl x6), none] [] m) (fun v m2 => go 127 70 ls (v.toList ++ []) m2) := e_virt (y1 := 119) (na := 7) (as := [.inl x0, .inl x1, .inl x2, .inl x3, .inl x4, .inl x5, .inl x6]) (rest := []) d127_67 (by decide +kernel) rfl (by decide +kernel) (show (ent [.inr (.inr (8, some n)), .inl x0, .inl x1, .inl x2, .inl x3, .inl x4, .inl x5, .inl x6]).length ≤ (mt 119).2.2.2.1 from Nat.le_of_ble_eq_true rfl) (cats_le (Nat.le_of_ble_eq_true rfl)) (by decide +kernel)
theorem d127_70 : decode (mt 127).2.1 70 = .ok (.iinc 3 1, 3) := by decide +kernel
theorem s127_70i {a0 a1 a4 a5 : Option AV} {z : Int32} {st : List AV} {m : MM} {x : Int32} : go 127 70 [a0, a1, some (.inl z), some (.inl x), a4, a5] st m = go 127 73 [a0, a1, some (.inl z), some (.inl (x + 1)), a4, a5] st m := e_1 d127_70 (Or.inl rfl) rfl
theorem s127_70r {a0 a1 a4 a5 : Option AV} {z : Nat × Option Nat} {st : List AV} {m : MM} {x : Int32} : go 127 70 [a0, a1, some (.inr (.inr z)), some (.inl x), a4, a5] st m = go 127 73 [a0, a1, some (.inr (.inr z)), some (.inl (x + 1)), a4, a5] st m := e_1 d127_70 (Or.inl rfl) rfl
theorem s127_70n {a0 a1 a4 a5 : Option AV} {st : List AV} {m : MM} {x : Int32} : go 127 70 [a0, a1, none, some (.inl x), a4, a5] st m = go 127 73 [a0, a1, none, some (.inl (x + 1)), a4, a5] st m := e_1 d127_70 (Or.inl rfl) rfl
theorem d127_73 : decode (mt 127).2.1 73 = .ok (.goto (-71), 3) := by decide +kernel
theorem s127_73 {ls : LV} {st : List AV} {m : MM} : go 127 73 ls st m = go 127 2 ls st m := e_1 d127_73 (Or.inl rfl) (by rw [xi, jm_some (t := 2) (by decide)]; rfl)
theorem d127_76 : decode (mt 127).2.1 76 = .ok (.return_, 1) := by decide +kernel
theorem s127_76 {ls : LV} {m : MM} : go 127 76 ls [] m = some (none, m) := e_void d127_76 (by decide +kernel)
