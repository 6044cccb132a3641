/-! printed by wip/gen/eqs.py: the instructions of these methods, an equation each -/
/-! X0_init: 0 -/
theorem d0_0 : decode (mt 0).2.1 0 = .ok (.aload_n 0, 1) := by decide +kernel
theorem s0_0 {a1 a2 a3 a4 a5 a6 : Option AV} {st : List AV} {m : MM} {x : Nat × Option Nat} : go 0 0 [some (.inr (.inr x)), a1, a2, a3, a4, a5, a6] st m = go 0 1 [some (.inr (.inr x)), a1, a2, a3, a4, a5, a6] (.inr (.inr x) :: st) m := e_1 d0_0 (Or.inl rfl) rfl
theorem d0_1 : decode (mt 0).2.1 1 = .ok (.invokespecial 3, 3) := by decide +kernel
theorem s0_1 {ls : LV} {m : MM} {u n : Nat} : go 0 1 ls (.inr (.inr (u, some n)) :: []) m = go 0 4 ls [] m := e_obj d0_1 (by decide +kernel) (cats_le (Nat.le_of_ble_eq_true rfl)) (by decide +kernel)
theorem d0_4 : decode (mt 0).2.1 4 = .ok (.aload_n 0, 1) := by decide +kernel
theorem s0_4 {a1 a2 a3 a4 a5 a6 : Option AV} {st : List AV} {m : MM} {x : Nat × Option Nat} : go 0 4 [some (.inr (.inr x)), a1, a2, a3, a4, a5, a6] st m = go 0 5 [some (.inr (.inr x)), a1, a2, a3, a4, a5, a6] (.inr (.inr x) :: st) m := e_1 d0_4 (Or.inl rfl) rfl
theorem d0_5 : decode (mt 0).2.1 5 = .ok (.bipush 40, 2) := by decide +kernel
theorem s0_5 {ls : LV} {st : List AV} {m : MM} : go 0 5 ls st m = go 0 7 ls (.inl 40 :: st) m := e_1 d0_5 (Or.inl rfl) rfl
theorem d0_7 : decode (mt 0).2.1 7 = .ok (.newarray .byte, 2) := by decide +kernel
theorem s0_7k0 {ls : LV} {st : List AV} {m : MM} : go 0 7 ls (.inl 0 :: st) m = go 0 9 ls (.inr (.inr (9, some (mC m 9))) :: st) (al m 9 0 0) := e_1 d0_7 (Or.inl rfl) (by rw [xi, pI, show lk naL 0 7 = some 9 by decide +kernel, Option.bind_some, if_pos ⟨by decide, by decide, by decide, by decide⟩]; rfl)
theorem s0_7k1 {ls : LV} {st : List AV} {m : MM} : go 0 7 ls (.inl 1 :: st) m = go 0 9 ls (.inr (.inr (9, some (mC m 9))) :: st) (al m 9 1 1) := e_1 d0_7 (Or.inl rfl) (by rw [xi, pI, show lk naL 0 7 = some 9 by decide +kernel, Option.bind_some, if_pos ⟨by decide, by decide, by decide, by decide⟩]; rfl)
theorem s0_7k40 {ls : LV} {st : List AV} {m : MM} : go 0 7 ls (.inl 40 :: st) m = go 0 9 ls (.inr (.inr (9, some (mC m 9))) :: st) (al m 9 40 40) := e_1 d0_7 (Or.inl rfl) (by rw [xi, pI, show lk naL 0 7 = some 9 by decide +kernel, Option.bind_some, if_pos ⟨by decide, by decide, by decide, by decide⟩]; rfl)
theorem d0_9 : decode (mt 0).2.1 9 = .ok (.putfield 9, 3) := by decide +kernel
theorem s0_9r {ls : LV} {st : List AV} {m : MM} {n : Nat} {p : Option Nat} : go 0 9 ls (.inr (.inr (9, p)) :: .inr (.inr (1, some n)) :: st) m = go 0 12 ls st (sR m 1 n 11 p) := e_put (r := 1) (f := 11) d0_9 (by decide +kernel) (by simp [fc, tk, ek, ekL, fk, fkL]) (by decide +kernel)
theorem s0_9n {ls : LV} {st : List AV} {m : MM} {n w : Nat} : go 0 9 ls (.inr (.inr (w, none)) :: .inr (.inr (1, some n)) :: st) m = go 0 12 ls st (sR m 1 n 11 none) := e_put (r := 1) (f := 11) d0_9 (by decide +kernel) (by simp [fc, tk, ek, ekL, fk, fkL]) (by decide +kernel)
theorem d0_12 : decode (mt 0).2.1 12 = .ok (.aload_n 0, 1) := by decide +kernel
theorem s0_12 {a1 a2 a3 a4 a5 a6 : Option AV} {st : List AV} {m : MM} {x : Nat × Option Nat} : go 0 12 [some (.inr (.inr x)), a1, a2, a3, a4, a5, a6] st m = go 0 13 [some (.inr (.inr x)), a1, a2, a3, a4, a5, a6] (.inr (.inr x) :: st) m := e_1 d0_12 (Or.inl rfl) rfl
theorem d0_13 : decode (mt 0).2.1 13 = .ok (.iload_n 1, 1) := by decide +kernel
theorem s0_13 {a0 a2 a3 a4 a5 a6 : Option AV} {st : List AV} {m : MM} {x : Int32} : go 0 13 [a0, some (.inl x), a2, a3, a4, a5, a6] st m = go 0 14 [a0, some (.inl x), a2, a3, a4, a5, a6] (.inl x :: st) m := e_1 d0_13 (Or.inl rfl) rfl
theorem d0_14 : decode (mt 0).2.1 14 = .ok (.putfield 15, 3) := by decide +kernel
theorem s0_14 {ls : LV} {st : List AV} {m : MM} {n : Nat} {x : Int32} : go 0 14 ls (.inl x :: .inr (.inr (1, some n)) :: st) m = go 0 17 ls st (sI m 1 n 0 x) := e_put (r := 1) (f := 0) d0_14 (by decide +kernel) rfl (by decide +kernel)
theorem d0_17 : decode (mt 0).2.1 17 = .ok (.aload_n 0, 1) := by decide +kernel
theorem s0_17 {a1 a2 a3 a4 a5 a6 : Option AV} {st : List AV} {m : MM} {x : Nat × Option Nat} : go 0 17 [some (.inr (.inr x)), a1, a2, a3, a4, a5, a6] st m = go 0 18 [some (.inr (.inr x)), a1, a2, a3, a4, a5, a6] (.inr (.inr x) :: st) m := e_1 d0_17 (Or.inl rfl) rfl
theorem d0_18 : decode (mt 0).2.1 18 = .ok (.iload_n 2, 1) := by decide +kernel
theorem s0_18 {a0 a1 a3 a4 a5 a6 : Option AV} {st : List AV} {m : MM} {x : Int32} : go 0 18 [a0, a1, some (.inl x), a3, a4, a5, a6] st m = go 0 19 [a0, a1, some (.inl x), a3, a4, a5, a6] (.inl x :: st) m := e_1 d0_18 (Or.inl rfl) rfl
theorem d0_19 : decode (mt 0).2.1 19 = .ok (.putfield 19, 3) := by decide +kernel
theorem s0_19 {ls : LV} {st : List AV} {m : MM} {n : Nat} {x : Int32} : go 0 19 ls (.inl x :: .inr (.inr (1, some n)) :: st) m = go 0 22 ls st (sI m 1 n 1 x) := e_put (r := 1) (f := 1) d0_19 (by decide +kernel) rfl (by decide +kernel)
theorem d0_22 : decode (mt 0).2.1 22 = .ok (.aload_n 0, 1) := by decide +kernel
theorem s0_22 {a1 a2 a3 a4 a5 a6 : Option AV} {st : List AV} {m : MM} {x : Nat × Option Nat} : go 0 22 [some (.inr (.inr x)), a1, a2, a3, a4, a5, a6] st m = go 0 23 [some (.inr (.inr x)), a1, a2, a3, a4, a5, a6] (.inr (.inr x) :: st) m := e_1 d0_22 (Or.inl rfl) rfl
theorem d0_23 : decode (mt 0).2.1 23 = .ok (.iload_n 3, 1) := by decide +kernel
theorem s0_23 {a0 a1 a2 a4 a5 a6 : Option AV} {st : List AV} {m : MM} {x : Int32} : go 0 23 [a0, a1, a2, some (.inl x), a4, a5, a6] st m = go 0 24 [a0, a1, a2, some (.inl x), a4, a5, a6] (.inl x :: st) m := e_1 d0_23 (Or.inl rfl) rfl
theorem d0_24 : decode (mt 0).2.1 24 = .ok (.putfield 22, 3) := by decide +kernel
theorem s0_24 {ls : LV} {st : List AV} {m : MM} {n : Nat} {x : Int32} : go 0 24 ls (.inl x :: .inr (.inr (1, some n)) :: st) m = go 0 27 ls st (sI m 1 n 2 x) := e_put (r := 1) (f := 2) d0_24 (by decide +kernel) rfl (by decide +kernel)
theorem d0_27 : decode (mt 0).2.1 27 = .ok (.aload_n 0, 1) := by decide +kernel
theorem s0_27 {a1 a2 a3 a4 a5 a6 : Option AV} {st : List AV} {m : MM} {x : Nat × Option Nat} : go 0 27 [some (.inr (.inr x)), a1, a2, a3, a4, a5, a6] st m = go 0 28 [some (.inr (.inr x)), a1, a2, a3, a4, a5, a6] (.inr (.inr x) :: st) m := e_1 d0_27 (Or.inl rfl) rfl
theorem d0_28 : decode (mt 0).2.1 28 = .ok (.iload 4, 2) := by decide +kernel
theorem s0_28 {a0 a1 a2 a3 a5 a6 : Option AV} {st : List AV} {m : MM} {x : Int32} : go 0 28 [a0, a1, a2, a3, some (.inl x), a5, a6] st m = go 0 30 [a0, a1, a2, a3, some (.inl x), a5, a6] (.inl x :: st) m := e_1 d0_28 (Or.inl rfl) rfl
theorem d0_30 : decode (mt 0).2.1 30 = .ok (.putfield 25, 3) := by decide +kernel
theorem s0_30 {ls : LV} {st : List AV} {m : MM} {n : Nat} {x : Int32} : go 0 30 ls (.inl x :: .inr (.inr (1, some n)) :: st) m = go 0 33 ls st (sI m 1 n 3 x) := e_put (r := 1) (f := 3) d0_30 (by decide +kernel) rfl (by decide +kernel)
theorem d0_33 : decode (mt 0).2.1 33 = .ok (.aload_n 0, 1) := by decide +kernel
theorem s0_33 {a1 a2 a3 a4 a5 a6 : Option AV} {st : List AV} {m : MM} {x : Nat × Option Nat} : go 0 33 [some (.inr (.inr x)), a1, a2, a3, a4, a5, a6] st m = go 0 34 [some (.inr (.inr x)), a1, a2, a3, a4, a5, a6] (.inr (.inr x) :: st) m := e_1 d0_33 (Or.inl rfl) rfl
theorem d0_34 : decode (mt 0).2.1 34 = .ok (.lload 5, 2) := by decide +kernel
theorem s0_34 {a0 a1 a2 a3 a4 a6 : Option AV} {st : List AV} {m : MM} {x : Int64} : go 0 34 [a0, a1, a2, a3, a4, some (.inr (.inl x)), a6] st m = go 0 36 [a0, a1, a2, a3, a4, some (.inr (.inl x)), a6] (.inr (.inl x) :: st) m := e_1 d0_34 (Or.inl rfl) rfl
theorem d0_36 : decode (mt 0).2.1 36 = .ok (.putfield 28, 3) := by decide +kernel
theorem s0_36 {ls : LV} {st : List AV} {m : MM} {n : Nat} {x : Int64} : go 0 36 ls (.inr (.inl x) :: .inr (.inr (1, some n)) :: st) m = go 0 39 ls st (sL m 1 n 4 x) := e_put (r := 1) (f := 4) d0_36 (by decide +kernel) rfl (by decide +kernel)
theorem d0_39 : decode (mt 0).2.1 39 = .ok (.aload_n 0, 1) := by decide +kernel
theorem s0_39 {a1 a2 a3 a4 a5 a6 : Option AV} {st : List AV} {m : MM} {x : Nat × Option Nat} : go 0 39 [some (.inr (.inr x)), a1, a2, a3, a4, a5, a6] st m = go 0 40 [some (.inr (.inr x)), a1, a2, a3, a4, a5, a6] (.inr (.inr x) :: st) m := e_1 d0_39 (Or.inl rfl) rfl
theorem d0_40 : decode (mt 0).2.1 40 = .ok (.iload_n 2, 1) := by decide +kernel
theorem s0_40 {a0 a1 a3 a4 a5 a6 : Option AV} {st : List AV} {m : MM} {x : Int32} : go 0 40 [a0, a1, some (.inl x), a3, a4, a5, a6] st m = go 0 41 [a0, a1, some (.inl x), a3, a4, a5, a6] (.inl x :: st) m := e_1 d0_40 (Or.inl rfl) rfl
theorem d0_41 : decode (mt 0).2.1 41 = .ok (.iconst 1, 1) := by decide +kernel
theorem s0_41 {ls : LV} {st : List AV} {m : MM} : go 0 41 ls st m = go 0 42 ls (.inl 1 :: st) m := e_1 d0_41 (Or.inl rfl) rfl
theorem d0_42 : decode (mt 0).2.1 42 = .ok (.if_icmp .ne 8, 3) := by decide +kernel
theorem s0_42 {ls : LV} {st : List AV} {m : MM} {a b : Int32} : go 0 42 ls (.inl b :: .inl a :: st) m = if ¬ a = b then go 0 50 ls st m else go 0 45 ls st m := e_if (t := 50) (b := hc .ne a b) d0_42 (Or.inl rfl) (by simp only [xi, pI, jm_some (t := 50) (show ((42 : Nat) : Int) + 8 = ((50 : Nat) : Int) by decide), Option.bind_some]) (by simp [hc])
theorem d0_45 : decode (mt 0).2.1 45 = .ok (.bipush 40, 2) := by decide +kernel
theorem s0_45 {ls : LV} {st : List AV} {m : MM} : go 0 45 ls st m = go 0 47 ls (.inl 40 :: st) m := e_1 d0_45 (Or.inl rfl) rfl
theorem d0_47 : decode (mt 0).2.1 47 = .ok (.goto 4, 3) := by decide +kernel
theorem s0_47 {ls : LV} {st : List AV} {m : MM} : go 0 47 ls st m = go 0 51 ls st m := e_1 d0_47 (Or.inl rfl) (by rw [xi, jm_some (t := 51) (by decide)]; rfl)
theorem d0_50 : decode (mt 0).2.1 50 = .ok (.iconst 0, 1) := by decide +kernel
theorem s0_50 {ls : LV} {st : List AV} {m : MM} : go 0 50 ls st m = go 0 51 ls (.inl 0 :: st) m := e_1 d0_50 (Or.inl rfl) rfl
theorem d0_51 : decode (mt 0).2.1 51 = .ok (.newarray .byte, 2) := by decide +kernel
theorem s0_51k0 {ls : LV} {st : List AV} {m : MM} : go 0 51 ls (.inl 0 :: st) m = go 0 53 ls (.inr (.inr (10, some (mC m 10))) :: st) (al m 10 0 0) := e_1 d0_51 (Or.inl rfl) (by rw [xi, pI, show lk naL 0 51 = some 10 by decide +kernel, Option.bind_some, if_pos ⟨by decide, by decide, by decide, by decide⟩]; rfl)
theorem s0_51k1 {ls : LV} {st : List AV} {m : MM} : go 0 51 ls (.inl 1 :: st) m = go 0 53 ls (.inr (.inr (10, some (mC m 10))) :: st) (al m 10 1 1) := e_1 d0_51 (Or.inl rfl) (by rw [xi, pI, show lk naL 0 51 = some 10 by decide +kernel, Option.bind_some, if_pos ⟨by decide, by decide, by decide, by decide⟩]; rfl)
theorem s0_51k40 {ls : LV} {st : List AV} {m : MM} : go 0 51 ls (.inl 40 :: st) m = go 0 53 ls (.inr (.inr (10, some (mC m 10))) :: st) (al m 10 40 40) := e_1 d0_51 (Or.inl rfl) (by rw [xi, pI, show lk naL 0 51 = some 10 by decide +kernel, Option.bind_some, if_pos ⟨by decide, by decide, by decide, by decide⟩]; rfl)
theorem d0_53 : decode (mt 0).2.1 53 = .ok (.putfield 32, 3) := by decide +kernel
theorem s0_53r {ls : LV} {st : List AV} {m : MM} {n : Nat} {p : Option Nat} : go 0 53 ls (.inr (.inr (10, p)) :: .inr (.inr (1, some n)) :: st) m = go 0 56 ls st (sR m 1 n 12 p) := e_put (r := 1) (f := 12) d0_53 (by decide +kernel) (by simp [fc, tk, ek, ekL, fk, fkL]) (by decide +kernel)
theorem s0_53n {ls : LV} {st : List AV} {m : MM} {n w : Nat} : go 0 53 ls (.inr (.inr (w, none)) :: .inr (.inr (1, some n)) :: st) m = go 0 56 ls st (sR m 1 n 12 none) := e_put (r := 1) (f := 12) d0_53 (by decide +kernel) (by simp [fc, tk, ek, ekL, fk, fkL]) (by decide +kernel)
theorem d0_56 : decode (mt 0).2.1 56 = .ok (.return_, 1) := by decide +kernel
theorem s0_56 {ls : LV} {m : MM} : go 0 56 ls [] m = some (none, m) := e_void d0_56 (by decide +kernel)
/-! X0_pass: 1 -/
theorem d1_0 : decode (mt 1).2.1 0 = .ok (.aload_n 0, 1) := by decide +kernel
theorem s1_0 {a1 : Option AV} {st : List AV} {m : MM} {x : Nat × Option Nat} : go 1 0 [some (.inr (.inr x)), a1] st m = go 1 1 [some (.inr (.inr x)), a1] (.inr (.inr x) :: st) m := e_1 d1_0 (Or.inl rfl) rfl
theorem d1_1 : decode (mt 1).2.1 1 = .ok (.getfield 35, 3) := by decide +kernel
theorem s1_1 {ls : LV} {st : List AV} {m : MM} {n : Nat} : go 1 1 ls (.inr (.inr (1, some n)) :: st) m = go 1 4 ls (.inl (mI m 1 n 9) :: st) m := e_1 d1_1 (Or.inl rfl) (by rw [xi, pA, show lk fdL (mt 1).2.2.1 35 = some (1, 9) by decide +kernel]; rfl)
theorem d1_4 : decode (mt 1).2.1 4 = .ok (.bipush 40, 2) := by decide +kernel
theorem s1_4 {ls : LV} {st : List AV} {m : MM} : go 1 4 ls st m = go 1 6 ls (.inl 40 :: st) m := e_1 d1_4 (Or.inl rfl) rfl
theorem d1_6 : decode (mt 1).2.1 6 = .ok (.if_icmp .ge 17, 3) := by decide +kernel
theorem s1_6 {ls : LV} {st : List AV} {m : MM} {a b : Int32} : go 1 6 ls (.inl b :: .inl a :: st) m = if b ≤ a then go 1 23 ls st m else go 1 9 ls st m := e_if (t := 23) (b := hc .ge a b) d1_6 (Or.inl rfl) (by simp only [xi, pI, jm_some (t := 23) (show ((6 : Nat) : Int) + 17 = ((23 : Nat) : Int) by decide), Option.bind_some]) (by simp [hc])
theorem d1_9 : decode (mt 1).2.1 9 = .ok (.aload_n 0, 1) := by decide +kernel
theorem s1_9 {a1 : Option AV} {st : List AV} {m : MM} {x : Nat × Option Nat} : go 1 9 [some (.inr (.inr x)), a1] st m = go 1 10 [some (.inr (.inr x)), a1] (.inr (.inr x) :: st) m := e_1 d1_9 (Or.inl rfl) rfl
theorem d1_10 : decode (mt 1).2.1 10 = .ok (.getfield 9, 3) := by decide +kernel
theorem s1_10 {ls : LV} {st : List AV} {m : MM} {n : Nat} : go 1 10 ls (.inr (.inr (1, some n)) :: st) m = go 1 13 ls (.inr (.inr (9, mR m 1 n 11)) :: st) m := e_1 d1_10 (Or.inl rfl) (by rw [xi, pA, show lk fdL (mt 1).2.2.1 9 = some (1, 11) by decide +kernel]; rfl)
theorem d1_13 : decode (mt 1).2.1 13 = .ok (.aload_n 0, 1) := by decide +kernel
theorem s1_13 {a1 : Option AV} {st : List AV} {m : MM} {x : Nat × Option Nat} : go 1 13 [some (.inr (.inr x)), a1] st m = go 1 14 [some (.inr (.inr x)), a1] (.inr (.inr x) :: st) m := e_1 d1_13 (Or.inl rfl) rfl
theorem d1_14 : decode (mt 1).2.1 14 = .ok (.getfield 35, 3) := by decide +kernel
theorem s1_14 {ls : LV} {st : List AV} {m : MM} {n : Nat} : go 1 14 ls (.inr (.inr (1, some n)) :: st) m = go 1 17 ls (.inl (mI m 1 n 9) :: st) m := e_1 d1_14 (Or.inl rfl) (by rw [xi, pA, show lk fdL (mt 1).2.2.1 35 = some (1, 9) by decide +kernel]; rfl)
theorem d1_17 : decode (mt 1).2.1 17 = .ok (.aload_n 1, 1) := by decide +kernel
theorem s1_17 {a0 : Option AV} {st : List AV} {m : MM} {x : Nat × Option Nat} : go 1 17 [a0, some (.inr (.inr x))] st m = go 1 18 [a0, some (.inr (.inr x))] (.inr (.inr x) :: st) m := e_1 d1_17 (Or.inl rfl) rfl
theorem d1_18 : decode (mt 1).2.1 18 = .ok (.getfield 38, 3) := by decide +kernel
theorem s1_18 {ls : LV} {st : List AV} {m : MM} {n : Nat} : go 1 18 ls (.inr (.inr (6, some n)) :: st) m = go 1 21 ls (.inl (mI m 6 n 0) :: st) m := e_1 d1_18 (Or.inl rfl) (by rw [xi, pA, show lk fdL (mt 1).2.2.1 38 = some (6, 0) by decide +kernel]; rfl)
theorem d1_21 : decode (mt 1).2.1 21 = .ok (.i2b, 1) := by decide +kernel
theorem s1_21 {ls : LV} {st : List AV} {m : MM} {a : Int32} : go 1 21 ls (.inl a :: st) m = go 1 22 ls (.inl a.toInt8.toInt32 :: st) m := e_1 d1_21 (Or.inl rfl) rfl
theorem d1_22 : decode (mt 1).2.1 22 = .ok (.bastore, 1) := by decide +kernel
theorem s1_22 {ls : LV} {st : List AV} {m : MM} {n : Nat} {i : Int32} {x : Int32} (h : x.toInt8.toInt32 = x) : go 1 22 ls (.inl x :: .inl i :: .inr (.inr (9, some n)) :: st) m = ixk (ix i (mN m 9 n)) (fun j => go 1 23 ls st (sI m 9 n j x)) := e_ald d1_22 (fun j hj => by simp only [xi, pI, pL, pR, pA, hj, Option.bind_some]; exact if_pos (Or.inr ⟨rfl, h⟩)) (fun hj => by simp only [xi, pI, pL, pR, pA, hj, Option.bind_none])
theorem d1_23 : decode (mt 1).2.1 23 = .ok (.aload_n 0, 1) := by decide +kernel
theorem s1_23 {a1 : Option AV} {st : List AV} {m : MM} {x : Nat × Option Nat} : go 1 23 [some (.inr (.inr x)), a1] st m = go 1 24 [some (.inr (.inr x)), a1] (.inr (.inr x) :: st) m := e_1 d1_23 (Or.inl rfl) rfl
theorem d1_24 : decode (mt 1).2.1 24 = .ok (.dup, 1) := by decide +kernel
theorem s1_24 {ls : LV} {st : List AV} {m : MM} {x : Nat × Option Nat} : go 1 24 ls (.inr (.inr x) :: st) m = go 1 25 ls (.inr (.inr x) :: .inr (.inr x) :: st) m := e_1 d1_24 (Or.inl rfl) rfl
theorem d1_25 : decode (mt 1).2.1 25 = .ok (.getfield 35, 3) := by decide +kernel
theorem s1_25 {ls : LV} {st : List AV} {m : MM} {n : Nat} : go 1 25 ls (.inr (.inr (1, some n)) :: st) m = go 1 28 ls (.inl (mI m 1 n 9) :: st) m := e_1 d1_25 (Or.inl rfl) (by rw [xi, pA, show lk fdL (mt 1).2.2.1 35 = some (1, 9) by decide +kernel]; rfl)
theorem d1_28 : decode (mt 1).2.1 28 = .ok (.iconst 1, 1) := by decide +kernel
theorem s1_28 {ls : LV} {st : List AV} {m : MM} : go 1 28 ls st m = go 1 29 ls (.inl 1 :: st) m := e_1 d1_28 (Or.inl rfl) rfl
theorem d1_29 : decode (mt 1).2.1 29 = .ok (.iadd, 1) := by decide +kernel
theorem s1_29 {ls : LV} {st : List AV} {m : MM} {a b : Int32} : go 1 29 ls (.inl b :: .inl a :: st) m = go 1 30 ls (.inl (a + b) :: st) m := e_1 d1_29 (Or.inl rfl) rfl
theorem d1_30 : decode (mt 1).2.1 30 = .ok (.putfield 35, 3) := by decide +kernel
theorem s1_30 {ls : LV} {st : List AV} {m : MM} {n : Nat} {x : Int32} : go 1 30 ls (.inl x :: .inr (.inr (1, some n)) :: st) m = go 1 33 ls st (sI m 1 n 9 x) := e_put (r := 1) (f := 9) d1_30 (by decide +kernel) rfl (by decide +kernel)
theorem d1_33 : decode (mt 1).2.1 33 = .ok (.return_, 1) := by decide +kernel
theorem s1_33 {ls : LV} {m : MM} : go 1 33 ls [] m = some (none, m) := e_void d1_33 (by decide +kernel)
/-! X0_note: 2 -/
theorem d2_0 : decode (mt 2).2.1 0 = .ok (.aload_n 0, 1) := by decide +kernel
theorem s2_0 {a1 : Option AV} {st : List AV} {m : MM} {x : Nat × Option Nat} : go 2 0 [some (.inr (.inr x)), a1] st m = go 2 1 [some (.inr (.inr x)), a1] (.inr (.inr x) :: st) m := e_1 d2_0 (Or.inl rfl) rfl
theorem d2_1 : decode (mt 2).2.1 1 = .ok (.getfield 41, 3) := by decide +kernel
theorem s2_1 {ls : LV} {st : List AV} {m : MM} {n : Nat} : go 2 1 ls (.inr (.inr (1, some n)) :: st) m = go 2 4 ls (.inl (mI m 1 n 10) :: st) m := e_1 d2_1 (Or.inl rfl) (by rw [xi, pA, show lk fdL (mt 2).2.2.1 41 = some (1, 10) by decide +kernel]; rfl)
theorem d2_4 : decode (mt 2).2.1 4 = .ok (.aload_n 0, 1) := by decide +kernel
theorem s2_4 {a1 : Option AV} {st : List AV} {m : MM} {x : Nat × Option Nat} : go 2 4 [some (.inr (.inr x)), a1] st m = go 2 5 [some (.inr (.inr x)), a1] (.inr (.inr x) :: st) m := e_1 d2_4 (Or.inl rfl) rfl
theorem d2_5 : decode (mt 2).2.1 5 = .ok (.getfield 32, 3) := by decide +kernel
theorem s2_5 {ls : LV} {st : List AV} {m : MM} {n : Nat} : go 2 5 ls (.inr (.inr (1, some n)) :: st) m = go 2 8 ls (.inr (.inr (10, mR m 1 n 12)) :: st) m := e_1 d2_5 (Or.inl rfl) (by rw [xi, pA, show lk fdL (mt 2).2.2.1 32 = some (1, 12) by decide +kernel]; rfl)
theorem d2_8 : decode (mt 2).2.1 8 = .ok (.arraylength, 1) := by decide +kernel
theorem s2_8 {ls : LV} {st : List AV} {m : MM} {n : Nat} : go 2 8 ls (.inr (.inr (10, some n)) :: st) m = go 2 9 ls (.inl (nI (mN m 10 n)) :: st) m := e_1 d2_8 (Or.inl rfl) rfl
theorem d2_9 : decode (mt 2).2.1 9 = .ok (.if_icmp .ge 17, 3) := by decide +kernel
theorem s2_9 {ls : LV} {st : List AV} {m : MM} {a b : Int32} : go 2 9 ls (.inl b :: .inl a :: st) m = if b ≤ a then go 2 26 ls st m else go 2 12 ls st m := e_if (t := 26) (b := hc .ge a b) d2_9 (Or.inl rfl) (by simp only [xi, pI, jm_some (t := 26) (show ((9 : Nat) : Int) + 17 = ((26 : Nat) : Int) by decide), Option.bind_some]) (by simp [hc])
theorem d2_12 : decode (mt 2).2.1 12 = .ok (.aload_n 0, 1) := by decide +kernel
theorem s2_12 {a1 : Option AV} {st : List AV} {m : MM} {x : Nat × Option Nat} : go 2 12 [some (.inr (.inr x)), a1] st m = go 2 13 [some (.inr (.inr x)), a1] (.inr (.inr x) :: st) m := e_1 d2_12 (Or.inl rfl) rfl
theorem d2_13 : decode (mt 2).2.1 13 = .ok (.getfield 32, 3) := by decide +kernel
theorem s2_13 {ls : LV} {st : List AV} {m : MM} {n : Nat} : go 2 13 ls (.inr (.inr (1, some n)) :: st) m = go 2 16 ls (.inr (.inr (10, mR m 1 n 12)) :: st) m := e_1 d2_13 (Or.inl rfl) (by rw [xi, pA, show lk fdL (mt 2).2.2.1 32 = some (1, 12) by decide +kernel]; rfl)
theorem d2_16 : decode (mt 2).2.1 16 = .ok (.aload_n 0, 1) := by decide +kernel
theorem s2_16 {a1 : Option AV} {st : List AV} {m : MM} {x : Nat × Option Nat} : go 2 16 [some (.inr (.inr x)), a1] st m = go 2 17 [some (.inr (.inr x)), a1] (.inr (.inr x) :: st) m := e_1 d2_16 (Or.inl rfl) rfl
theorem d2_17 : decode (mt 2).2.1 17 = .ok (.getfield 41, 3) := by decide +kernel
theorem s2_17 {ls : LV} {st : List AV} {m : MM} {n : Nat} : go 2 17 ls (.inr (.inr (1, some n)) :: st) m = go 2 20 ls (.inl (mI m 1 n 10) :: st) m := e_1 d2_17 (Or.inl rfl) (by rw [xi, pA, show lk fdL (mt 2).2.2.1 41 = some (1, 10) by decide +kernel]; rfl)
theorem d2_20 : decode (mt 2).2.1 20 = .ok (.aload_n 1, 1) := by decide +kernel
theorem s2_20 {a0 : Option AV} {st : List AV} {m : MM} {x : Nat × Option Nat} : go 2 20 [a0, some (.inr (.inr x))] st m = go 2 21 [a0, some (.inr (.inr x))] (.inr (.inr x) :: st) m := e_1 d2_20 (Or.inl rfl) rfl
theorem d2_21 : decode (mt 2).2.1 21 = .ok (.getfield 38, 3) := by decide +kernel
theorem s2_21 {ls : LV} {st : List AV} {m : MM} {n : Nat} : go 2 21 ls (.inr (.inr (6, some n)) :: st) m = go 2 24 ls (.inl (mI m 6 n 0) :: st) m := e_1 d2_21 (Or.inl rfl) (by rw [xi, pA, show lk fdL (mt 2).2.2.1 38 = some (6, 0) by decide +kernel]; rfl)
theorem d2_24 : decode (mt 2).2.1 24 = .ok (.i2b, 1) := by decide +kernel
theorem s2_24 {ls : LV} {st : List AV} {m : MM} {a : Int32} : go 2 24 ls (.inl a :: st) m = go 2 25 ls (.inl a.toInt8.toInt32 :: st) m := e_1 d2_24 (Or.inl rfl) rfl
theorem d2_25 : decode (mt 2).2.1 25 = .ok (.bastore, 1) := by decide +kernel
theorem s2_25 {ls : LV} {st : List AV} {m : MM} {n : Nat} {i : Int32} {x : Int32} (h : x.toInt8.toInt32 = x) : go 2 25 ls (.inl x :: .inl i :: .inr (.inr (10, some n)) :: st) m = ixk (ix i (mN m 10 n)) (fun j => go 2 26 ls st (sI m 10 n j x)) := e_ald d2_25 (fun j hj => by simp only [xi, pI, pL, pR, pA, hj, Option.bind_some]; exact if_pos (Or.inr ⟨rfl, h⟩)) (fun hj => by simp only [xi, pI, pL, pR, pA, hj, Option.bind_none])
theorem d2_26 : decode (mt 2).2.1 26 = .ok (.aload_n 0, 1) := by decide +kernel
theorem s2_26 {a1 : Option AV} {st : List AV} {m : MM} {x : Nat × Option Nat} : go 2 26 [some (.inr (.inr x)), a1] st m = go 2 27 [some (.inr (.inr x)), a1] (.inr (.inr x) :: st) m := e_1 d2_26 (Or.inl rfl) rfl
theorem d2_27 : decode (mt 2).2.1 27 = .ok (.dup, 1) := by decide +kernel
theorem s2_27 {ls : LV} {st : List AV} {m : MM} {x : Nat × Option Nat} : go 2 27 ls (.inr (.inr x) :: st) m = go 2 28 ls (.inr (.inr x) :: .inr (.inr x) :: st) m := e_1 d2_27 (Or.inl rfl) rfl
theorem d2_28 : decode (mt 2).2.1 28 = .ok (.getfield 41, 3) := by decide +kernel
theorem s2_28 {ls : LV} {st : List AV} {m : MM} {n : Nat} : go 2 28 ls (.inr (.inr (1, some n)) :: st) m = go 2 31 ls (.inl (mI m 1 n 10) :: st) m := e_1 d2_28 (Or.inl rfl) (by rw [xi, pA, show lk fdL (mt 2).2.2.1 41 = some (1, 10) by decide +kernel]; rfl)
theorem d2_31 : decode (mt 2).2.1 31 = .ok (.iconst 1, 1) := by decide +kernel
theorem s2_31 {ls : LV} {st : List AV} {m : MM} : go 2 31 ls st m = go 2 32 ls (.inl 1 :: st) m := e_1 d2_31 (Or.inl rfl) rfl
theorem d2_32 : decode (mt 2).2.1 32 = .ok (.iadd, 1) := by decide +kernel
theorem s2_32 {ls : LV} {st : List AV} {m : MM} {a b : Int32} : go 2 32 ls (.inl b :: .inl a :: st) m = go 2 33 ls (.inl (a + b) :: st) m := e_1 d2_32 (Or.inl rfl) rfl
theorem d2_33 : decode (mt 2).2.1 33 = .ok (.putfield 41, 3) := by decide +kernel
theorem s2_33 {ls : LV} {st : List AV} {m : MM} {n : Nat} {x : Int32} : go 2 33 ls (.inl x :: .inr (.inr (1, some n)) :: st) m = go 2 36 ls st (sI m 1 n 10 x) := e_put (r := 1) (f := 10) d2_33 (by decide +kernel) rfl (by decide +kernel)
theorem d2_36 : decode (mt 2).2.1 36 = .ok (.return_, 1) := by decide +kernel
theorem s2_36 {ls : LV} {m : MM} : go 2 36 ls [] m = some (none, m) := e_void d2_36 (by decide +kernel)
/-! X0_finish: 3 -/
theorem d3_0 : decode (mt 3).2.1 0 = .ok (.aload_n 0, 1) := by decide +kernel
theorem s3_0 {a1 : Option AV} {st : List AV} {m : MM} {x : Nat × Option Nat} : go 3 0 [some (.inr (.inr x)), a1] st m = go 3 1 [some (.inr (.inr x)), a1] (.inr (.inr x) :: st) m := e_1 d3_0 (Or.inl rfl) rfl
theorem d3_1 : decode (mt 3).2.1 1 = .ok (.iconst 1, 1) := by decide +kernel
theorem s3_1 {ls : LV} {st : List AV} {m : MM} : go 3 1 ls st m = go 3 2 ls (.inl 1 :: st) m := e_1 d3_1 (Or.inl rfl) rfl
theorem d3_2 : decode (mt 3).2.1 2 = .ok (.putfield 44, 3) := by decide +kernel
theorem s3_2b0 {ls : LV} {st : List AV} {m : MM} {n : Nat} : go 3 2 ls (.inl 0 :: .inr (.inr (1, some n)) :: st) m = go 3 5 ls st (sI m 1 n 6 0) := e_put (r := 1) (f := 6) d3_2 (by decide +kernel) rfl (by decide +kernel)
theorem s3_2b1 {ls : LV} {st : List AV} {m : MM} {n : Nat} : go 3 2 ls (.inl 1 :: .inr (.inr (1, some n)) :: st) m = go 3 5 ls st (sI m 1 n 6 1) := e_put (r := 1) (f := 6) d3_2 (by decide +kernel) rfl (by decide +kernel)
theorem d3_5 : decode (mt 3).2.1 5 = .ok (.aload_n 0, 1) := by decide +kernel
theorem s3_5 {a1 : Option AV} {st : List AV} {m : MM} {x : Nat × Option Nat} : go 3 5 [some (.inr (.inr x)), a1] st m = go 3 6 [some (.inr (.inr x)), a1] (.inr (.inr x) :: st) m := e_1 d3_5 (Or.inl rfl) rfl
theorem d3_6 : decode (mt 3).2.1 6 = .ok (.iload_n 1, 1) := by decide +kernel
theorem s3_6 {a0 : Option AV} {st : List AV} {m : MM} {x : Int32} : go 3 6 [a0, some (.inl x)] st m = go 3 7 [a0, some (.inl x)] (.inl x :: st) m := e_1 d3_6 (Or.inl rfl) rfl
theorem d3_7 : decode (mt 3).2.1 7 = .ok (.putfield 48, 3) := by decide +kernel
theorem s3_7 {ls : LV} {st : List AV} {m : MM} {n : Nat} {x : Int32} : go 3 7 ls (.inl x :: .inr (.inr (1, some n)) :: st) m = go 3 10 ls st (sI m 1 n 8 x) := e_put (r := 1) (f := 8) d3_7 (by decide +kernel) rfl (by decide +kernel)
theorem d3_10 : decode (mt 3).2.1 10 = .ok (.return_, 1) := by decide +kernel
theorem s3_10 {ls : LV} {m : MM} : go 3 10 ls [] m = some (none, m) := e_void d3_10 (by decide +kernel)
/-! X0_lose: 4 -/
theorem d4_0 : decode (mt 4).2.1 0 = .ok (.aload_n 0, 1) := by decide +kernel
theorem s4_0 {st : List AV} {m : MM} {x : Nat × Option Nat} : go 4 0 [some (.inr (.inr x))] st m = go 4 1 [some (.inr (.inr x))] (.inr (.inr x) :: st) m := e_1 d4_0 (Or.inl rfl) rfl
theorem d4_1 : decode (mt 4).2.1 1 = .ok (.iconst 1, 1) := by decide +kernel
theorem s4_1 {ls : LV} {st : List AV} {m : MM} : go 4 1 ls st m = go 4 2 ls (.inl 1 :: st) m := e_1 d4_1 (Or.inl rfl) rfl
theorem d4_2 : decode (mt 4).2.1 2 = .ok (.putfield 51, 3) := by decide +kernel
theorem s4_2b0 {ls : LV} {st : List AV} {m : MM} {n : Nat} : go 4 2 ls (.inl 0 :: .inr (.inr (1, some n)) :: st) m = go 4 5 ls st (sI m 1 n 7 0) := e_put (r := 1) (f := 7) d4_2 (by decide +kernel) rfl (by decide +kernel)
theorem s4_2b1 {ls : LV} {st : List AV} {m : MM} {n : Nat} : go 4 2 ls (.inl 1 :: .inr (.inr (1, some n)) :: st) m = go 4 5 ls st (sI m 1 n 7 1) := e_put (r := 1) (f := 7) d4_2 (by decide +kernel) rfl (by decide +kernel)
theorem d4_5 : decode (mt 4).2.1 5 = .ok (.aload_n 0, 1) := by decide +kernel
theorem s4_5 {st : List AV} {m : MM} {x : Nat × Option Nat} : go 4 5 [some (.inr (.inr x))] st m = go 4 6 [some (.inr (.inr x))] (.inr (.inr x) :: st) m := e_1 d4_5 (Or.inl rfl) rfl
theorem d4_6 : decode (mt 4).2.1 6 = .ok (.bipush (-4), 2) := by decide +kernel
theorem s4_6 {ls : LV} {st : List AV} {m : MM} : go 4 6 ls st m = go 4 8 ls (.inl (-4) :: st) m := e_1 d4_6 (Or.inl rfl) rfl
theorem d4_8 : decode (mt 4).2.1 8 = .ok (.invokevirtual 54, 3) := by decide +kernel
theorem s4_8 {ls : LV} {m : MM} {x0 : Int32} {n : Nat} : go 4 8 ls [.inl x0, .inr (.inr (1, some n))] m = bd (go 3 0 [some (.inr (.inr (1, some n))), some (.inl x0)] [] m) (fun v m2 => go 4 11 ls (v.toList ++ []) m2) := e_virt (y1 := 3) (na := 1) (as := [.inl x0]) (rest := []) d4_8 (by decide +kernel) rfl (by decide +kernel) (show (ent [.inr (.inr (1, some n)), .inl x0]).length ≤ (mt 3).2.2.2.1 from Nat.le_of_ble_eq_true rfl) (cats_le (Nat.le_of_ble_eq_true rfl)) (by decide +kernel)
theorem d4_11 : decode (mt 4).2.1 11 = .ok (.return_, 1) := by decide +kernel
theorem s4_11 {ls : LV} {m : MM} : go 4 11 ls [] m = some (none, m) := e_void d4_11 (by decide +kernel)
/-! X1_init: 5 -/
theorem d5_0 : decode (mt 5).2.1 0 = .ok (.aload_n 0, 1) := by decide +kernel
theorem s5_0 {st : List AV} {m : MM} {x : Nat × Option Nat} : go 5 0 [some (.inr (.inr x))] st m = go 5 1 [some (.inr (.inr x))] (.inr (.inr x) :: st) m := e_1 d5_0 (Or.inl rfl) rfl
theorem d5_1 : decode (mt 5).2.1 1 = .ok (.invokespecial 3, 3) := by decide +kernel
theorem s5_1 {ls : LV} {m : MM} {u n : Nat} : go 5 1 ls (.inr (.inr (u, some n)) :: []) m = go 5 4 ls [] m := e_obj d5_1 (by decide +kernel) (cats_le (Nat.le_of_ble_eq_true rfl)) (by decide +kernel)
theorem d5_4 : decode (mt 5).2.1 4 = .ok (.aload_n 0, 1) := by decide +kernel
theorem s5_4 {st : List AV} {m : MM} {x : Nat × Option Nat} : go 5 4 [some (.inr (.inr x))] st m = go 5 5 [some (.inr (.inr x))] (.inr (.inr x) :: st) m := e_1 d5_4 (Or.inl rfl) rfl
theorem d5_5 : decode (mt 5).2.1 5 = .ok (.iconst 0, 1) := by decide +kernel
theorem s5_5 {ls : LV} {st : List AV} {m : MM} : go 5 5 ls st m = go 5 6 ls (.inl 0 :: st) m := e_1 d5_5 (Or.inl rfl) rfl
theorem d5_6 : decode (mt 5).2.1 6 = .ok (.putfield 9, 3) := by decide +kernel
theorem s5_6 {ls : LV} {st : List AV} {m : MM} {n : Nat} {x : Int32} : go 5 6 ls (.inl x :: .inr (.inr (2, some n)) :: st) m = go 5 9 ls st (sI m 2 n 0 x) := e_put (r := 2) (f := 0) d5_6 (by decide +kernel) rfl (by decide +kernel)
theorem d5_9 : decode (mt 5).2.1 9 = .ok (.aload_n 0, 1) := by decide +kernel
theorem s5_9 {st : List AV} {m : MM} {x : Nat × Option Nat} : go 5 9 [some (.inr (.inr x))] st m = go 5 10 [some (.inr (.inr x))] (.inr (.inr x) :: st) m := e_1 d5_9 (Or.inl rfl) rfl
theorem d5_10 : decode (mt 5).2.1 10 = .ok (.new 15, 3) := by decide +kernel
theorem s5_10 {ls : LV} {st : List AV} {m : MM} : go 5 10 ls st m = go 5 13 ls (.inr (.inr (5, some (mC m 5))) :: st) (al m 5 0 3) := e_1 d5_10 (Or.inl rfl) (by rw [xi, show lk nwL (mt 5).2.2.1 15 = some 5 by decide +kernel]; rfl)
theorem d5_13 : decode (mt 5).2.1 13 = .ok (.dup, 1) := by decide +kernel
theorem s5_13 {ls : LV} {st : List AV} {m : MM} {x : Nat × Option Nat} : go 5 13 ls (.inr (.inr x) :: st) m = go 5 14 ls (.inr (.inr x) :: .inr (.inr x) :: st) m := e_1 d5_13 (Or.inl rfl) rfl
theorem d5_14 : decode (mt 5).2.1 14 = .ok (.invokespecial 17, 3) := by decide +kernel
theorem s5_14 {ls : LV} {m : MM} {w0 w1 : AV} {n : Nat} : go 5 14 ls [.inr (.inr (5, some n)), w0, w1] m = bd (go 15 0 [some (.inr (.inr (5, some n)))] [] m) (fun v m2 => go 5 17 ls (v.toList ++ [w0, w1]) m2) := e_spec (y1 := 15) (na := 0) (as := []) (rest := [w0, w1]) d5_14 (by decide +kernel) rfl (by decide +kernel) (show (ent [.inr (.inr (5, some n))]).length ≤ (mt 15).2.2.2.1 from Nat.le_of_ble_eq_true rfl) (cats_le (Nat.le_of_ble_eq_true rfl)) (by decide +kernel)
theorem d5_17 : decode (mt 5).2.1 17 = .ok (.putfield 18, 3) := by decide +kernel
theorem s5_17r {ls : LV} {st : List AV} {m : MM} {n : Nat} {p : Option Nat} : go 5 17 ls (.inr (.inr (5, p)) :: .inr (.inr (2, some n)) :: st) m = go 5 20 ls st (sR m 2 n 4 p) := e_put (r := 2) (f := 4) d5_17 (by decide +kernel) (by simp [fc, tk, ek, ekL, fk, fkL]) (by decide +kernel)
theorem s5_17n {ls : LV} {st : List AV} {m : MM} {n w : Nat} : go 5 17 ls (.inr (.inr (w, none)) :: .inr (.inr (2, some n)) :: st) m = go 5 20 ls st (sR m 2 n 4 none) := e_put (r := 2) (f := 4) d5_17 (by decide +kernel) (by simp [fc, tk, ek, ekL, fk, fkL]) (by decide +kernel)
theorem d5_20 : decode (mt 5).2.1 20 = .ok (.return_, 1) := by decide +kernel
theorem s5_20 {ls : LV} {m : MM} : go 5 20 ls [] m = some (none, m) := e_void d5_20 (by decide +kernel)
/-! X1_isOn: 6 -/
theorem d6_0 : decode (mt 6).2.1 0 = .ok (.aload_n 0, 1) := by decide +kernel
theorem s6_0 {st : List AV} {m : MM} {x : Nat × Option Nat} : go 6 0 [some (.inr (.inr x))] st m = go 6 1 [some (.inr (.inr x))] (.inr (.inr x) :: st) m := e_1 d6_0 (Or.inl rfl) rfl
theorem d6_1 : decode (mt 6).2.1 1 = .ok (.getfield 9, 3) := by decide +kernel
theorem s6_1 {ls : LV} {st : List AV} {m : MM} {n : Nat} : go 6 1 ls (.inr (.inr (2, some n)) :: st) m = go 6 4 ls (.inl (mI m 2 n 0) :: st) m := e_1 d6_1 (Or.inl rfl) (by rw [xi, pA, show lk fdL (mt 6).2.2.1 9 = some (2, 0) by decide +kernel]; rfl)
theorem d6_4 : decode (mt 6).2.1 4 = .ok (.ifCond .eq 7, 3) := by decide +kernel
theorem s6_4 {ls : LV} {st : List AV} {m : MM} {a : Int32} : go 6 4 ls (.inl a :: st) m = if a = 0 then go 6 11 ls st m else go 6 7 ls st m := e_if (t := 11) (b := hc .eq a 0) d6_4 (Or.inl rfl) (by simp only [xi, pI, jm_some (t := 11) (show ((4 : Nat) : Int) + 7 = ((11 : Nat) : Int) by decide), Option.bind_some]) (by simp [hc])
theorem d6_7 : decode (mt 6).2.1 7 = .ok (.iconst 1, 1) := by decide +kernel
theorem s6_7 {ls : LV} {st : List AV} {m : MM} : go 6 7 ls st m = go 6 8 ls (.inl 1 :: st) m := e_1 d6_7 (Or.inl rfl) rfl
theorem d6_8 : decode (mt 6).2.1 8 = .ok (.goto 4, 3) := by decide +kernel
theorem s6_8 {ls : LV} {st : List AV} {m : MM} : go 6 8 ls st m = go 6 12 ls st m := e_1 d6_8 (Or.inl rfl) (by rw [xi, jm_some (t := 12) (by decide)]; rfl)
theorem d6_11 : decode (mt 6).2.1 11 = .ok (.iconst 0, 1) := by decide +kernel
theorem s6_11 {ls : LV} {st : List AV} {m : MM} : go 6 11 ls st m = go 6 12 ls (.inl 0 :: st) m := e_1 d6_11 (Or.inl rfl) rfl
theorem d6_12 : decode (mt 6).2.1 12 = .ok (.ireturn, 1) := by decide +kernel
theorem s6_12b0 {ls : LV} {m : MM} : go 6 12 ls [.inl 0] m = some (some (.inl 0), m) := e_bool d6_12 (by decide +kernel) (by decide)
theorem s6_12b1 {ls : LV} {m : MM} : go 6 12 ls [.inl 1] m = some (some (.inl 1), m) := e_bool d6_12 (by decide +kernel) (by decide)
/-! X1_begin: 7 -/
theorem d7_0 : decode (mt 7).2.1 0 = .ok (.aload_n 0, 1) := by decide +kernel
theorem s7_0 {a1 a2 : Option AV} {st : List AV} {m : MM} {x : Nat × Option Nat} : go 7 0 [some (.inr (.inr x)), a1, a2] st m = go 7 1 [some (.inr (.inr x)), a1, a2] (.inr (.inr x) :: st) m := e_1 d7_0 (Or.inl rfl) rfl
theorem d7_1 : decode (mt 7).2.1 1 = .ok (.iload_n 1, 1) := by decide +kernel
theorem s7_1 {a0 a2 : Option AV} {st : List AV} {m : MM} {x : Int32} : go 7 1 [a0, some (.inl x), a2] st m = go 7 2 [a0, some (.inl x), a2] (.inl x :: st) m := e_1 d7_1 (Or.inl rfl) rfl
theorem d7_2 : decode (mt 7).2.1 2 = .ok (.putfield 9, 3) := by decide +kernel
theorem s7_2 {ls : LV} {st : List AV} {m : MM} {n : Nat} {x : Int32} : go 7 2 ls (.inl x :: .inr (.inr (2, some n)) :: st) m = go 7 5 ls st (sI m 2 n 0 x) := e_put (r := 2) (f := 0) d7_2 (by decide +kernel) rfl (by decide +kernel)
theorem d7_5 : decode (mt 7).2.1 5 = .ok (.aload_n 0, 1) := by decide +kernel
theorem s7_5 {a1 a2 : Option AV} {st : List AV} {m : MM} {x : Nat × Option Nat} : go 7 5 [some (.inr (.inr x)), a1, a2] st m = go 7 6 [some (.inr (.inr x)), a1, a2] (.inr (.inr x) :: st) m := e_1 d7_5 (Or.inl rfl) rfl
theorem d7_6 : decode (mt 7).2.1 6 = .ok (.aload_n 2, 1) := by decide +kernel
theorem s7_6 {a0 a1 : Option AV} {st : List AV} {m : MM} {x : Nat × Option Nat} : go 7 6 [a0, a1, some (.inr (.inr x))] st m = go 7 7 [a0, a1, some (.inr (.inr x))] (.inr (.inr x) :: st) m := e_1 d7_6 (Or.inl rfl) rfl
theorem d7_7 : decode (mt 7).2.1 7 = .ok (.putfield 22, 3) := by decide +kernel
theorem s7_7r {ls : LV} {st : List AV} {m : MM} {n : Nat} {p : Option Nat} : go 7 7 ls (.inr (.inr (6, p)) :: .inr (.inr (2, some n)) :: st) m = go 7 10 ls st (sR m 2 n 1 p) := e_put (r := 2) (f := 1) d7_7 (by decide +kernel) (by simp [fc, tk, ek, ekL, fk, fkL]) (by decide +kernel)
theorem s7_7n {ls : LV} {st : List AV} {m : MM} {n w : Nat} : go 7 7 ls (.inr (.inr (w, none)) :: .inr (.inr (2, some n)) :: st) m = go 7 10 ls st (sR m 2 n 1 none) := e_put (r := 2) (f := 1) d7_7 (by decide +kernel) (by simp [fc, tk, ek, ekL, fk, fkL]) (by decide +kernel)
theorem d7_10 : decode (mt 7).2.1 10 = .ok (.aload_n 0, 1) := by decide +kernel
theorem s7_10 {a1 a2 : Option AV} {st : List AV} {m : MM} {x : Nat × Option Nat} : go 7 10 [some (.inr (.inr x)), a1, a2] st m = go 7 11 [some (.inr (.inr x)), a1, a2] (.inr (.inr x) :: st) m := e_1 d7_10 (Or.inl rfl) rfl
theorem d7_11 : decode (mt 7).2.1 11 = .ok (.iconst 0, 1) := by decide +kernel
theorem s7_11 {ls : LV} {st : List AV} {m : MM} : go 7 11 ls st m = go 7 12 ls (.inl 0 :: st) m := e_1 d7_11 (Or.inl rfl) rfl
theorem d7_12 : decode (mt 7).2.1 12 = .ok (.putfield 26, 3) := by decide +kernel
theorem s7_12b0 {ls : LV} {st : List AV} {m : MM} {n : Nat} : go 7 12 ls (.inl 0 :: .inr (.inr (2, some n)) :: st) m = go 7 15 ls st (sI m 2 n 2 0) := e_put (r := 2) (f := 2) d7_12 (by decide +kernel) rfl (by decide +kernel)
theorem s7_12b1 {ls : LV} {st : List AV} {m : MM} {n : Nat} : go 7 12 ls (.inl 1 :: .inr (.inr (2, some n)) :: st) m = go 7 15 ls st (sI m 2 n 2 1) := e_put (r := 2) (f := 2) d7_12 (by decide +kernel) rfl (by decide +kernel)
theorem d7_15 : decode (mt 7).2.1 15 = .ok (.aload_n 0, 1) := by decide +kernel
theorem s7_15 {a1 a2 : Option AV} {st : List AV} {m : MM} {x : Nat × Option Nat} : go 7 15 [some (.inr (.inr x)), a1, a2] st m = go 7 16 [some (.inr (.inr x)), a1, a2] (.inr (.inr x) :: st) m := e_1 d7_15 (Or.inl rfl) rfl
theorem d7_16 : decode (mt 7).2.1 16 = .ok (.getfield 18, 3) := by decide +kernel
theorem s7_16 {ls : LV} {st : List AV} {m : MM} {n : Nat} : go 7 16 ls (.inr (.inr (2, some n)) :: st) m = go 7 19 ls (.inr (.inr (5, mR m 2 n 4)) :: st) m := e_1 d7_16 (Or.inl rfl) (by rw [xi, pA, show lk fdL (mt 7).2.2.1 18 = some (2, 4) by decide +kernel]; rfl)
theorem d7_19 : decode (mt 7).2.1 19 = .ok (.iconst 0, 1) := by decide +kernel
theorem s7_19 {ls : LV} {st : List AV} {m : MM} : go 7 19 ls st m = go 7 20 ls (.inl 0 :: st) m := e_1 d7_19 (Or.inl rfl) rfl
theorem d7_20 : decode (mt 7).2.1 20 = .ok (.putfield 30, 3) := by decide +kernel
theorem s7_20 {ls : LV} {st : List AV} {m : MM} {n : Nat} {x : Int32} : go 7 20 ls (.inl x :: .inr (.inr (5, some n)) :: st) m = go 7 23 ls st (sI m 5 n 2 x) := e_put (r := 5) (f := 2) d7_20 (by decide +kernel) rfl (by decide +kernel)
theorem d7_23 : decode (mt 7).2.1 23 = .ok (.return_, 1) := by decide +kernel
theorem s7_23 {ls : LV} {m : MM} : go 7 23 ls [] m = some (none, m) := e_void d7_23 (by decide +kernel)
/-! X2_init: 8 -/
theorem d8_0 : decode (mt 8).2.1 0 = .ok (.aload_n 0, 1) := by decide +kernel
theorem s8_0 {st : List AV} {m : MM} {x : Nat × Option Nat} : go 8 0 [some (.inr (.inr x))] st m = go 8 1 [some (.inr (.inr x))] (.inr (.inr x) :: st) m := e_1 d8_0 (Or.inl rfl) rfl
theorem d8_1 : decode (mt 8).2.1 1 = .ok (.invokespecial 3, 3) := by decide +kernel
theorem s8_1 {ls : LV} {m : MM} {u n : Nat} : go 8 1 ls (.inr (.inr (u, some n)) :: []) m = go 8 4 ls [] m := e_obj d8_1 (by decide +kernel) (cats_le (Nat.le_of_ble_eq_true rfl)) (by decide +kernel)
theorem d8_4 : decode (mt 8).2.1 4 = .ok (.aload_n 0, 1) := by decide +kernel
theorem s8_4 {st : List AV} {m : MM} {x : Nat × Option Nat} : go 8 4 [some (.inr (.inr x))] st m = go 8 5 [some (.inr (.inr x))] (.inr (.inr x) :: st) m := e_1 d8_4 (Or.inl rfl) rfl
theorem d8_5 : decode (mt 8).2.1 5 = .ok (.sipush 192, 3) := by decide +kernel
theorem s8_5 {ls : LV} {st : List AV} {m : MM} : go 8 5 ls st m = go 8 8 ls (.inl 192 :: st) m := e_1 d8_5 (Or.inl rfl) rfl
theorem d8_8 : decode (mt 8).2.1 8 = .ok (.anewarray 9, 3) := by decide +kernel
theorem s8_8k192 {ls : LV} {st : List AV} {m : MM} : go 8 8 ls (.inl 192 :: st) m = go 8 11 ls (.inr (.inr (11, some (mC m 11))) :: st) (al m 11 192 192) := e_1 d8_8 (Or.inl rfl) (by rw [xi, pI, show lk naL 8 8 = some 11 by decide +kernel, Option.bind_some, show lk nwL (mt 8).2.2.1 9 = some 4 by decide +kernel, Option.bind_some, if_pos ⟨by decide, by decide, by decide⟩]; rfl)
theorem d8_11 : decode (mt 8).2.1 11 = .ok (.putfield 11, 3) := by decide +kernel
theorem s8_11r {ls : LV} {st : List AV} {m : MM} {n : Nat} {p : Option Nat} : go 8 11 ls (.inr (.inr (11, p)) :: .inr (.inr (3, some n)) :: st) m = go 8 14 ls st (sR m 3 n 0 p) := e_put (r := 3) (f := 0) d8_11 (by decide +kernel) (by simp [fc, tk, ek, ekL, fk, fkL]) (by decide +kernel)
theorem s8_11n {ls : LV} {st : List AV} {m : MM} {n w : Nat} : go 8 11 ls (.inr (.inr (w, none)) :: .inr (.inr (3, some n)) :: st) m = go 8 14 ls st (sR m 3 n 0 none) := e_put (r := 3) (f := 0) d8_11 (by decide +kernel) (by simp [fc, tk, ek, ekL, fk, fkL]) (by decide +kernel)
theorem d8_14 : decode (mt 8).2.1 14 = .ok (.return_, 1) := by decide +kernel
theorem s8_14 {ls : LV} {m : MM} : go 8 14 ls [] m = some (none, m) := e_void d8_14 (by decide +kernel)
/-! X2_at: 9 -/
theorem d9_0 : decode (mt 9).2.1 0 = .ok (.iload_n 1, 1) := by decide +kernel
theorem s9_0 {a0 : Option AV} {st : List AV} {m : MM} {x : Int32} : go 9 0 [a0, some (.inl x)] st m = go 9 1 [a0, some (.inl x)] (.inl x :: st) m := e_1 d9_0 (Or.inl rfl) rfl
theorem d9_1 : decode (mt 9).2.1 1 = .ok (.ifCond .lt 20, 3) := by decide +kernel
theorem s9_1 {ls : LV} {st : List AV} {m : MM} {a : Int32} : go 9 1 ls (.inl a :: st) m = if a < 0 then go 9 21 ls st m else go 9 4 ls st m := e_if (t := 21) (b := hc .lt a 0) d9_1 (Or.inl rfl) (by simp only [xi, pI, jm_some (t := 21) (show ((1 : Nat) : Int) + 20 = ((21 : Nat) : Int) by decide), Option.bind_some]) (by simp [hc])
theorem d9_4 : decode (mt 9).2.1 4 = .ok (.iload_n 1, 1) := by decide +kernel
theorem s9_4 {a0 : Option AV} {st : List AV} {m : MM} {x : Int32} : go 9 4 [a0, some (.inl x)] st m = go 9 5 [a0, some (.inl x)] (.inl x :: st) m := e_1 d9_4 (Or.inl rfl) rfl
theorem d9_5 : decode (mt 9).2.1 5 = .ok (.aload_n 0, 1) := by decide +kernel
theorem s9_5 {a1 : Option AV} {st : List AV} {m : MM} {x : Nat × Option Nat} : go 9 5 [some (.inr (.inr x)), a1] st m = go 9 6 [some (.inr (.inr x)), a1] (.inr (.inr x) :: st) m := e_1 d9_5 (Or.inl rfl) rfl
theorem d9_6 : decode (mt 9).2.1 6 = .ok (.getfield 17, 3) := by decide +kernel
theorem s9_6 {ls : LV} {st : List AV} {m : MM} {n : Nat} : go 9 6 ls (.inr (.inr (3, some n)) :: st) m = go 9 9 ls (.inl (mI m 3 n 1) :: st) m := e_1 d9_6 (Or.inl rfl) (by rw [xi, pA, show lk fdL (mt 9).2.2.1 17 = some (3, 1) by decide +kernel]; rfl)
theorem d9_9 : decode (mt 9).2.1 9 = .ok (.if_icmp .ge 12, 3) := by decide +kernel
theorem s9_9 {ls : LV} {st : List AV} {m : MM} {a b : Int32} : go 9 9 ls (.inl b :: .inl a :: st) m = if b ≤ a then go 9 21 ls st m else go 9 12 ls st m := e_if (t := 21) (b := hc .ge a b) d9_9 (Or.inl rfl) (by simp only [xi, pI, jm_some (t := 21) (show ((9 : Nat) : Int) + 12 = ((21 : Nat) : Int) by decide), Option.bind_some]) (by simp [hc])
theorem d9_12 : decode (mt 9).2.1 12 = .ok (.aload_n 0, 1) := by decide +kernel
theorem s9_12 {a1 : Option AV} {st : List AV} {m : MM} {x : Nat × Option Nat} : go 9 12 [some (.inr (.inr x)), a1] st m = go 9 13 [some (.inr (.inr x)), a1] (.inr (.inr x) :: st) m := e_1 d9_12 (Or.inl rfl) rfl
theorem d9_13 : decode (mt 9).2.1 13 = .ok (.getfield 11, 3) := by decide +kernel
theorem s9_13 {ls : LV} {st : List AV} {m : MM} {n : Nat} : go 9 13 ls (.inr (.inr (3, some n)) :: st) m = go 9 16 ls (.inr (.inr (11, mR m 3 n 0)) :: st) m := e_1 d9_13 (Or.inl rfl) (by rw [xi, pA, show lk fdL (mt 9).2.2.1 11 = some (3, 0) by decide +kernel]; rfl)
theorem d9_16 : decode (mt 9).2.1 16 = .ok (.iload_n 1, 1) := by decide +kernel
theorem s9_16 {a0 : Option AV} {st : List AV} {m : MM} {x : Int32} : go 9 16 [a0, some (.inl x)] st m = go 9 17 [a0, some (.inl x)] (.inl x :: st) m := e_1 d9_16 (Or.inl rfl) rfl
theorem d9_17 : decode (mt 9).2.1 17 = .ok (.aaload, 1) := by decide +kernel
theorem s9_17 {ls : LV} {st : List AV} {m : MM} {n : Nat} {i : Int32} : go 9 17 ls (.inl i :: .inr (.inr (11, some n)) :: st) m = ixk (ix i (mN m 11 n)) (fun j => go 9 18 ls (.inr (.inr (4, mR m 11 n j)) :: st) m) := e_ald d9_17 (fun j hj => by simp only [xi, pI, pA, hj, Option.bind_some]; rfl) (fun hj => by simp only [xi, pI, pA, hj, Option.bind_none])
theorem d9_18 : decode (mt 9).2.1 18 = .ok (.goto 4, 3) := by decide +kernel
theorem s9_18 {ls : LV} {st : List AV} {m : MM} : go 9 18 ls st m = go 9 22 ls st m := e_1 d9_18 (Or.inl rfl) (by rw [xi, jm_some (t := 22) (by decide)]; rfl)
theorem d9_21 : decode (mt 9).2.1 21 = .ok (.aconst_null, 1) := by decide +kernel
theorem s9_21 {ls : LV} {st : List AV} {m : MM} : go 9 21 ls st m = go 9 22 ls (.inr (.inr (0, none)) :: st) m := e_1 d9_21 (Or.inl rfl) rfl
theorem d9_22 : decode (mt 9).2.1 22 = .ok (.areturn, 1) := by decide +kernel
theorem s9_22 {ls : LV} {m : MM} {x : Nat × Option Nat} : go 9 22 ls [.inr (.inr x)] m = some (some (.inr (.inr x)), m) := e_ref d9_22 rfl
/-! X2_addAsk: 10 -/
theorem d10_0 : decode (mt 10).2.1 0 = .ok (.aload_n 0, 1) := by decide +kernel
theorem s10_0 {a1 a2 : Option AV} {st : List AV} {m : MM} {x : Nat × Option Nat} : go 10 0 [some (.inr (.inr x)), a1, a2] st m = go 10 1 [some (.inr (.inr x)), a1, a2] (.inr (.inr x) :: st) m := e_1 d10_0 (Or.inl rfl) rfl
theorem d10_1 : decode (mt 10).2.1 1 = .ok (.aload_n 1, 1) := by decide +kernel
theorem s10_1 {a0 a2 : Option AV} {st : List AV} {m : MM} {x : Nat × Option Nat} : go 10 1 [a0, some (.inr (.inr x)), a2] st m = go 10 2 [a0, some (.inr (.inr x)), a2] (.inr (.inr x) :: st) m := e_1 d10_1 (Or.inl rfl) rfl
theorem d10_2 : decode (mt 10).2.1 2 = .ok (.aload_n 1, 1) := by decide +kernel
theorem s10_2 {a0 a2 : Option AV} {st : List AV} {m : MM} {x : Nat × Option Nat} : go 10 2 [a0, some (.inr (.inr x)), a2] st m = go 10 3 [a0, some (.inr (.inr x)), a2] (.inr (.inr x) :: st) m := e_1 d10_2 (Or.inl rfl) rfl
theorem d10_3 : decode (mt 10).2.1 3 = .ok (.getfield 21, 3) := by decide +kernel
theorem s10_3 {ls : LV} {st : List AV} {m : MM} {n : Nat} : go 10 3 ls (.inr (.inr (1, some n)) :: st) m = go 10 6 ls (.inl (mI m 1 n 1) :: st) m := e_1 d10_3 (Or.inl rfl) (by rw [xi, pA, show lk fdL (mt 10).2.2.1 21 = some (1, 1) by decide +kernel]; rfl)
theorem d10_6 : decode (mt 10).2.1 6 = .ok (.aload_n 2, 1) := by decide +kernel
theorem s10_6 {a0 a1 : Option AV} {st : List AV} {m : MM} {x : Nat × Option Nat} : go 10 6 [a0, a1, some (.inr (.inr x))] st m = go 10 7 [a0, a1, some (.inr (.inr x))] (.inr (.inr x) :: st) m := e_1 d10_6 (Or.inl rfl) rfl
theorem d10_7 : decode (mt 10).2.1 7 = .ok (.bipush (-4), 2) := by decide +kernel
theorem s10_7 {ls : LV} {st : List AV} {m : MM} : go 10 7 ls st m = go 10 9 ls (.inl (-4) :: st) m := e_1 d10_7 (Or.inl rfl) rfl
theorem d10_9 : decode (mt 10).2.1 9 = .ok (.iconst 0, 1) := by decide +kernel
theorem s10_9 {ls : LV} {st : List AV} {m : MM} : go 10 9 ls st m = go 10 10 ls (.inl 0 :: st) m := e_1 d10_9 (Or.inl rfl) rfl
theorem d10_10 : decode (mt 10).2.1 10 = .ok (.aconst_null, 1) := by decide +kernel
theorem s10_10 {ls : LV} {st : List AV} {m : MM} : go 10 10 ls st m = go 10 11 ls (.inr (.inr (0, none)) :: st) m := e_1 d10_10 (Or.inl rfl) rfl
theorem d10_11 : decode (mt 10).2.1 11 = .ok (.aconst_null, 1) := by decide +kernel
theorem s10_11 {ls : LV} {st : List AV} {m : MM} : go 10 11 ls st m = go 10 12 ls (.inr (.inr (0, none)) :: st) m := e_1 d10_11 (Or.inl rfl) rfl
theorem d10_12 : decode (mt 10).2.1 12 = .ok (.invokevirtual 26, 3) := by decide +kernel
theorem s10_12 {ls : LV} {m : MM} {x0 : Nat × Option Nat} {x1 : Int32} {x2 : Nat × Option Nat} {x3 : Int32} {x4 : Int32} {x5 : Nat × Option Nat} {x6 : Nat × Option Nat} {n : Nat} : go 10 12 ls [.inr (.inr x6), .inr (.inr x5), .inl x4, .inl x3, .inr (.inr x2), .inl x1, .inr (.inr x0), .inr (.inr (3, some n))] m = bd (go 12 0 [some (.inr (.inr (3, some n))), some (.inr (.inr x0)), some (.inl x1), some (.inr (.inr x2)), some (.inl x3), some (.inl x4), some (.inr (.inr x5)), some (.inr (.inr x6)), none] [] m) (fun v m2 => go 10 15 ls (v.toList ++ []) m2) := e_virt (y1 := 12) (na := 7) (as := [.inr (.inr x0), .inl x1, .inr (.inr x2), .inl x3, .inl x4, .inr (.inr x5), .inr (.inr x6)]) (rest := []) d10_12 (by decide +kernel) rfl (by decide +kernel) (show (ent [.inr (.inr (3, some n)), .inr (.inr x0), .inl x1, .inr (.inr x2), .inl x3, .inl x4, .inr (.inr x5), .inr (.inr x6)]).length ≤ (mt 12).2.2.2.1 from Nat.le_of_ble_eq_true rfl) (cats_le (Nat.le_of_ble_eq_true rfl)) (by decide +kernel)
theorem d10_15 : decode (mt 10).2.1 15 = .ok (.return_, 1) := by decide +kernel
theorem s10_15 {ls : LV} {m : MM} : go 10 15 ls [] m = some (none, m) := e_void d10_15 (by decide +kernel)
/-! X2_addPlain: 11 -/
theorem d11_0 : decode (mt 11).2.1 0 = .ok (.aload_n 0, 1) := by decide +kernel
theorem s11_0 {a1 a2 : Option AV} {st : List AV} {m : MM} {x : Nat × Option Nat} : go 11 0 [some (.inr (.inr x)), a1, a2] st m = go 11 1 [some (.inr (.inr x)), a1, a2] (.inr (.inr x) :: st) m := e_1 d11_0 (Or.inl rfl) rfl
theorem d11_1 : decode (mt 11).2.1 1 = .ok (.aconst_null, 1) := by decide +kernel
theorem s11_1 {ls : LV} {st : List AV} {m : MM} : go 11 1 ls st m = go 11 2 ls (.inr (.inr (0, none)) :: st) m := e_1 d11_1 (Or.inl rfl) rfl
theorem d11_2 : decode (mt 11).2.1 2 = .ok (.iload_n 1, 1) := by decide +kernel
theorem s11_2 {a0 a2 : Option AV} {st : List AV} {m : MM} {x : Int32} : go 11 2 [a0, some (.inl x), a2] st m = go 11 3 [a0, some (.inl x), a2] (.inl x :: st) m := e_1 d11_2 (Or.inl rfl) rfl
theorem d11_3 : decode (mt 11).2.1 3 = .ok (.aload_n 2, 1) := by decide +kernel
theorem s11_3 {a0 a1 : Option AV} {st : List AV} {m : MM} {x : Nat × Option Nat} : go 11 3 [a0, a1, some (.inr (.inr x))] st m = go 11 4 [a0, a1, some (.inr (.inr x))] (.inr (.inr x) :: st) m := e_1 d11_3 (Or.inl rfl) rfl
theorem d11_4 : decode (mt 11).2.1 4 = .ok (.bipush (-4), 2) := by decide +kernel
theorem s11_4 {ls : LV} {st : List AV} {m : MM} : go 11 4 ls st m = go 11 6 ls (.inl (-4) :: st) m := e_1 d11_4 (Or.inl rfl) rfl
theorem d11_6 : decode (mt 11).2.1 6 = .ok (.iconst 0, 1) := by decide +kernel
theorem s11_6 {ls : LV} {st : List AV} {m : MM} : go 11 6 ls st m = go 11 7 ls (.inl 0 :: st) m := e_1 d11_6 (Or.inl rfl) rfl
theorem d11_7 : decode (mt 11).2.1 7 = .ok (.aconst_null, 1) := by decide +kernel
theorem s11_7 {ls : LV} {st : List AV} {m : MM} : go 11 7 ls st m = go 11 8 ls (.inr (.inr (0, none)) :: st) m := e_1 d11_7 (Or.inl rfl) rfl
theorem d11_8 : decode (mt 11).2.1 8 = .ok (.aconst_null, 1) := by decide +kernel
theorem s11_8 {ls : LV} {st : List AV} {m : MM} : go 11 8 ls st m = go 11 9 ls (.inr (.inr (0, none)) :: st) m := e_1 d11_8 (Or.inl rfl) rfl
theorem d11_9 : decode (mt 11).2.1 9 = .ok (.invokevirtual 26, 3) := by decide +kernel
theorem s11_9 {ls : LV} {m : MM} {x0 : Nat × Option Nat} {x1 : Int32} {x2 : Nat × Option Nat} {x3 : Int32} {x4 : Int32} {x5 : Nat × Option Nat} {x6 : Nat × Option Nat} {n : Nat} : go 11 9 ls [.inr (.inr x6), .inr (.inr x5), .inl x4, .inl x3, .inr (.inr x2), .inl x1, .inr (.inr x0), .inr (.inr (3, some n))] m = bd (go 12 0 [some (.inr (.inr (3, some n))), some (.inr (.inr x0)), some (.inl x1), some (.inr (.inr x2)), some (.inl x3), some (.inl x4), some (.inr (.inr x5)), some (.inr (.inr x6)), none] [] m) (fun v m2 => go 11 12 ls (v.toList ++ []) m2) := e_virt (y1 := 12) (na := 7) (as := [.inr (.inr x0), .inl x1, .inr (.inr x2), .inl x3, .inl x4, .inr (.inr x5), .inr (.inr x6)]) (rest := []) d11_9 (by decide +kernel) rfl (by decide +kernel) (show (ent [.inr (.inr (3, some n)), .inr (.inr x0), .inl x1, .inr (.inr x2), .inl x3, .inl x4, .inr (.inr x5), .inr (.inr x6)]).length ≤ (mt 12).2.2.2.1 from Nat.le_of_ble_eq_true rfl) (cats_le (Nat.le_of_ble_eq_true rfl)) (by decide +kernel)
theorem d11_12 : decode (mt 11).2.1 12 = .ok (.return_, 1) := by decide +kernel
theorem s11_12 {ls : LV} {m : MM} : go 11 12 ls [] m = some (none, m) := e_void d11_12 (by decide +kernel)
/-! X2_add: 12 -/
theorem d12_0 : decode (mt 12).2.1 0 = .ok (.aload_n 3, 1) := by decide +kernel
theorem s12_0 {a0 a1 a2 a4 a5 a6 a7 a8 : Option AV} {st : List AV} {m : MM} {x : Nat × Option Nat} : go 12 0 [a0, a1, a2, some (.inr (.inr x)), a4, a5, a6, a7, a8] st m = go 12 1 [a0, a1, a2, some (.inr (.inr x)), a4, a5, a6, a7, a8] (.inr (.inr x) :: st) m := e_1 d12_0 (Or.inl rfl) rfl
theorem d12_1 : decode (mt 12).2.1 1 = .ok (.ifnull 15, 3) := by decide +kernel
theorem s12_1n {u : Nat} {ls : LV} {st : List AV} {m : MM} : go 12 1 ls (.inr (.inr (u, none)) :: st) m = go 12 16 ls st m := e_1 d12_1 (Or.inl rfl) (by rw [xi, jm_some (t := 16) (by decide)]; rfl)
theorem s12_1s {u n : Nat} {ls : LV} {st : List AV} {m : MM} : go 12 1 ls (.inr (.inr (u, some n)) :: st) m = go 12 4 ls st m := e_1 d12_1 (Or.inl rfl) (by rw [xi, jm_some (t := 16) (by decide)]; rfl)
theorem d12_4 : decode (mt 12).2.1 4 = .ok (.aload_n 0, 1) := by decide +kernel
theorem s12_4 {a1 a2 a3 a4 a5 a6 a7 a8 : Option AV} {st : List AV} {m : MM} {x : Nat × Option Nat} : go 12 4 [some (.inr (.inr x)), a1, a2, a3, a4, a5, a6, a7, a8] st m = go 12 5 [some (.inr (.inr x)), a1, a2, a3, a4, a5, a6, a7, a8] (.inr (.inr x) :: st) m := e_1 d12_4 (Or.inl rfl) rfl
theorem d12_5 : decode (mt 12).2.1 5 = .ok (.getfield 17, 3) := by decide +kernel
theorem s12_5 {ls : LV} {st : List AV} {m : MM} {n : Nat} : go 12 5 ls (.inr (.inr (3, some n)) :: st) m = go 12 8 ls (.inl (mI m 3 n 1) :: st) m := e_1 d12_5 (Or.inl rfl) (by rw [xi, pA, show lk fdL (mt 12).2.2.1 17 = some (3, 1) by decide +kernel]; rfl)
theorem d12_8 : decode (mt 12).2.1 8 = .ok (.aload_n 0, 1) := by decide +kernel
theorem s12_8 {a1 a2 a3 a4 a5 a6 a7 a8 : Option AV} {st : List AV} {m : MM} {x : Nat × Option Nat} : go 12 8 [some (.inr (.inr x)), a1, a2, a3, a4, a5, a6, a7, a8] st m = go 12 9 [some (.inr (.inr x)), a1, a2, a3, a4, a5, a6, a7, a8] (.inr (.inr x) :: st) m := e_1 d12_8 (Or.inl rfl) rfl
theorem d12_9 : decode (mt 12).2.1 9 = .ok (.getfield 11, 3) := by decide +kernel
theorem s12_9 {ls : LV} {st : List AV} {m : MM} {n : Nat} : go 12 9 ls (.inr (.inr (3, some n)) :: st) m = go 12 12 ls (.inr (.inr (11, mR m 3 n 0)) :: st) m := e_1 d12_9 (Or.inl rfl) (by rw [xi, pA, show lk fdL (mt 12).2.2.1 11 = some (3, 0) by decide +kernel]; rfl)
theorem d12_12 : decode (mt 12).2.1 12 = .ok (.arraylength, 1) := by decide +kernel
theorem s12_12 {ls : LV} {st : List AV} {m : MM} {n : Nat} : go 12 12 ls (.inr (.inr (11, some n)) :: st) m = go 12 13 ls (.inl (nI (mN m 11 n)) :: st) m := e_1 d12_12 (Or.inl rfl) rfl
theorem d12_13 : decode (mt 12).2.1 13 = .ok (.if_icmp .lt 4, 3) := by decide +kernel
theorem s12_13 {ls : LV} {st : List AV} {m : MM} {a b : Int32} : go 12 13 ls (.inl b :: .inl a :: st) m = if a < b then go 12 17 ls st m else go 12 16 ls st m := e_if (t := 17) (b := hc .lt a b) d12_13 (Or.inl rfl) (by simp only [xi, pI, jm_some (t := 17) (show ((13 : Nat) : Int) + 4 = ((17 : Nat) : Int) by decide), Option.bind_some]) (by simp [hc])
theorem d12_16 : decode (mt 12).2.1 16 = .ok (.return_, 1) := by decide +kernel
theorem s12_16 {ls : LV} {m : MM} : go 12 16 ls [] m = some (none, m) := e_void d12_16 (by decide +kernel)
theorem d12_17 : decode (mt 12).2.1 17 = .ok (.aload_n 0, 1) := by decide +kernel
theorem s12_17 {a1 a2 a3 a4 a5 a6 a7 a8 : Option AV} {st : List AV} {m : MM} {x : Nat × Option Nat} : go 12 17 [some (.inr (.inr x)), a1, a2, a3, a4, a5, a6, a7, a8] st m = go 12 18 [some (.inr (.inr x)), a1, a2, a3, a4, a5, a6, a7, a8] (.inr (.inr x) :: st) m := e_1 d12_17 (Or.inl rfl) rfl
theorem d12_18 : decode (mt 12).2.1 18 = .ok (.getfield 11, 3) := by decide +kernel
theorem s12_18 {ls : LV} {st : List AV} {m : MM} {n : Nat} : go 12 18 ls (.inr (.inr (3, some n)) :: st) m = go 12 21 ls (.inr (.inr (11, mR m 3 n 0)) :: st) m := e_1 d12_18 (Or.inl rfl) (by rw [xi, pA, show lk fdL (mt 12).2.2.1 11 = some (3, 0) by decide +kernel]; rfl)
theorem d12_21 : decode (mt 12).2.1 21 = .ok (.aload_n 0, 1) := by decide +kernel
theorem s12_21 {a1 a2 a3 a4 a5 a6 a7 a8 : Option AV} {st : List AV} {m : MM} {x : Nat × Option Nat} : go 12 21 [some (.inr (.inr x)), a1, a2, a3, a4, a5, a6, a7, a8] st m = go 12 22 [some (.inr (.inr x)), a1, a2, a3, a4, a5, a6, a7, a8] (.inr (.inr x) :: st) m := e_1 d12_21 (Or.inl rfl) rfl
theorem d12_22 : decode (mt 12).2.1 22 = .ok (.getfield 17, 3) := by decide +kernel
theorem s12_22 {ls : LV} {st : List AV} {m : MM} {n : Nat} : go 12 22 ls (.inr (.inr (3, some n)) :: st) m = go 12 25 ls (.inl (mI m 3 n 1) :: st) m := e_1 d12_22 (Or.inl rfl) (by rw [xi, pA, show lk fdL (mt 12).2.2.1 17 = some (3, 1) by decide +kernel]; rfl)
theorem d12_25 : decode (mt 12).2.1 25 = .ok (.aaload, 1) := by decide +kernel
theorem s12_25 {ls : LV} {st : List AV} {m : MM} {n : Nat} {i : Int32} : go 12 25 ls (.inl i :: .inr (.inr (11, some n)) :: st) m = ixk (ix i (mN m 11 n)) (fun j => go 12 26 ls (.inr (.inr (4, mR m 11 n j)) :: st) m) := e_ald d12_25 (fun j hj => by simp only [xi, pI, pA, hj, Option.bind_some]; rfl) (fun hj => by simp only [xi, pI, pA, hj, Option.bind_none])
theorem d12_26 : decode (mt 12).2.1 26 = .ok (.ifnonnull 19, 3) := by decide +kernel
theorem s12_26n {u : Nat} {ls : LV} {st : List AV} {m : MM} : go 12 26 ls (.inr (.inr (u, none)) :: st) m = go 12 29 ls st m := e_1 d12_26 (Or.inl rfl) (by rw [xi, jm_some (t := 45) (by decide)]; rfl)
theorem s12_26s {u n : Nat} {ls : LV} {st : List AV} {m : MM} : go 12 26 ls (.inr (.inr (u, some n)) :: st) m = go 12 45 ls st m := e_1 d12_26 (Or.inl rfl) (by rw [xi, jm_some (t := 45) (by decide)]; rfl)
theorem d12_29 : decode (mt 12).2.1 29 = .ok (.aload_n 0, 1) := by decide +kernel
theorem s12_29 {a1 a2 a3 a4 a5 a6 a7 a8 : Option AV} {st : List AV} {m : MM} {x : Nat × Option Nat} : go 12 29 [some (.inr (.inr x)), a1, a2, a3, a4, a5, a6, a7, a8] st m = go 12 30 [some (.inr (.inr x)), a1, a2, a3, a4, a5, a6, a7, a8] (.inr (.inr x) :: st) m := e_1 d12_29 (Or.inl rfl) rfl
theorem d12_30 : decode (mt 12).2.1 30 = .ok (.getfield 11, 3) := by decide +kernel
theorem s12_30 {ls : LV} {st : List AV} {m : MM} {n : Nat} : go 12 30 ls (.inr (.inr (3, some n)) :: st) m = go 12 33 ls (.inr (.inr (11, mR m 3 n 0)) :: st) m := e_1 d12_30 (Or.inl rfl) (by rw [xi, pA, show lk fdL (mt 12).2.2.1 11 = some (3, 0) by decide +kernel]; rfl)
theorem d12_33 : decode (mt 12).2.1 33 = .ok (.aload_n 0, 1) := by decide +kernel
theorem s12_33 {a1 a2 a3 a4 a5 a6 a7 a8 : Option AV} {st : List AV} {m : MM} {x : Nat × Option Nat} : go 12 33 [some (.inr (.inr x)), a1, a2, a3, a4, a5, a6, a7, a8] st m = go 12 34 [some (.inr (.inr x)), a1, a2, a3, a4, a5, a6, a7, a8] (.inr (.inr x) :: st) m := e_1 d12_33 (Or.inl rfl) rfl
theorem d12_34 : decode (mt 12).2.1 34 = .ok (.getfield 17, 3) := by decide +kernel
theorem s12_34 {ls : LV} {st : List AV} {m : MM} {n : Nat} : go 12 34 ls (.inr (.inr (3, some n)) :: st) m = go 12 37 ls (.inl (mI m 3 n 1) :: st) m := e_1 d12_34 (Or.inl rfl) (by rw [xi, pA, show lk fdL (mt 12).2.2.1 17 = some (3, 1) by decide +kernel]; rfl)
theorem d12_37 : decode (mt 12).2.1 37 = .ok (.new 9, 3) := by decide +kernel
theorem s12_37 {ls : LV} {st : List AV} {m : MM} : go 12 37 ls st m = go 12 40 ls (.inr (.inr (4, some (mC m 4))) :: st) (al m 4 0 7) := e_1 d12_37 (Or.inl rfl) (by rw [xi, show lk nwL (mt 12).2.2.1 9 = some 4 by decide +kernel]; rfl)
theorem d12_40 : decode (mt 12).2.1 40 = .ok (.dup, 1) := by decide +kernel
theorem s12_40 {ls : LV} {st : List AV} {m : MM} {x : Nat × Option Nat} : go 12 40 ls (.inr (.inr x) :: st) m = go 12 41 ls (.inr (.inr x) :: .inr (.inr x) :: st) m := e_1 d12_40 (Or.inl rfl) rfl
theorem d12_41 : decode (mt 12).2.1 41 = .ok (.invokespecial 30, 3) := by decide +kernel
theorem s12_41 {ls : LV} {m : MM} {w0 w1 w2 : AV} {n : Nat} : go 12 41 ls [.inr (.inr (4, some n)), w0, w1, w2] m = bd (go 14 0 [some (.inr (.inr (4, some n)))] [] m) (fun v m2 => go 12 44 ls (v.toList ++ [w0, w1, w2]) m2) := e_spec (y1 := 14) (na := 0) (as := []) (rest := [w0, w1, w2]) d12_41 (by decide +kernel) rfl (by decide +kernel) (show (ent [.inr (.inr (4, some n))]).length ≤ (mt 14).2.2.2.1 from Nat.le_of_ble_eq_true rfl) (cats_le (Nat.le_of_ble_eq_true rfl)) (by decide +kernel)
theorem d12_44 : decode (mt 12).2.1 44 = .ok (.aastore, 1) := by decide +kernel
theorem s12_44r {ls : LV} {st : List AV} {m : MM} {n : Nat} {i : Int32} {p : Option Nat} : go 12 44 ls (.inr (.inr (4, p)) :: .inl i :: .inr (.inr (11, some n)) :: st) m = ixk (ix i (mN m 11 n)) (fun j => go 12 45 ls st (sR m 11 n j p)) := e_ald d12_44 (fun j hj => by simp only [xi, pI, pL, pR, pA, hj, Option.bind_some]; exact if_pos (Or.inl rfl)) (fun hj => by simp only [xi, pI, pL, pR, pA, hj, Option.bind_none])
theorem s12_44n {ls : LV} {st : List AV} {m : MM} {n : Nat} {i : Int32} {w : Nat} : go 12 44 ls (.inr (.inr (w, none)) :: .inl i :: .inr (.inr (11, some n)) :: st) m = ixk (ix i (mN m 11 n)) (fun j => go 12 45 ls st (sR m 11 n j none)) := e_ald d12_44 (fun j hj => by simp only [xi, pI, pL, pR, pA, hj, Option.bind_some]; exact if_pos (Or.inr ⟨trivial, by decide⟩)) (fun hj => by simp only [xi, pI, pL, pR, pA, hj, Option.bind_none])
theorem d12_45 : decode (mt 12).2.1 45 = .ok (.aload_n 0, 1) := by decide +kernel
theorem s12_45 {a1 a2 a3 a4 a5 a6 a7 a8 : Option AV} {st : List AV} {m : MM} {x : Nat × Option Nat} : go 12 45 [some (.inr (.inr x)), a1, a2, a3, a4, a5, a6, a7, a8] st m = go 12 46 [some (.inr (.inr x)), a1, a2, a3, a4, a5, a6, a7, a8] (.inr (.inr x) :: st) m := e_1 d12_45 (Or.inl rfl) rfl
theorem d12_46 : decode (mt 12).2.1 46 = .ok (.getfield 11, 3) := by decide +kernel
theorem s12_46 {ls : LV} {st : List AV} {m : MM} {n : Nat} : go 12 46 ls (.inr (.inr (3, some n)) :: st) m = go 12 49 ls (.inr (.inr (11, mR m 3 n 0)) :: st) m := e_1 d12_46 (Or.inl rfl) (by rw [xi, pA, show lk fdL (mt 12).2.2.1 11 = some (3, 0) by decide +kernel]; rfl)
theorem d12_49 : decode (mt 12).2.1 49 = .ok (.aload_n 0, 1) := by decide +kernel
theorem s12_49 {a1 a2 a3 a4 a5 a6 a7 a8 : Option AV} {st : List AV} {m : MM} {x : Nat × Option Nat} : go 12 49 [some (.inr (.inr x)), a1, a2, a3, a4, a5, a6, a7, a8] st m = go 12 50 [some (.inr (.inr x)), a1, a2, a3, a4, a5, a6, a7, a8] (.inr (.inr x) :: st) m := e_1 d12_49 (Or.inl rfl) rfl
theorem d12_50 : decode (mt 12).2.1 50 = .ok (.getfield 17, 3) := by decide +kernel
theorem s12_50 {ls : LV} {st : List AV} {m : MM} {n : Nat} : go 12 50 ls (.inr (.inr (3, some n)) :: st) m = go 12 53 ls (.inl (mI m 3 n 1) :: st) m := e_1 d12_50 (Or.inl rfl) (by rw [xi, pA, show lk fdL (mt 12).2.2.1 17 = some (3, 1) by decide +kernel]; rfl)
theorem d12_53 : decode (mt 12).2.1 53 = .ok (.aaload, 1) := by decide +kernel
theorem s12_53 {ls : LV} {st : List AV} {m : MM} {n : Nat} {i : Int32} : go 12 53 ls (.inl i :: .inr (.inr (11, some n)) :: st) m = ixk (ix i (mN m 11 n)) (fun j => go 12 54 ls (.inr (.inr (4, mR m 11 n j)) :: st) m) := e_ald d12_53 (fun j hj => by simp only [xi, pI, pA, hj, Option.bind_some]; rfl) (fun hj => by simp only [xi, pI, pA, hj, Option.bind_none])
theorem d12_54 : decode (mt 12).2.1 54 = .ok (.astore 8, 2) := by decide +kernel
theorem s12_54i {a0 a1 a2 a3 a4 a5 a6 a8 : Option AV} {z : Int32} {st : List AV} {m : MM} {x : Nat × Option Nat} : go 12 54 [a0, a1, a2, a3, a4, a5, a6, some (.inl z), a8] (.inr (.inr x) :: st) m = go 12 56 [a0, a1, a2, a3, a4, a5, a6, some (.inl z), some (.inr (.inr x))] st m := e_1 d12_54 (Or.inl rfl) rfl
theorem s12_54r {a0 a1 a2 a3 a4 a5 a6 a8 : Option AV} {z : Nat × Option Nat} {st : List AV} {m : MM} {x : Nat × Option Nat} : go 12 54 [a0, a1, a2, a3, a4, a5, a6, some (.inr (.inr z)), a8] (.inr (.inr x) :: st) m = go 12 56 [a0, a1, a2, a3, a4, a5, a6, some (.inr (.inr z)), some (.inr (.inr x))] st m := e_1 d12_54 (Or.inl rfl) rfl
theorem s12_54n {a0 a1 a2 a3 a4 a5 a6 a8 : Option AV} {st : List AV} {m : MM} {x : Nat × Option Nat} : go 12 54 [a0, a1, a2, a3, a4, a5, a6, none, a8] (.inr (.inr x) :: st) m = go 12 56 [a0, a1, a2, a3, a4, a5, a6, none, some (.inr (.inr x))] st m := e_1 d12_54 (Or.inl rfl) rfl
theorem d12_56 : decode (mt 12).2.1 56 = .ok (.aload 8, 2) := by decide +kernel
theorem s12_56 {a0 a1 a2 a3 a4 a5 a6 a7 : Option AV} {st : List AV} {m : MM} {x : Nat × Option Nat} : go 12 56 [a0, a1, a2, a3, a4, a5, a6, a7, some (.inr (.inr x))] st m = go 12 58 [a0, a1, a2, a3, a4, a5, a6, a7, some (.inr (.inr x))] (.inr (.inr x) :: st) m := e_1 d12_56 (Or.inl rfl) rfl
theorem d12_58 : decode (mt 12).2.1 58 = .ok (.aload_n 1, 1) := by decide +kernel
theorem s12_58 {a0 a2 a3 a4 a5 a6 a7 a8 : Option AV} {st : List AV} {m : MM} {x : Nat × Option Nat} : go 12 58 [a0, some (.inr (.inr x)), a2, a3, a4, a5, a6, a7, a8] st m = go 12 59 [a0, some (.inr (.inr x)), a2, a3, a4, a5, a6, a7, a8] (.inr (.inr x) :: st) m := e_1 d12_58 (Or.inl rfl) rfl
theorem d12_59 : decode (mt 12).2.1 59 = .ok (.putfield 31, 3) := by decide +kernel
theorem s12_59r {ls : LV} {st : List AV} {m : MM} {n : Nat} {p : Option Nat} : go 12 59 ls (.inr (.inr (1, p)) :: .inr (.inr (4, some n)) :: st) m = go 12 62 ls st (sR m 4 n 2 p) := e_put (r := 4) (f := 2) d12_59 (by decide +kernel) (by simp [fc, tk, ek, ekL, fk, fkL]) (by decide +kernel)
theorem s12_59n {ls : LV} {st : List AV} {m : MM} {n w : Nat} : go 12 59 ls (.inr (.inr (w, none)) :: .inr (.inr (4, some n)) :: st) m = go 12 62 ls st (sR m 4 n 2 none) := e_put (r := 4) (f := 2) d12_59 (by decide +kernel) (by simp [fc, tk, ek, ekL, fk, fkL]) (by decide +kernel)
theorem d12_62 : decode (mt 12).2.1 62 = .ok (.aload 8, 2) := by decide +kernel
theorem s12_62 {a0 a1 a2 a3 a4 a5 a6 a7 : Option AV} {st : List AV} {m : MM} {x : Nat × Option Nat} : go 12 62 [a0, a1, a2, a3, a4, a5, a6, a7, some (.inr (.inr x))] st m = go 12 64 [a0, a1, a2, a3, a4, a5, a6, a7, some (.inr (.inr x))] (.inr (.inr x) :: st) m := e_1 d12_62 (Or.inl rfl) rfl
theorem d12_64 : decode (mt 12).2.1 64 = .ok (.iload_n 2, 1) := by decide +kernel
theorem s12_64 {a0 a1 a3 a4 a5 a6 a7 a8 : Option AV} {st : List AV} {m : MM} {x : Int32} : go 12 64 [a0, a1, some (.inl x), a3, a4, a5, a6, a7, a8] st m = go 12 65 [a0, a1, some (.inl x), a3, a4, a5, a6, a7, a8] (.inl x :: st) m := e_1 d12_64 (Or.inl rfl) rfl
theorem d12_65 : decode (mt 12).2.1 65 = .ok (.putfield 35, 3) := by decide +kernel
theorem s12_65 {ls : LV} {st : List AV} {m : MM} {n : Nat} {x : Int32} : go 12 65 ls (.inl x :: .inr (.inr (4, some n)) :: st) m = go 12 68 ls st (sI m 4 n 0 x) := e_put (r := 4) (f := 0) d12_65 (by decide +kernel) rfl (by decide +kernel)
theorem d12_68 : decode (mt 12).2.1 68 = .ok (.aload 8, 2) := by decide +kernel
theorem s12_68 {a0 a1 a2 a3 a4 a5 a6 a7 : Option AV} {st : List AV} {m : MM} {x : Nat × Option Nat} : go 12 68 [a0, a1, a2, a3, a4, a5, a6, a7, some (.inr (.inr x))] st m = go 12 70 [a0, a1, a2, a3, a4, a5, a6, a7, some (.inr (.inr x))] (.inr (.inr x) :: st) m := e_1 d12_68 (Or.inl rfl) rfl
theorem d12_70 : decode (mt 12).2.1 70 = .ok (.aload_n 3, 1) := by decide +kernel
theorem s12_70 {a0 a1 a2 a4 a5 a6 a7 a8 : Option AV} {st : List AV} {m : MM} {x : Nat × Option Nat} : go 12 70 [a0, a1, a2, some (.inr (.inr x)), a4, a5, a6, a7, a8] st m = go 12 71 [a0, a1, a2, some (.inr (.inr x)), a4, a5, a6, a7, a8] (.inr (.inr x) :: st) m := e_1 d12_70 (Or.inl rfl) rfl
theorem d12_71 : decode (mt 12).2.1 71 = .ok (.putfield 36, 3) := by decide +kernel
theorem s12_71r {ls : LV} {st : List AV} {m : MM} {n : Nat} {p : Option Nat} : go 12 71 ls (.inr (.inr (6, p)) :: .inr (.inr (4, some n)) :: st) m = go 12 74 ls st (sR m 4 n 1 p) := e_put (r := 4) (f := 1) d12_71 (by decide +kernel) (by simp [fc, tk, ek, ekL, fk, fkL]) (by decide +kernel)
theorem s12_71n {ls : LV} {st : List AV} {m : MM} {n w : Nat} : go 12 71 ls (.inr (.inr (w, none)) :: .inr (.inr (4, some n)) :: st) m = go 12 74 ls st (sR m 4 n 1 none) := e_put (r := 4) (f := 1) d12_71 (by decide +kernel) (by simp [fc, tk, ek, ekL, fk, fkL]) (by decide +kernel)
theorem d12_74 : decode (mt 12).2.1 74 = .ok (.aload 8, 2) := by decide +kernel
theorem s12_74 {a0 a1 a2 a3 a4 a5 a6 a7 : Option AV} {st : List AV} {m : MM} {x : Nat × Option Nat} : go 12 74 [a0, a1, a2, a3, a4, a5, a6, a7, some (.inr (.inr x))] st m = go 12 76 [a0, a1, a2, a3, a4, a5, a6, a7, some (.inr (.inr x))] (.inr (.inr x) :: st) m := e_1 d12_74 (Or.inl rfl) rfl
theorem d12_76 : decode (mt 12).2.1 76 = .ok (.iload 4, 2) := by decide +kernel
theorem s12_76 {a0 a1 a2 a3 a5 a6 a7 a8 : Option AV} {st : List AV} {m : MM} {x : Int32} : go 12 76 [a0, a1, a2, a3, some (.inl x), a5, a6, a7, a8] st m = go 12 78 [a0, a1, a2, a3, some (.inl x), a5, a6, a7, a8] (.inl x :: st) m := e_1 d12_76 (Or.inl rfl) rfl
theorem d12_78 : decode (mt 12).2.1 78 = .ok (.putfield 40, 3) := by decide +kernel
theorem s12_78 {ls : LV} {st : List AV} {m : MM} {n : Nat} {x : Int32} : go 12 78 ls (.inl x :: .inr (.inr (4, some n)) :: st) m = go 12 81 ls st (sI m 4 n 3 x) := e_put (r := 4) (f := 3) d12_78 (by decide +kernel) rfl (by decide +kernel)
theorem d12_81 : decode (mt 12).2.1 81 = .ok (.aload 8, 2) := by decide +kernel
theorem s12_81 {a0 a1 a2 a3 a4 a5 a6 a7 : Option AV} {st : List AV} {m : MM} {x : Nat × Option Nat} : go 12 81 [a0, a1, a2, a3, a4, a5, a6, a7, some (.inr (.inr x))] st m = go 12 83 [a0, a1, a2, a3, a4, a5, a6, a7, some (.inr (.inr x))] (.inr (.inr x) :: st) m := e_1 d12_81 (Or.inl rfl) rfl
theorem d12_83 : decode (mt 12).2.1 83 = .ok (.iload 5, 2) := by decide +kernel
theorem s12_83 {a0 a1 a2 a3 a4 a6 a7 a8 : Option AV} {st : List AV} {m : MM} {x : Int32} : go 12 83 [a0, a1, a2, a3, a4, some (.inl x), a6, a7, a8] st m = go 12 85 [a0, a1, a2, a3, a4, some (.inl x), a6, a7, a8] (.inl x :: st) m := e_1 d12_83 (Or.inl rfl) rfl
theorem d12_85 : decode (mt 12).2.1 85 = .ok (.putfield 43, 3) := by decide +kernel
theorem s12_85 {ls : LV} {st : List AV} {m : MM} {n : Nat} {x : Int32} : go 12 85 ls (.inl x :: .inr (.inr (4, some n)) :: st) m = go 12 88 ls st (sI m 4 n 4 x) := e_put (r := 4) (f := 4) d12_85 (by decide +kernel) rfl (by decide +kernel)
theorem d12_88 : decode (mt 12).2.1 88 = .ok (.aload 8, 2) := by decide +kernel
theorem s12_88 {a0 a1 a2 a3 a4 a5 a6 a7 : Option AV} {st : List AV} {m : MM} {x : Nat × Option Nat} : go 12 88 [a0, a1, a2, a3, a4, a5, a6, a7, some (.inr (.inr x))] st m = go 12 90 [a0, a1, a2, a3, a4, a5, a6, a7, some (.inr (.inr x))] (.inr (.inr x) :: st) m := e_1 d12_88 (Or.inl rfl) rfl
theorem d12_90 : decode (mt 12).2.1 90 = .ok (.aload 6, 2) := by decide +kernel
theorem s12_90 {a0 a1 a2 a3 a4 a5 a7 a8 : Option AV} {st : List AV} {m : MM} {x : Nat × Option Nat} : go 12 90 [a0, a1, a2, a3, a4, a5, some (.inr (.inr x)), a7, a8] st m = go 12 92 [a0, a1, a2, a3, a4, a5, some (.inr (.inr x)), a7, a8] (.inr (.inr x) :: st) m := e_1 d12_90 (Or.inl rfl) rfl
theorem d12_92 : decode (mt 12).2.1 92 = .ok (.putfield 46, 3) := by decide +kernel
theorem s12_92r {ls : LV} {st : List AV} {m : MM} {n : Nat} {p : Option Nat} : go 12 92 ls (.inr (.inr (6, p)) :: .inr (.inr (4, some n)) :: st) m = go 12 95 ls st (sR m 4 n 5 p) := e_put (r := 4) (f := 5) d12_92 (by decide +kernel) (by simp [fc, tk, ek, ekL, fk, fkL]) (by decide +kernel)
theorem s12_92n {ls : LV} {st : List AV} {m : MM} {n w : Nat} : go 12 92 ls (.inr (.inr (w, none)) :: .inr (.inr (4, some n)) :: st) m = go 12 95 ls st (sR m 4 n 5 none) := e_put (r := 4) (f := 5) d12_92 (by decide +kernel) (by simp [fc, tk, ek, ekL, fk, fkL]) (by decide +kernel)
theorem d12_95 : decode (mt 12).2.1 95 = .ok (.aload 8, 2) := by decide +kernel
theorem s12_95 {a0 a1 a2 a3 a4 a5 a6 a7 : Option AV} {st : List AV} {m : MM} {x : Nat × Option Nat} : go 12 95 [a0, a1, a2, a3, a4, a5, a6, a7, some (.inr (.inr x))] st m = go 12 97 [a0, a1, a2, a3, a4, a5, a6, a7, some (.inr (.inr x))] (.inr (.inr x) :: st) m := e_1 d12_95 (Or.inl rfl) rfl
theorem d12_97 : decode (mt 12).2.1 97 = .ok (.aload 7, 2) := by decide +kernel
theorem s12_97 {a0 a1 a2 a3 a4 a5 a6 a8 : Option AV} {st : List AV} {m : MM} {x : Nat × Option Nat} : go 12 97 [a0, a1, a2, a3, a4, a5, a6, some (.inr (.inr x)), a8] st m = go 12 99 [a0, a1, a2, a3, a4, a5, a6, some (.inr (.inr x)), a8] (.inr (.inr x) :: st) m := e_1 d12_97 (Or.inl rfl) rfl
theorem d12_99 : decode (mt 12).2.1 99 = .ok (.putfield 49, 3) := by decide +kernel
theorem s12_99r {ls : LV} {st : List AV} {m : MM} {n : Nat} {p : Option Nat} : go 12 99 ls (.inr (.inr (6, p)) :: .inr (.inr (4, some n)) :: st) m = go 12 102 ls st (sR m 4 n 6 p) := e_put (r := 4) (f := 6) d12_99 (by decide +kernel) (by simp [fc, tk, ek, ekL, fk, fkL]) (by decide +kernel)
theorem s12_99n {ls : LV} {st : List AV} {m : MM} {n w : Nat} : go 12 99 ls (.inr (.inr (w, none)) :: .inr (.inr (4, some n)) :: st) m = go 12 102 ls st (sR m 4 n 6 none) := e_put (r := 4) (f := 6) d12_99 (by decide +kernel) (by simp [fc, tk, ek, ekL, fk, fkL]) (by decide +kernel)
theorem d12_102 : decode (mt 12).2.1 102 = .ok (.aload_n 0, 1) := by decide +kernel
theorem s12_102 {a1 a2 a3 a4 a5 a6 a7 a8 : Option AV} {st : List AV} {m : MM} {x : Nat × Option Nat} : go 12 102 [some (.inr (.inr x)), a1, a2, a3, a4, a5, a6, a7, a8] st m = go 12 103 [some (.inr (.inr x)), a1, a2, a3, a4, a5, a6, a7, a8] (.inr (.inr x) :: st) m := e_1 d12_102 (Or.inl rfl) rfl
theorem d12_103 : decode (mt 12).2.1 103 = .ok (.dup, 1) := by decide +kernel
theorem s12_103 {ls : LV} {st : List AV} {m : MM} {x : Nat × Option Nat} : go 12 103 ls (.inr (.inr x) :: st) m = go 12 104 ls (.inr (.inr x) :: .inr (.inr x) :: st) m := e_1 d12_103 (Or.inl rfl) rfl
theorem d12_104 : decode (mt 12).2.1 104 = .ok (.getfield 17, 3) := by decide +kernel
theorem s12_104 {ls : LV} {st : List AV} {m : MM} {n : Nat} : go 12 104 ls (.inr (.inr (3, some n)) :: st) m = go 12 107 ls (.inl (mI m 3 n 1) :: st) m := e_1 d12_104 (Or.inl rfl) (by rw [xi, pA, show lk fdL (mt 12).2.2.1 17 = some (3, 1) by decide +kernel]; rfl)
theorem d12_107 : decode (mt 12).2.1 107 = .ok (.iconst 1, 1) := by decide +kernel
theorem s12_107 {ls : LV} {st : List AV} {m : MM} : go 12 107 ls st m = go 12 108 ls (.inl 1 :: st) m := e_1 d12_107 (Or.inl rfl) rfl
theorem d12_108 : decode (mt 12).2.1 108 = .ok (.iadd, 1) := by decide +kernel
theorem s12_108 {ls : LV} {st : List AV} {m : MM} {a b : Int32} : go 12 108 ls (.inl b :: .inl a :: st) m = go 12 109 ls (.inl (a + b) :: st) m := e_1 d12_108 (Or.inl rfl) rfl
theorem d12_109 : decode (mt 12).2.1 109 = .ok (.putfield 17, 3) := by decide +kernel
theorem s12_109 {ls : LV} {st : List AV} {m : MM} {n : Nat} {x : Int32} : go 12 109 ls (.inl x :: .inr (.inr (3, some n)) :: st) m = go 12 112 ls st (sI m 3 n 1 x) := e_put (r := 3) (f := 1) d12_109 (by decide +kernel) rfl (by decide +kernel)
theorem d12_112 : decode (mt 12).2.1 112 = .ok (.aload_n 0, 1) := by decide +kernel
theorem s12_112 {a1 a2 a3 a4 a5 a6 a7 a8 : Option AV} {st : List AV} {m : MM} {x : Nat × Option Nat} : go 12 112 [some (.inr (.inr x)), a1, a2, a3, a4, a5, a6, a7, a8] st m = go 12 113 [some (.inr (.inr x)), a1, a2, a3, a4, a5, a6, a7, a8] (.inr (.inr x) :: st) m := e_1 d12_112 (Or.inl rfl) rfl
theorem d12_113 : decode (mt 12).2.1 113 = .ok (.dup, 1) := by decide +kernel
theorem s12_113 {ls : LV} {st : List AV} {m : MM} {x : Nat × Option Nat} : go 12 113 ls (.inr (.inr x) :: st) m = go 12 114 ls (.inr (.inr x) :: .inr (.inr x) :: st) m := e_1 d12_113 (Or.inl rfl) rfl
theorem d12_114 : decode (mt 12).2.1 114 = .ok (.getfield 52, 3) := by decide +kernel
theorem s12_114 {ls : LV} {st : List AV} {m : MM} {n : Nat} : go 12 114 ls (.inr (.inr (3, some n)) :: st) m = go 12 117 ls (.inl (mI m 3 n 2) :: st) m := e_1 d12_114 (Or.inl rfl) (by rw [xi, pA, show lk fdL (mt 12).2.2.1 52 = some (3, 2) by decide +kernel]; rfl)
theorem d12_117 : decode (mt 12).2.1 117 = .ok (.aload_n 1, 1) := by decide +kernel
theorem s12_117 {a0 a2 a3 a4 a5 a6 a7 a8 : Option AV} {st : List AV} {m : MM} {x : Nat × Option Nat} : go 12 117 [a0, some (.inr (.inr x)), a2, a3, a4, a5, a6, a7, a8] st m = go 12 118 [a0, some (.inr (.inr x)), a2, a3, a4, a5, a6, a7, a8] (.inr (.inr x) :: st) m := e_1 d12_117 (Or.inl rfl) rfl
theorem d12_118 : decode (mt 12).2.1 118 = .ok (.ifnonnull 7, 3) := by decide +kernel
theorem s12_118n {u : Nat} {ls : LV} {st : List AV} {m : MM} : go 12 118 ls (.inr (.inr (u, none)) :: st) m = go 12 121 ls st m := e_1 d12_118 (Or.inl rfl) (by rw [xi, jm_some (t := 125) (by decide)]; rfl)
theorem s12_118s {u n : Nat} {ls : LV} {st : List AV} {m : MM} : go 12 118 ls (.inr (.inr (u, some n)) :: st) m = go 12 125 ls st m := e_1 d12_118 (Or.inl rfl) (by rw [xi, jm_some (t := 125) (by decide)]; rfl)
theorem d12_121 : decode (mt 12).2.1 121 = .ok (.iconst 1, 1) := by decide +kernel
theorem s12_121 {ls : LV} {st : List AV} {m : MM} : go 12 121 ls st m = go 12 122 ls (.inl 1 :: st) m := e_1 d12_121 (Or.inl rfl) rfl
theorem d12_122 : decode (mt 12).2.1 122 = .ok (.goto 4, 3) := by decide +kernel
theorem s12_122 {ls : LV} {st : List AV} {m : MM} : go 12 122 ls st m = go 12 126 ls st m := e_1 d12_122 (Or.inl rfl) (by rw [xi, jm_some (t := 126) (by decide)]; rfl)
theorem d12_125 : decode (mt 12).2.1 125 = .ok (.iconst 0, 1) := by decide +kernel
theorem s12_125 {ls : LV} {st : List AV} {m : MM} : go 12 125 ls st m = go 12 126 ls (.inl 0 :: st) m := e_1 d12_125 (Or.inl rfl) rfl
theorem d12_126 : decode (mt 12).2.1 126 = .ok (.iadd, 1) := by decide +kernel
theorem s12_126 {ls : LV} {st : List AV} {m : MM} {a b : Int32} : go 12 126 ls (.inl b :: .inl a :: st) m = go 12 127 ls (.inl (a + b) :: st) m := e_1 d12_126 (Or.inl rfl) rfl
theorem d12_127 : decode (mt 12).2.1 127 = .ok (.putfield 52, 3) := by decide +kernel
theorem s12_127 {ls : LV} {st : List AV} {m : MM} {n : Nat} {x : Int32} : go 12 127 ls (.inl x :: .inr (.inr (3, some n)) :: st) m = go 12 130 ls st (sI m 3 n 2 x) := e_put (r := 3) (f := 2) d12_127 (by decide +kernel) rfl (by decide +kernel)
theorem d12_130 : decode (mt 12).2.1 130 = .ok (.return_, 1) := by decide +kernel
theorem s12_130 {ls : LV} {m : MM} : go 12 130 ls [] m = some (none, m) := e_void d12_130 (by decide +kernel)
/-! X2_takeAway: 13 -/
theorem d13_0 : decode (mt 13).2.1 0 = .ok (.aload_n 0, 1) := by decide +kernel
theorem s13_0 {a1 a2 a3 : Option AV} {st : List AV} {m : MM} {x : Nat × Option Nat} : go 13 0 [some (.inr (.inr x)), a1, a2, a3] st m = go 13 1 [some (.inr (.inr x)), a1, a2, a3] (.inr (.inr x) :: st) m := e_1 d13_0 (Or.inl rfl) rfl
theorem d13_1 : decode (mt 13).2.1 1 = .ok (.iload_n 1, 1) := by decide +kernel
theorem s13_1 {a0 a2 a3 : Option AV} {st : List AV} {m : MM} {x : Int32} : go 13 1 [a0, some (.inl x), a2, a3] st m = go 13 2 [a0, some (.inl x), a2, a3] (.inl x :: st) m := e_1 d13_1 (Or.inl rfl) rfl
theorem d13_2 : decode (mt 13).2.1 2 = .ok (.invokevirtual 55, 3) := by decide +kernel
theorem s13_2 {ls : LV} {m : MM} {x0 : Int32} {n : Nat} : go 13 2 ls [.inl x0, .inr (.inr (3, some n))] m = bd (go 9 0 [some (.inr (.inr (3, some n))), some (.inl x0)] [] m) (fun v m2 => go 13 5 ls (v.toList ++ []) m2) := e_virt (y1 := 9) (na := 1) (as := [.inl x0]) (rest := []) d13_2 (by decide +kernel) rfl (by decide +kernel) (show (ent [.inr (.inr (3, some n)), .inl x0]).length ≤ (mt 9).2.2.2.1 from Nat.le_of_ble_eq_true rfl) (cats_le (Nat.le_of_ble_eq_true rfl)) (by decide +kernel)
theorem d13_5 : decode (mt 13).2.1 5 = .ok (.astore_n 2, 1) := by decide +kernel
theorem s13_5i {a0 a2 a3 : Option AV} {z : Int32} {st : List AV} {m : MM} {x : Nat × Option Nat} : go 13 5 [a0, some (.inl z), a2, a3] (.inr (.inr x) :: st) m = go 13 6 [a0, some (.inl z), some (.inr (.inr x)), a3] st m := e_1 d13_5 (Or.inl rfl) rfl
theorem s13_5r {a0 a2 a3 : Option AV} {z : Nat × Option Nat} {st : List AV} {m : MM} {x : Nat × Option Nat} : go 13 5 [a0, some (.inr (.inr z)), a2, a3] (.inr (.inr x) :: st) m = go 13 6 [a0, some (.inr (.inr z)), some (.inr (.inr x)), a3] st m := e_1 d13_5 (Or.inl rfl) rfl
theorem s13_5n {a0 a2 a3 : Option AV} {st : List AV} {m : MM} {x : Nat × Option Nat} : go 13 5 [a0, none, a2, a3] (.inr (.inr x) :: st) m = go 13 6 [a0, none, some (.inr (.inr x)), a3] st m := e_1 d13_5 (Or.inl rfl) rfl
theorem d13_6 : decode (mt 13).2.1 6 = .ok (.aload_n 2, 1) := by decide +kernel
theorem s13_6 {a0 a1 a3 : Option AV} {st : List AV} {m : MM} {x : Nat × Option Nat} : go 13 6 [a0, a1, some (.inr (.inr x)), a3] st m = go 13 7 [a0, a1, some (.inr (.inr x)), a3] (.inr (.inr x) :: st) m := e_1 d13_6 (Or.inl rfl) rfl
theorem d13_7 : decode (mt 13).2.1 7 = .ok (.ifnonnull 5, 3) := by decide +kernel
theorem s13_7n {u : Nat} {ls : LV} {st : List AV} {m : MM} : go 13 7 ls (.inr (.inr (u, none)) :: st) m = go 13 10 ls st m := e_1 d13_7 (Or.inl rfl) (by rw [xi, jm_some (t := 12) (by decide)]; rfl)
theorem s13_7s {u n : Nat} {ls : LV} {st : List AV} {m : MM} : go 13 7 ls (.inr (.inr (u, some n)) :: st) m = go 13 12 ls st m := e_1 d13_7 (Or.inl rfl) (by rw [xi, jm_some (t := 12) (by decide)]; rfl)
theorem d13_10 : decode (mt 13).2.1 10 = .ok (.aconst_null, 1) := by decide +kernel
theorem s13_10 {ls : LV} {st : List AV} {m : MM} : go 13 10 ls st m = go 13 11 ls (.inr (.inr (0, none)) :: st) m := e_1 d13_10 (Or.inl rfl) rfl
theorem d13_11 : decode (mt 13).2.1 11 = .ok (.areturn, 1) := by decide +kernel
theorem s13_11 {ls : LV} {m : MM} {x : Nat × Option Nat} : go 13 11 ls [.inr (.inr x)] m = some (some (.inr (.inr x)), m) := e_ref d13_11 rfl
theorem d13_12 : decode (mt 13).2.1 12 = .ok (.iload_n 1, 1) := by decide +kernel
theorem s13_12 {a0 a2 a3 : Option AV} {st : List AV} {m : MM} {x : Int32} : go 13 12 [a0, some (.inl x), a2, a3] st m = go 13 13 [a0, some (.inl x), a2, a3] (.inl x :: st) m := e_1 d13_12 (Or.inl rfl) rfl
theorem d13_13 : decode (mt 13).2.1 13 = .ok (.istore_n 3, 1) := by decide +kernel
theorem s13_13i {a0 a1 a3 : Option AV} {z : Int32} {st : List AV} {m : MM} {x : Int32} : go 13 13 [a0, a1, some (.inl z), a3] (.inl x :: st) m = go 13 14 [a0, a1, some (.inl z), some (.inl x)] st m := e_1 d13_13 (Or.inl rfl) rfl
theorem s13_13r {a0 a1 a3 : Option AV} {z : Nat × Option Nat} {st : List AV} {m : MM} {x : Int32} : go 13 13 [a0, a1, some (.inr (.inr z)), a3] (.inl x :: st) m = go 13 14 [a0, a1, some (.inr (.inr z)), some (.inl x)] st m := e_1 d13_13 (Or.inl rfl) rfl
theorem s13_13n {a0 a1 a3 : Option AV} {st : List AV} {m : MM} {x : Int32} : go 13 13 [a0, a1, none, a3] (.inl x :: st) m = go 13 14 [a0, a1, none, some (.inl x)] st m := e_1 d13_13 (Or.inl rfl) rfl
theorem d13_14 : decode (mt 13).2.1 14 = .ok (.iload_n 3, 1) := by decide +kernel
theorem s13_14 {a0 a1 a2 : Option AV} {st : List AV} {m : MM} {x : Int32} : go 13 14 [a0, a1, a2, some (.inl x)] st m = go 13 15 [a0, a1, a2, some (.inl x)] (.inl x :: st) m := e_1 d13_14 (Or.inl rfl) rfl
theorem d13_15 : decode (mt 13).2.1 15 = .ok (.aload_n 0, 1) := by decide +kernel
theorem s13_15 {a1 a2 a3 : Option AV} {st : List AV} {m : MM} {x : Nat × Option Nat} : go 13 15 [some (.inr (.inr x)), a1, a2, a3] st m = go 13 16 [some (.inr (.inr x)), a1, a2, a3] (.inr (.inr x) :: st) m := e_1 d13_15 (Or.inl rfl) rfl
theorem d13_16 : decode (mt 13).2.1 16 = .ok (.getfield 17, 3) := by decide +kernel
theorem s13_16 {ls : LV} {st : List AV} {m : MM} {n : Nat} : go 13 16 ls (.inr (.inr (3, some n)) :: st) m = go 13 19 ls (.inl (mI m 3 n 1) :: st) m := e_1 d13_16 (Or.inl rfl) (by rw [xi, pA, show lk fdL (mt 13).2.2.1 17 = some (3, 1) by decide +kernel]; rfl)
theorem d13_19 : decode (mt 13).2.1 19 = .ok (.iconst 1, 1) := by decide +kernel
theorem s13_19 {ls : LV} {st : List AV} {m : MM} : go 13 19 ls st m = go 13 20 ls (.inl 1 :: st) m := e_1 d13_19 (Or.inl rfl) rfl
theorem d13_20 : decode (mt 13).2.1 20 = .ok (.isub, 1) := by decide +kernel
theorem s13_20 {ls : LV} {st : List AV} {m : MM} {a b : Int32} : go 13 20 ls (.inl b :: .inl a :: st) m = go 13 21 ls (.inl (a - b) :: st) m := e_1 d13_20 (Or.inl rfl) rfl
theorem d13_21 : decode (mt 13).2.1 21 = .ok (.if_icmp .ge 23, 3) := by decide +kernel
theorem s13_21 {ls : LV} {st : List AV} {m : MM} {a b : Int32} : go 13 21 ls (.inl b :: .inl a :: st) m = if b ≤ a then go 13 44 ls st m else go 13 24 ls st m := e_if (t := 44) (b := hc .ge a b) d13_21 (Or.inl rfl) (by simp only [xi, pI, jm_some (t := 44) (show ((21 : Nat) : Int) + 23 = ((44 : Nat) : Int) by decide), Option.bind_some]) (by simp [hc])
theorem d13_24 : decode (mt 13).2.1 24 = .ok (.aload_n 0, 1) := by decide +kernel
theorem s13_24 {a1 a2 a3 : Option AV} {st : List AV} {m : MM} {x : Nat × Option Nat} : go 13 24 [some (.inr (.inr x)), a1, a2, a3] st m = go 13 25 [some (.inr (.inr x)), a1, a2, a3] (.inr (.inr x) :: st) m := e_1 d13_24 (Or.inl rfl) rfl
theorem d13_25 : decode (mt 13).2.1 25 = .ok (.getfield 11, 3) := by decide +kernel
theorem s13_25 {ls : LV} {st : List AV} {m : MM} {n : Nat} : go 13 25 ls (.inr (.inr (3, some n)) :: st) m = go 13 28 ls (.inr (.inr (11, mR m 3 n 0)) :: st) m := e_1 d13_25 (Or.inl rfl) (by rw [xi, pA, show lk fdL (mt 13).2.2.1 11 = some (3, 0) by decide +kernel]; rfl)
theorem d13_28 : decode (mt 13).2.1 28 = .ok (.iload_n 3, 1) := by decide +kernel
theorem s13_28 {a0 a1 a2 : Option AV} {st : List AV} {m : MM} {x : Int32} : go 13 28 [a0, a1, a2, some (.inl x)] st m = go 13 29 [a0, a1, a2, some (.inl x)] (.inl x :: st) m := e_1 d13_28 (Or.inl rfl) rfl
theorem d13_29 : decode (mt 13).2.1 29 = .ok (.aload_n 0, 1) := by decide +kernel
theorem s13_29 {a1 a2 a3 : Option AV} {st : List AV} {m : MM} {x : Nat × Option Nat} : go 13 29 [some (.inr (.inr x)), a1, a2, a3] st m = go 13 30 [some (.inr (.inr x)), a1, a2, a3] (.inr (.inr x) :: st) m := e_1 d13_29 (Or.inl rfl) rfl
theorem d13_30 : decode (mt 13).2.1 30 = .ok (.getfield 11, 3) := by decide +kernel
theorem s13_30 {ls : LV} {st : List AV} {m : MM} {n : Nat} : go 13 30 ls (.inr (.inr (3, some n)) :: st) m = go 13 33 ls (.inr (.inr (11, mR m 3 n 0)) :: st) m := e_1 d13_30 (Or.inl rfl) (by rw [xi, pA, show lk fdL (mt 13).2.2.1 11 = some (3, 0) by decide +kernel]; rfl)
theorem d13_33 : decode (mt 13).2.1 33 = .ok (.iload_n 3, 1) := by decide +kernel
theorem s13_33 {a0 a1 a2 : Option AV} {st : List AV} {m : MM} {x : Int32} : go 13 33 [a0, a1, a2, some (.inl x)] st m = go 13 34 [a0, a1, a2, some (.inl x)] (.inl x :: st) m := e_1 d13_33 (Or.inl rfl) rfl
theorem d13_34 : decode (mt 13).2.1 34 = .ok (.iconst 1, 1) := by decide +kernel
theorem s13_34 {ls : LV} {st : List AV} {m : MM} : go 13 34 ls st m = go 13 35 ls (.inl 1 :: st) m := e_1 d13_34 (Or.inl rfl) rfl
theorem d13_35 : decode (mt 13).2.1 35 = .ok (.iadd, 1) := by decide +kernel
theorem s13_35 {ls : LV} {st : List AV} {m : MM} {a b : Int32} : go 13 35 ls (.inl b :: .inl a :: st) m = go 13 36 ls (.inl (a + b) :: st) m := e_1 d13_35 (Or.inl rfl) rfl
theorem d13_36 : decode (mt 13).2.1 36 = .ok (.aaload, 1) := by decide +kernel
theorem s13_36 {ls : LV} {st : List AV} {m : MM} {n : Nat} {i : Int32} : go 13 36 ls (.inl i :: .inr (.inr (11, some n)) :: st) m = ixk (ix i (mN m 11 n)) (fun j => go 13 37 ls (.inr (.inr (4, mR m 11 n j)) :: st) m) := e_ald d13_36 (fun j hj => by simp only [xi, pI, pA, hj, Option.bind_some]; rfl) (fun hj => by simp only [xi, pI, pA, hj, Option.bind_none])
theorem d13_37 : decode (mt 13).2.1 37 = .ok (.aastore, 1) := by decide +kernel
theorem s13_37r {ls : LV} {st : List AV} {m : MM} {n : Nat} {i : Int32} {p : Option Nat} : go 13 37 ls (.inr (.inr (4, p)) :: .inl i :: .inr (.inr (11, some n)) :: st) m = ixk (ix i (mN m 11 n)) (fun j => go 13 38 ls st (sR m 11 n j p)) := e_ald d13_37 (fun j hj => by simp only [xi, pI, pL, pR, pA, hj, Option.bind_some]; exact if_pos (Or.inl rfl)) (fun hj => by simp only [xi, pI, pL, pR, pA, hj, Option.bind_none])
theorem s13_37n {ls : LV} {st : List AV} {m : MM} {n : Nat} {i : Int32} {w : Nat} : go 13 37 ls (.inr (.inr (w, none)) :: .inl i :: .inr (.inr (11, some n)) :: st) m = ixk (ix i (mN m 11 n)) (fun j => go 13 38 ls st (sR m 11 n j none)) := e_ald d13_37 (fun j hj => by simp only [xi, pI, pL, pR, pA, hj, Option.bind_some]; exact if_pos (Or.inr ⟨trivial, by decide⟩)) (fun hj => by simp only [xi, pI, pL, pR, pA, hj, Option.bind_none])
theorem d13_38 : decode (mt 13).2.1 38 = .ok (.iinc 3 1, 3) := by decide +kernel
theorem s13_38i {a0 a1 : Option AV} {z : Int32} {st : List AV} {m : MM} {x : Int32} : go 13 38 [a0, a1, some (.inl z), some (.inl x)] st m = go 13 41 [a0, a1, some (.inl z), some (.inl (x + 1))] st m := e_1 d13_38 (Or.inl rfl) rfl
theorem s13_38r {a0 a1 : Option AV} {z : Nat × Option Nat} {st : List AV} {m : MM} {x : Int32} : go 13 38 [a0, a1, some (.inr (.inr z)), some (.inl x)] st m = go 13 41 [a0, a1, some (.inr (.inr z)), some (.inl (x + 1))] st m := e_1 d13_38 (Or.inl rfl) rfl
theorem s13_38n {a0 a1 : Option AV} {st : List AV} {m : MM} {x : Int32} : go 13 38 [a0, a1, none, some (.inl x)] st m = go 13 41 [a0, a1, none, some (.inl (x + 1))] st m := e_1 d13_38 (Or.inl rfl) rfl
theorem d13_41 : decode (mt 13).2.1 41 = .ok (.goto (-27), 3) := by decide +kernel
theorem s13_41 {ls : LV} {st : List AV} {m : MM} : go 13 41 ls st m = go 13 14 ls st m := e_1 d13_41 (Or.inl rfl) (by rw [xi, jm_some (t := 14) (by decide)]; rfl)
theorem d13_44 : decode (mt 13).2.1 44 = .ok (.aload_n 0, 1) := by decide +kernel
theorem s13_44 {a1 a2 a3 : Option AV} {st : List AV} {m : MM} {x : Nat × Option Nat} : go 13 44 [some (.inr (.inr x)), a1, a2, a3] st m = go 13 45 [some (.inr (.inr x)), a1, a2, a3] (.inr (.inr x) :: st) m := e_1 d13_44 (Or.inl rfl) rfl
theorem d13_45 : decode (mt 13).2.1 45 = .ok (.dup, 1) := by decide +kernel
theorem s13_45 {ls : LV} {st : List AV} {m : MM} {x : Nat × Option Nat} : go 13 45 ls (.inr (.inr x) :: st) m = go 13 46 ls (.inr (.inr x) :: .inr (.inr x) :: st) m := e_1 d13_45 (Or.inl rfl) rfl
theorem d13_46 : decode (mt 13).2.1 46 = .ok (.getfield 17, 3) := by decide +kernel
theorem s13_46 {ls : LV} {st : List AV} {m : MM} {n : Nat} : go 13 46 ls (.inr (.inr (3, some n)) :: st) m = go 13 49 ls (.inl (mI m 3 n 1) :: st) m := e_1 d13_46 (Or.inl rfl) (by rw [xi, pA, show lk fdL (mt 13).2.2.1 17 = some (3, 1) by decide +kernel]; rfl)
theorem d13_49 : decode (mt 13).2.1 49 = .ok (.iconst 1, 1) := by decide +kernel
theorem s13_49 {ls : LV} {st : List AV} {m : MM} : go 13 49 ls st m = go 13 50 ls (.inl 1 :: st) m := e_1 d13_49 (Or.inl rfl) rfl
theorem d13_50 : decode (mt 13).2.1 50 = .ok (.isub, 1) := by decide +kernel
theorem s13_50 {ls : LV} {st : List AV} {m : MM} {a b : Int32} : go 13 50 ls (.inl b :: .inl a :: st) m = go 13 51 ls (.inl (a - b) :: st) m := e_1 d13_50 (Or.inl rfl) rfl
theorem d13_51 : decode (mt 13).2.1 51 = .ok (.putfield 17, 3) := by decide +kernel
theorem s13_51 {ls : LV} {st : List AV} {m : MM} {n : Nat} {x : Int32} : go 13 51 ls (.inl x :: .inr (.inr (3, some n)) :: st) m = go 13 54 ls st (sI m 3 n 1 x) := e_put (r := 3) (f := 1) d13_51 (by decide +kernel) rfl (by decide +kernel)
theorem d13_54 : decode (mt 13).2.1 54 = .ok (.aload_n 0, 1) := by decide +kernel
theorem s13_54 {a1 a2 a3 : Option AV} {st : List AV} {m : MM} {x : Nat × Option Nat} : go 13 54 [some (.inr (.inr x)), a1, a2, a3] st m = go 13 55 [some (.inr (.inr x)), a1, a2, a3] (.inr (.inr x) :: st) m := e_1 d13_54 (Or.inl rfl) rfl
theorem d13_55 : decode (mt 13).2.1 55 = .ok (.getfield 11, 3) := by decide +kernel
theorem s13_55 {ls : LV} {st : List AV} {m : MM} {n : Nat} : go 13 55 ls (.inr (.inr (3, some n)) :: st) m = go 13 58 ls (.inr (.inr (11, mR m 3 n 0)) :: st) m := e_1 d13_55 (Or.inl rfl) (by rw [xi, pA, show lk fdL (mt 13).2.2.1 11 = some (3, 0) by decide +kernel]; rfl)
theorem d13_58 : decode (mt 13).2.1 58 = .ok (.aload_n 0, 1) := by decide +kernel
theorem s13_58 {a1 a2 a3 : Option AV} {st : List AV} {m : MM} {x : Nat × Option Nat} : go 13 58 [some (.inr (.inr x)), a1, a2, a3] st m = go 13 59 [some (.inr (.inr x)), a1, a2, a3] (.inr (.inr x) :: st) m := e_1 d13_58 (Or.inl rfl) rfl
theorem d13_59 : decode (mt 13).2.1 59 = .ok (.getfield 17, 3) := by decide +kernel
theorem s13_59 {ls : LV} {st : List AV} {m : MM} {n : Nat} : go 13 59 ls (.inr (.inr (3, some n)) :: st) m = go 13 62 ls (.inl (mI m 3 n 1) :: st) m := e_1 d13_59 (Or.inl rfl) (by rw [xi, pA, show lk fdL (mt 13).2.2.1 17 = some (3, 1) by decide +kernel]; rfl)
theorem d13_62 : decode (mt 13).2.1 62 = .ok (.aload_n 0, 1) := by decide +kernel
theorem s13_62 {a1 a2 a3 : Option AV} {st : List AV} {m : MM} {x : Nat × Option Nat} : go 13 62 [some (.inr (.inr x)), a1, a2, a3] st m = go 13 63 [some (.inr (.inr x)), a1, a2, a3] (.inr (.inr x) :: st) m := e_1 d13_62 (Or.inl rfl) rfl
theorem d13_63 : decode (mt 13).2.1 63 = .ok (.getfield 59, 3) := by decide +kernel
theorem s13_63 {ls : LV} {st : List AV} {m : MM} {n : Nat} : go 13 63 ls (.inr (.inr (3, some n)) :: st) m = go 13 66 ls (.inr (.inr (4, mR m 3 n 3)) :: st) m := e_1 d13_63 (Or.inl rfl) (by rw [xi, pA, show lk fdL (mt 13).2.2.1 59 = some (3, 3) by decide +kernel]; rfl)
theorem d13_66 : decode (mt 13).2.1 66 = .ok (.aastore, 1) := by decide +kernel
theorem s13_66r {ls : LV} {st : List AV} {m : MM} {n : Nat} {i : Int32} {p : Option Nat} : go 13 66 ls (.inr (.inr (4, p)) :: .inl i :: .inr (.inr (11, some n)) :: st) m = ixk (ix i (mN m 11 n)) (fun j => go 13 67 ls st (sR m 11 n j p)) := e_ald d13_66 (fun j hj => by simp only [xi, pI, pL, pR, pA, hj, Option.bind_some]; exact if_pos (Or.inl rfl)) (fun hj => by simp only [xi, pI, pL, pR, pA, hj, Option.bind_none])
theorem s13_66n {ls : LV} {st : List AV} {m : MM} {n : Nat} {i : Int32} {w : Nat} : go 13 66 ls (.inr (.inr (w, none)) :: .inl i :: .inr (.inr (11, some n)) :: st) m = ixk (ix i (mN m 11 n)) (fun j => go 13 67 ls st (sR m 11 n j none)) := e_ald d13_66 (fun j hj => by simp only [xi, pI, pL, pR, pA, hj, Option.bind_some]; exact if_pos (Or.inr ⟨trivial, by decide⟩)) (fun hj => by simp only [xi, pI, pL, pR, pA, hj, Option.bind_none])
theorem d13_67 : decode (mt 13).2.1 67 = .ok (.aload_n 0, 1) := by decide +kernel
theorem s13_67 {a1 a2 a3 : Option AV} {st : List AV} {m : MM} {x : Nat × Option Nat} : go 13 67 [some (.inr (.inr x)), a1, a2, a3] st m = go 13 68 [some (.inr (.inr x)), a1, a2, a3] (.inr (.inr x) :: st) m := e_1 d13_67 (Or.inl rfl) rfl
theorem d13_68 : decode (mt 13).2.1 68 = .ok (.aload_n 2, 1) := by decide +kernel
theorem s13_68 {a0 a1 a3 : Option AV} {st : List AV} {m : MM} {x : Nat × Option Nat} : go 13 68 [a0, a1, some (.inr (.inr x)), a3] st m = go 13 69 [a0, a1, some (.inr (.inr x)), a3] (.inr (.inr x) :: st) m := e_1 d13_68 (Or.inl rfl) rfl
theorem d13_69 : decode (mt 13).2.1 69 = .ok (.putfield 59, 3) := by decide +kernel
theorem s13_69r {ls : LV} {st : List AV} {m : MM} {n : Nat} {p : Option Nat} : go 13 69 ls (.inr (.inr (4, p)) :: .inr (.inr (3, some n)) :: st) m = go 13 72 ls st (sR m 3 n 3 p) := e_put (r := 3) (f := 3) d13_69 (by decide +kernel) (by simp [fc, tk, ek, ekL, fk, fkL]) (by decide +kernel)
theorem s13_69n {ls : LV} {st : List AV} {m : MM} {n w : Nat} : go 13 69 ls (.inr (.inr (w, none)) :: .inr (.inr (3, some n)) :: st) m = go 13 72 ls st (sR m 3 n 3 none) := e_put (r := 3) (f := 3) d13_69 (by decide +kernel) (by simp [fc, tk, ek, ekL, fk, fkL]) (by decide +kernel)
theorem d13_72 : decode (mt 13).2.1 72 = .ok (.aload_n 0, 1) := by decide +kernel
theorem s13_72 {a1 a2 a3 : Option AV} {st : List AV} {m : MM} {x : Nat × Option Nat} : go 13 72 [some (.inr (.inr x)), a1, a2, a3] st m = go 13 73 [some (.inr (.inr x)), a1, a2, a3] (.inr (.inr x) :: st) m := e_1 d13_72 (Or.inl rfl) rfl
theorem d13_73 : decode (mt 13).2.1 73 = .ok (.dup, 1) := by decide +kernel
theorem s13_73 {ls : LV} {st : List AV} {m : MM} {x : Nat × Option Nat} : go 13 73 ls (.inr (.inr x) :: st) m = go 13 74 ls (.inr (.inr x) :: .inr (.inr x) :: st) m := e_1 d13_73 (Or.inl rfl) rfl
theorem d13_74 : decode (mt 13).2.1 74 = .ok (.getfield 52, 3) := by decide +kernel
theorem s13_74 {ls : LV} {st : List AV} {m : MM} {n : Nat} : go 13 74 ls (.inr (.inr (3, some n)) :: st) m = go 13 77 ls (.inl (mI m 3 n 2) :: st) m := e_1 d13_74 (Or.inl rfl) (by rw [xi, pA, show lk fdL (mt 13).2.2.1 52 = some (3, 2) by decide +kernel]; rfl)
theorem d13_77 : decode (mt 13).2.1 77 = .ok (.aload_n 2, 1) := by decide +kernel
theorem s13_77 {a0 a1 a3 : Option AV} {st : List AV} {m : MM} {x : Nat × Option Nat} : go 13 77 [a0, a1, some (.inr (.inr x)), a3] st m = go 13 78 [a0, a1, some (.inr (.inr x)), a3] (.inr (.inr x) :: st) m := e_1 d13_77 (Or.inl rfl) rfl
theorem d13_78 : decode (mt 13).2.1 78 = .ok (.getfield 31, 3) := by decide +kernel
theorem s13_78 {ls : LV} {st : List AV} {m : MM} {n : Nat} : go 13 78 ls (.inr (.inr (4, some n)) :: st) m = go 13 81 ls (.inr (.inr (1, mR m 4 n 2)) :: st) m := e_1 d13_78 (Or.inl rfl) (by rw [xi, pA, show lk fdL (mt 13).2.2.1 31 = some (4, 2) by decide +kernel]; rfl)
theorem d13_81 : decode (mt 13).2.1 81 = .ok (.ifnonnull 7, 3) := by decide +kernel
theorem s13_81n {u : Nat} {ls : LV} {st : List AV} {m : MM} : go 13 81 ls (.inr (.inr (u, none)) :: st) m = go 13 84 ls st m := e_1 d13_81 (Or.inl rfl) (by rw [xi, jm_some (t := 88) (by decide)]; rfl)
theorem s13_81s {u n : Nat} {ls : LV} {st : List AV} {m : MM} : go 13 81 ls (.inr (.inr (u, some n)) :: st) m = go 13 88 ls st m := e_1 d13_81 (Or.inl rfl) (by rw [xi, jm_some (t := 88) (by decide)]; rfl)
theorem d13_84 : decode (mt 13).2.1 84 = .ok (.iconst 1, 1) := by decide +kernel
theorem s13_84 {ls : LV} {st : List AV} {m : MM} : go 13 84 ls st m = go 13 85 ls (.inl 1 :: st) m := e_1 d13_84 (Or.inl rfl) rfl
theorem d13_85 : decode (mt 13).2.1 85 = .ok (.goto 4, 3) := by decide +kernel
theorem s13_85 {ls : LV} {st : List AV} {m : MM} : go 13 85 ls st m = go 13 89 ls st m := e_1 d13_85 (Or.inl rfl) (by rw [xi, jm_some (t := 89) (by decide)]; rfl)
theorem d13_88 : decode (mt 13).2.1 88 = .ok (.iconst 0, 1) := by decide +kernel
theorem s13_88 {ls : LV} {st : List AV} {m : MM} : go 13 88 ls st m = go 13 89 ls (.inl 0 :: st) m := e_1 d13_88 (Or.inl rfl) rfl
theorem d13_89 : decode (mt 13).2.1 89 = .ok (.isub, 1) := by decide +kernel
theorem s13_89 {ls : LV} {st : List AV} {m : MM} {a b : Int32} : go 13 89 ls (.inl b :: .inl a :: st) m = go 13 90 ls (.inl (a - b) :: st) m := e_1 d13_89 (Or.inl rfl) rfl
theorem d13_90 : decode (mt 13).2.1 90 = .ok (.putfield 52, 3) := by decide +kernel
theorem s13_90 {ls : LV} {st : List AV} {m : MM} {n : Nat} {x : Int32} : go 13 90 ls (.inl x :: .inr (.inr (3, some n)) :: st) m = go 13 93 ls st (sI m 3 n 2 x) := e_put (r := 3) (f := 2) d13_90 (by decide +kernel) rfl (by decide +kernel)
theorem d13_93 : decode (mt 13).2.1 93 = .ok (.aload_n 2, 1) := by decide +kernel
theorem s13_93 {a0 a1 a3 : Option AV} {st : List AV} {m : MM} {x : Nat × Option Nat} : go 13 93 [a0, a1, some (.inr (.inr x)), a3] st m = go 13 94 [a0, a1, some (.inr (.inr x)), a3] (.inr (.inr x) :: st) m := e_1 d13_93 (Or.inl rfl) rfl
theorem d13_94 : decode (mt 13).2.1 94 = .ok (.areturn, 1) := by decide +kernel
theorem s13_94 {ls : LV} {m : MM} {x : Nat × Option Nat} : go 13 94 ls [.inr (.inr x)] m = some (some (.inr (.inr x)), m) := e_ref d13_94 rfl
/-! X3_init: 14 -/
theorem d14_0 : decode (mt 14).2.1 0 = .ok (.aload_n 0, 1) := by decide +kernel
theorem s14_0 {st : List AV} {m : MM} {x : Nat × Option Nat} : go 14 0 [some (.inr (.inr x))] st m = go 14 1 [some (.inr (.inr x))] (.inr (.inr x) :: st) m := e_1 d14_0 (Or.inl rfl) rfl
theorem d14_1 : decode (mt 14).2.1 1 = .ok (.invokespecial 1, 3) := by decide +kernel
theorem s14_1 {ls : LV} {m : MM} {u n : Nat} : go 14 1 ls (.inr (.inr (u, some n)) :: []) m = go 14 4 ls [] m := e_obj d14_1 (by decide +kernel) (cats_le (Nat.le_of_ble_eq_true rfl)) (by decide +kernel)
theorem d14_4 : decode (mt 14).2.1 4 = .ok (.return_, 1) := by decide +kernel
theorem s14_4 {ls : LV} {m : MM} : go 14 4 ls [] m = some (none, m) := e_void d14_4 (by decide +kernel)
/-! X5_init: 22 -/
theorem d22_0 : decode (mt 22).2.1 0 = .ok (.aload_n 0, 1) := by decide +kernel
theorem s22_0 {a1 a2 a3 : Option AV} {st : List AV} {m : MM} {x : Nat × Option Nat} : go 22 0 [some (.inr (.inr x)), a1, a2, a3] st m = go 22 1 [some (.inr (.inr x)), a1, a2, a3] (.inr (.inr x) :: st) m := e_1 d22_0 (Or.inl rfl) rfl
theorem d22_1 : decode (mt 22).2.1 1 = .ok (.invokespecial 3, 3) := by decide +kernel
theorem s22_1 {ls : LV} {m : MM} {u n : Nat} : go 22 1 ls (.inr (.inr (u, some n)) :: []) m = go 22 4 ls [] m := e_obj d22_1 (by decide +kernel) (cats_le (Nat.le_of_ble_eq_true rfl)) (by decide +kernel)
theorem d22_4 : decode (mt 22).2.1 4 = .ok (.aload_n 0, 1) := by decide +kernel
theorem s22_4 {a1 a2 a3 : Option AV} {st : List AV} {m : MM} {x : Nat × Option Nat} : go 22 4 [some (.inr (.inr x)), a1, a2, a3] st m = go 22 5 [some (.inr (.inr x)), a1, a2, a3] (.inr (.inr x) :: st) m := e_1 d22_4 (Or.inl rfl) rfl
theorem d22_5 : decode (mt 22).2.1 5 = .ok (.iconst 0, 1) := by decide +kernel
theorem s22_5 {ls : LV} {st : List AV} {m : MM} : go 22 5 ls st m = go 22 6 ls (.inl 0 :: st) m := e_1 d22_5 (Or.inl rfl) rfl
theorem d22_6 : decode (mt 22).2.1 6 = .ok (.putfield 9, 3) := by decide +kernel
theorem s22_6 {ls : LV} {st : List AV} {m : MM} {n : Nat} {x : Int32} : go 22 6 ls (.inl x :: .inr (.inr (6, some n)) :: st) m = go 22 9 ls st (sI m 6 n 3 x) := e_put (r := 6) (f := 3) d22_6 (by decide +kernel) rfl (by decide +kernel)
theorem d22_9 : decode (mt 22).2.1 9 = .ok (.aload_n 0, 1) := by decide +kernel
theorem s22_9 {a1 a2 a3 : Option AV} {st : List AV} {m : MM} {x : Nat × Option Nat} : go 22 9 [some (.inr (.inr x)), a1, a2, a3] st m = go 22 10 [some (.inr (.inr x)), a1, a2, a3] (.inr (.inr x) :: st) m := e_1 d22_9 (Or.inl rfl) rfl
theorem d22_10 : decode (mt 22).2.1 10 = .ok (.bipush 9, 2) := by decide +kernel
theorem s22_10 {ls : LV} {st : List AV} {m : MM} : go 22 10 ls st m = go 22 12 ls (.inl 9 :: st) m := e_1 d22_10 (Or.inl rfl) rfl
theorem d22_12 : decode (mt 22).2.1 12 = .ok (.newarray .boolean, 2) := by decide +kernel
theorem s22_12k0 {ls : LV} {st : List AV} {m : MM} : go 22 12 ls (.inl 0 :: st) m = go 22 14 ls (.inr (.inr (14, some (mC m 14))) :: st) (al m 14 0 0) := e_1 d22_12 (Or.inl rfl) (by rw [xi, pI, show lk naL 22 12 = some 14 by decide +kernel, Option.bind_some, if_pos ⟨by decide, by decide, by decide, by decide⟩]; rfl)
theorem s22_12k9 {ls : LV} {st : List AV} {m : MM} : go 22 12 ls (.inl 9 :: st) m = go 22 14 ls (.inr (.inr (14, some (mC m 14))) :: st) (al m 14 9 9) := e_1 d22_12 (Or.inl rfl) (by rw [xi, pI, show lk naL 22 12 = some 14 by decide +kernel, Option.bind_some, if_pos ⟨by decide, by decide, by decide, by decide⟩]; rfl)
theorem s22_12k18 {ls : LV} {st : List AV} {m : MM} : go 22 12 ls (.inl 18 :: st) m = go 22 14 ls (.inr (.inr (14, some (mC m 14))) :: st) (al m 14 18 18) := e_1 d22_12 (Or.inl rfl) (by rw [xi, pI, show lk naL 22 12 = some 14 by decide +kernel, Option.bind_some, if_pos ⟨by decide, by decide, by decide, by decide⟩]; rfl)
theorem d22_14 : decode (mt 22).2.1 14 = .ok (.putfield 15, 3) := by decide +kernel
theorem s22_14r {ls : LV} {st : List AV} {m : MM} {n : Nat} {p : Option Nat} : go 22 14 ls (.inr (.inr (14, p)) :: .inr (.inr (6, some n)) :: st) m = go 22 17 ls st (sR m 6 n 5 p) := e_put (r := 6) (f := 5) d22_14 (by decide +kernel) (by simp [fc, tk, ek, ekL, fk, fkL]) (by decide +kernel)
theorem s22_14n {ls : LV} {st : List AV} {m : MM} {n w : Nat} : go 22 14 ls (.inr (.inr (w, none)) :: .inr (.inr (6, some n)) :: st) m = go 22 17 ls st (sR m 6 n 5 none) := e_put (r := 6) (f := 5) d22_14 (by decide +kernel) (by simp [fc, tk, ek, ekL, fk, fkL]) (by decide +kernel)
theorem d22_17 : decode (mt 22).2.1 17 = .ok (.aload_n 0, 1) := by decide +kernel
theorem s22_17 {a1 a2 a3 : Option AV} {st : List AV} {m : MM} {x : Nat × Option Nat} : go 22 17 [some (.inr (.inr x)), a1, a2, a3] st m = go 22 18 [some (.inr (.inr x)), a1, a2, a3] (.inr (.inr x) :: st) m := e_1 d22_17 (Or.inl rfl) rfl
theorem d22_18 : decode (mt 22).2.1 18 = .ok (.bipush 18, 2) := by decide +kernel
theorem s22_18 {ls : LV} {st : List AV} {m : MM} : go 22 18 ls st m = go 22 20 ls (.inl 18 :: st) m := e_1 d22_18 (Or.inl rfl) rfl
theorem d22_20 : decode (mt 22).2.1 20 = .ok (.anewarray 10, 3) := by decide +kernel
theorem s22_20k0 {ls : LV} {st : List AV} {m : MM} : go 22 20 ls (.inl 0 :: st) m = go 22 23 ls (.inr (.inr (15, some (mC m 15))) :: st) (al m 15 0 0) := e_1 d22_20 (Or.inl rfl) (by rw [xi, pI, show lk naL 22 20 = some 15 by decide +kernel, Option.bind_some, show lk nwL (mt 22).2.2.1 10 = some 6 by decide +kernel, Option.bind_some, if_pos ⟨by decide, by decide, by decide⟩]; rfl)
theorem s22_20k9 {ls : LV} {st : List AV} {m : MM} : go 22 20 ls (.inl 9 :: st) m = go 22 23 ls (.inr (.inr (15, some (mC m 15))) :: st) (al m 15 9 9) := e_1 d22_20 (Or.inl rfl) (by rw [xi, pI, show lk naL 22 20 = some 15 by decide +kernel, Option.bind_some, show lk nwL (mt 22).2.2.1 10 = some 6 by decide +kernel, Option.bind_some, if_pos ⟨by decide, by decide, by decide⟩]; rfl)
theorem s22_20k18 {ls : LV} {st : List AV} {m : MM} : go 22 20 ls (.inl 18 :: st) m = go 22 23 ls (.inr (.inr (15, some (mC m 15))) :: st) (al m 15 18 18) := e_1 d22_20 (Or.inl rfl) (by rw [xi, pI, show lk naL 22 20 = some 15 by decide +kernel, Option.bind_some, show lk nwL (mt 22).2.2.1 10 = some 6 by decide +kernel, Option.bind_some, if_pos ⟨by decide, by decide, by decide⟩]; rfl)
theorem d22_23 : decode (mt 22).2.1 23 = .ok (.putfield 19, 3) := by decide +kernel
theorem s22_23r {ls : LV} {st : List AV} {m : MM} {n : Nat} {p : Option Nat} : go 22 23 ls (.inr (.inr (15, p)) :: .inr (.inr (6, some n)) :: st) m = go 22 26 ls st (sR m 6 n 6 p) := e_put (r := 6) (f := 6) d22_23 (by decide +kernel) (by simp [fc, tk, ek, ekL, fk, fkL]) (by decide +kernel)
theorem s22_23n {ls : LV} {st : List AV} {m : MM} {n w : Nat} : go 22 23 ls (.inr (.inr (w, none)) :: .inr (.inr (6, some n)) :: st) m = go 22 26 ls st (sR m 6 n 6 none) := e_put (r := 6) (f := 6) d22_23 (by decide +kernel) (by simp [fc, tk, ek, ekL, fk, fkL]) (by decide +kernel)
theorem d22_26 : decode (mt 22).2.1 26 = .ok (.aload_n 0, 1) := by decide +kernel
theorem s22_26 {a1 a2 a3 : Option AV} {st : List AV} {m : MM} {x : Nat × Option Nat} : go 22 26 [some (.inr (.inr x)), a1, a2, a3] st m = go 22 27 [some (.inr (.inr x)), a1, a2, a3] (.inr (.inr x) :: st) m := e_1 d22_26 (Or.inl rfl) rfl
theorem d22_27 : decode (mt 22).2.1 27 = .ok (.new 23, 3) := by decide +kernel
theorem s22_27 {ls : LV} {st : List AV} {m : MM} : go 22 27 ls st m = go 22 30 ls (.inr (.inr (5, some (mC m 5))) :: st) (al m 5 0 3) := e_1 d22_27 (Or.inl rfl) (by rw [xi, show lk nwL (mt 22).2.2.1 23 = some 5 by decide +kernel]; rfl)
theorem d22_30 : decode (mt 22).2.1 30 = .ok (.dup, 1) := by decide +kernel
theorem s22_30 {ls : LV} {st : List AV} {m : MM} {x : Nat × Option Nat} : go 22 30 ls (.inr (.inr x) :: st) m = go 22 31 ls (.inr (.inr x) :: .inr (.inr x) :: st) m := e_1 d22_30 (Or.inl rfl) rfl
theorem d22_31 : decode (mt 22).2.1 31 = .ok (.invokespecial 25, 3) := by decide +kernel
theorem s22_31 {ls : LV} {m : MM} {w0 w1 : AV} {n : Nat} : go 22 31 ls [.inr (.inr (5, some n)), w0, w1] m = bd (go 15 0 [some (.inr (.inr (5, some n)))] [] m) (fun v m2 => go 22 34 ls (v.toList ++ [w0, w1]) m2) := e_spec (y1 := 15) (na := 0) (as := []) (rest := [w0, w1]) d22_31 (by decide +kernel) rfl (by decide +kernel) (show (ent [.inr (.inr (5, some n))]).length ≤ (mt 15).2.2.2.1 from Nat.le_of_ble_eq_true rfl) (cats_le (Nat.le_of_ble_eq_true rfl)) (by decide +kernel)
theorem d22_34 : decode (mt 22).2.1 34 = .ok (.putfield 26, 3) := by decide +kernel
theorem s22_34r {ls : LV} {st : List AV} {m : MM} {n : Nat} {p : Option Nat} : go 22 34 ls (.inr (.inr (5, p)) :: .inr (.inr (6, some n)) :: st) m = go 22 37 ls st (sR m 6 n 9 p) := e_put (r := 6) (f := 9) d22_34 (by decide +kernel) (by simp [fc, tk, ek, ekL, fk, fkL]) (by decide +kernel)
theorem s22_34n {ls : LV} {st : List AV} {m : MM} {n w : Nat} : go 22 34 ls (.inr (.inr (w, none)) :: .inr (.inr (6, some n)) :: st) m = go 22 37 ls st (sR m 6 n 9 none) := e_put (r := 6) (f := 9) d22_34 (by decide +kernel) (by simp [fc, tk, ek, ekL, fk, fkL]) (by decide +kernel)
theorem d22_37 : decode (mt 22).2.1 37 = .ok (.aload_n 0, 1) := by decide +kernel
theorem s22_37 {a1 a2 a3 : Option AV} {st : List AV} {m : MM} {x : Nat × Option Nat} : go 22 37 [some (.inr (.inr x)), a1, a2, a3] st m = go 22 38 [some (.inr (.inr x)), a1, a2, a3] (.inr (.inr x) :: st) m := e_1 d22_37 (Or.inl rfl) rfl
theorem d22_38 : decode (mt 22).2.1 38 = .ok (.iload_n 1, 1) := by decide +kernel
theorem s22_38 {a0 a2 a3 : Option AV} {st : List AV} {m : MM} {x : Int32} : go 22 38 [a0, some (.inl x), a2, a3] st m = go 22 39 [a0, some (.inl x), a2, a3] (.inl x :: st) m := e_1 d22_38 (Or.inl rfl) rfl
theorem d22_39 : decode (mt 22).2.1 39 = .ok (.putfield 30, 3) := by decide +kernel
theorem s22_39 {ls : LV} {st : List AV} {m : MM} {n : Nat} {x : Int32} : go 22 39 ls (.inl x :: .inr (.inr (6, some n)) :: st) m = go 22 42 ls st (sI m 6 n 0 x) := e_put (r := 6) (f := 0) d22_39 (by decide +kernel) rfl (by decide +kernel)
theorem d22_42 : decode (mt 22).2.1 42 = .ok (.aload_n 0, 1) := by decide +kernel
theorem s22_42 {a1 a2 a3 : Option AV} {st : List AV} {m : MM} {x : Nat × Option Nat} : go 22 42 [some (.inr (.inr x)), a1, a2, a3] st m = go 22 43 [some (.inr (.inr x)), a1, a2, a3] (.inr (.inr x) :: st) m := e_1 d22_42 (Or.inl rfl) rfl
theorem d22_43 : decode (mt 22).2.1 43 = .ok (.iload_n 2, 1) := by decide +kernel
theorem s22_43 {a0 a1 a3 : Option AV} {st : List AV} {m : MM} {x : Int32} : go 22 43 [a0, a1, some (.inl x), a3] st m = go 22 44 [a0, a1, some (.inl x), a3] (.inl x :: st) m := e_1 d22_43 (Or.inl rfl) rfl
theorem d22_44 : decode (mt 22).2.1 44 = .ok (.putfield 33, 3) := by decide +kernel
theorem s22_44 {ls : LV} {st : List AV} {m : MM} {n : Nat} {x : Int32} : go 22 44 ls (.inl x :: .inr (.inr (6, some n)) :: st) m = go 22 47 ls st (sI m 6 n 1 x) := e_put (r := 6) (f := 1) d22_44 (by decide +kernel) rfl (by decide +kernel)
theorem d22_47 : decode (mt 22).2.1 47 = .ok (.aload_n 0, 1) := by decide +kernel
theorem s22_47 {a1 a2 a3 : Option AV} {st : List AV} {m : MM} {x : Nat × Option Nat} : go 22 47 [some (.inr (.inr x)), a1, a2, a3] st m = go 22 48 [some (.inr (.inr x)), a1, a2, a3] (.inr (.inr x) :: st) m := e_1 d22_47 (Or.inl rfl) rfl
theorem d22_48 : decode (mt 22).2.1 48 = .ok (.iload_n 3, 1) := by decide +kernel
theorem s22_48 {a0 a1 a2 : Option AV} {st : List AV} {m : MM} {x : Int32} : go 22 48 [a0, a1, a2, some (.inl x)] st m = go 22 49 [a0, a1, a2, some (.inl x)] (.inl x :: st) m := e_1 d22_48 (Or.inl rfl) rfl
theorem d22_49 : decode (mt 22).2.1 49 = .ok (.putfield 36, 3) := by decide +kernel
theorem s22_49 {ls : LV} {st : List AV} {m : MM} {n : Nat} {x : Int32} : go 22 49 ls (.inl x :: .inr (.inr (6, some n)) :: st) m = go 22 52 ls st (sI m 6 n 2 x) := e_put (r := 6) (f := 2) d22_49 (by decide +kernel) rfl (by decide +kernel)
theorem d22_52 : decode (mt 22).2.1 52 = .ok (.return_, 1) := by decide +kernel
theorem s22_52 {ls : LV} {m : MM} : go 22 52 ls [] m = some (none, m) := e_void d22_52 (by decide +kernel)
/-! X5_isAway: 23 -/
theorem d23_0 : decode (mt 23).2.1 0 = .ok (.aload_n 0, 1) := by decide +kernel
theorem s23_0 {st : List AV} {m : MM} {x : Nat × Option Nat} : go 23 0 [some (.inr (.inr x))] st m = go 23 1 [some (.inr (.inr x))] (.inr (.inr x) :: st) m := e_1 d23_0 (Or.inl rfl) rfl
theorem d23_1 : decode (mt 23).2.1 1 = .ok (.getfield 9, 3) := by decide +kernel
theorem s23_1 {ls : LV} {st : List AV} {m : MM} {n : Nat} : go 23 1 ls (.inr (.inr (6, some n)) :: st) m = go 23 4 ls (.inl (mI m 6 n 3) :: st) m := e_1 d23_1 (Or.inl rfl) (by rw [xi, pA, show lk fdL (mt 23).2.2.1 9 = some (6, 3) by decide +kernel]; rfl)
theorem d23_4 : decode (mt 23).2.1 4 = .ok (.ifCond .eq 11, 3) := by decide +kernel
theorem s23_4 {ls : LV} {st : List AV} {m : MM} {a : Int32} : go 23 4 ls (.inl a :: st) m = if a = 0 then go 23 15 ls st m else go 23 7 ls st m := e_if (t := 15) (b := hc .eq a 0) d23_4 (Or.inl rfl) (by simp only [xi, pI, jm_some (t := 15) (show ((4 : Nat) : Int) + 11 = ((15 : Nat) : Int) by decide), Option.bind_some]) (by simp [hc])
theorem d23_7 : decode (mt 23).2.1 7 = .ok (.aload_n 0, 1) := by decide +kernel
theorem s23_7 {st : List AV} {m : MM} {x : Nat × Option Nat} : go 23 7 [some (.inr (.inr x))] st m = go 23 8 [some (.inr (.inr x))] (.inr (.inr x) :: st) m := e_1 d23_7 (Or.inl rfl) rfl
theorem d23_8 : decode (mt 23).2.1 8 = .ok (.getfield 9, 3) := by decide +kernel
theorem s23_8 {ls : LV} {st : List AV} {m : MM} {n : Nat} : go 23 8 ls (.inr (.inr (6, some n)) :: st) m = go 23 11 ls (.inl (mI m 6 n 3) :: st) m := e_1 d23_8 (Or.inl rfl) (by rw [xi, pA, show lk fdL (mt 23).2.2.1 9 = some (6, 3) by decide +kernel]; rfl)
theorem d23_11 : decode (mt 23).2.1 11 = .ok (.iconst 1, 1) := by decide +kernel
theorem s23_11 {ls : LV} {st : List AV} {m : MM} : go 23 11 ls st m = go 23 12 ls (.inl 1 :: st) m := e_1 d23_11 (Or.inl rfl) rfl
theorem d23_12 : decode (mt 23).2.1 12 = .ok (.if_icmp .ne 7, 3) := by decide +kernel
theorem s23_12 {ls : LV} {st : List AV} {m : MM} {a b : Int32} : go 23 12 ls (.inl b :: .inl a :: st) m = if ¬ a = b then go 23 19 ls st m else go 23 15 ls st m := e_if (t := 19) (b := hc .ne a b) d23_12 (Or.inl rfl) (by simp only [xi, pI, jm_some (t := 19) (show ((12 : Nat) : Int) + 7 = ((19 : Nat) : Int) by decide), Option.bind_some]) (by simp [hc])
theorem d23_15 : decode (mt 23).2.1 15 = .ok (.iconst 1, 1) := by decide +kernel
theorem s23_15 {ls : LV} {st : List AV} {m : MM} : go 23 15 ls st m = go 23 16 ls (.inl 1 :: st) m := e_1 d23_15 (Or.inl rfl) rfl
theorem d23_16 : decode (mt 23).2.1 16 = .ok (.goto 4, 3) := by decide +kernel
theorem s23_16 {ls : LV} {st : List AV} {m : MM} : go 23 16 ls st m = go 23 20 ls st m := e_1 d23_16 (Or.inl rfl) (by rw [xi, jm_some (t := 20) (by decide)]; rfl)
theorem d23_19 : decode (mt 23).2.1 19 = .ok (.iconst 0, 1) := by decide +kernel
theorem s23_19 {ls : LV} {st : List AV} {m : MM} : go 23 19 ls st m = go 23 20 ls (.inl 0 :: st) m := e_1 d23_19 (Or.inl rfl) rfl
theorem d23_20 : decode (mt 23).2.1 20 = .ok (.ireturn, 1) := by decide +kernel
theorem s23_20b0 {ls : LV} {m : MM} : go 23 20 ls [.inl 0] m = some (some (.inl 0), m) := e_bool d23_20 (by decide +kernel) (by decide)
theorem s23_20b1 {ls : LV} {m : MM} : go 23 20 ls [.inl 1] m = some (some (.inl 1), m) := e_bool d23_20 (by decide +kernel) (by decide)
/-! X5_startsAs: 24 -/
theorem d24_0 : decode (mt 24).2.1 0 = .ok (.aload_n 0, 1) := by decide +kernel
theorem s24_0 {a1 a2 : Option AV} {st : List AV} {m : MM} {x : Nat × Option Nat} : go 24 0 [some (.inr (.inr x)), a1, a2] st m = go 24 1 [some (.inr (.inr x)), a1, a2] (.inr (.inr x) :: st) m := e_1 d24_0 (Or.inl rfl) rfl
theorem d24_1 : decode (mt 24).2.1 1 = .ok (.getfield 36, 3) := by decide +kernel
theorem s24_1 {ls : LV} {st : List AV} {m : MM} {n : Nat} : go 24 1 ls (.inr (.inr (6, some n)) :: st) m = go 24 4 ls (.inl (mI m 6 n 2) :: st) m := e_1 d24_1 (Or.inl rfl) (by rw [xi, pA, show lk fdL (mt 24).2.2.1 36 = some (6, 2) by decide +kernel]; rfl)
theorem d24_4 : decode (mt 24).2.1 4 = .ok (.aload_n 1, 1) := by decide +kernel
theorem s24_4 {a0 a2 : Option AV} {st : List AV} {m : MM} {x : Nat × Option Nat} : go 24 4 [a0, some (.inr (.inr x)), a2] st m = go 24 5 [a0, some (.inr (.inr x)), a2] (.inr (.inr x) :: st) m := e_1 d24_4 (Or.inl rfl) rfl
theorem d24_5 : decode (mt 24).2.1 5 = .ok (.getfield 36, 3) := by decide +kernel
theorem s24_5 {ls : LV} {st : List AV} {m : MM} {n : Nat} : go 24 5 ls (.inr (.inr (6, some n)) :: st) m = go 24 8 ls (.inl (mI m 6 n 2) :: st) m := e_1 d24_5 (Or.inl rfl) (by rw [xi, pA, show lk fdL (mt 24).2.2.1 36 = some (6, 2) by decide +kernel]; rfl)
theorem d24_8 : decode (mt 24).2.1 8 = .ok (.ixor, 1) := by decide +kernel
theorem s24_8 {ls : LV} {st : List AV} {m : MM} {a b : Int32} : go 24 8 ls (.inl b :: .inl a :: st) m = go 24 9 ls (.inl (a ^^^ b) :: st) m := e_1 d24_8 (Or.inl rfl) rfl
theorem d24_9 : decode (mt 24).2.1 9 = .ok (.iconst 1, 1) := by decide +kernel
theorem s24_9 {ls : LV} {st : List AV} {m : MM} : go 24 9 ls st m = go 24 10 ls (.inl 1 :: st) m := e_1 d24_9 (Or.inl rfl) rfl
theorem d24_10 : decode (mt 24).2.1 10 = .ok (.iload_n 2, 1) := by decide +kernel
theorem s24_10 {a0 a1 : Option AV} {st : List AV} {m : MM} {x : Int32} : go 24 10 [a0, a1, some (.inl x)] st m = go 24 11 [a0, a1, some (.inl x)] (.inl x :: st) m := e_1 d24_10 (Or.inl rfl) rfl
theorem d24_11 : decode (mt 24).2.1 11 = .ok (.ishl, 1) := by decide +kernel
theorem s24_11 {ls : LV} {st : List AV} {m : MM} {a b : Int32} : go 24 11 ls (.inl b :: .inl a :: st) m = go 24 12 ls (.inl (a <<< (b &&& 31)) :: st) m := e_1 d24_11 (Or.inl rfl) rfl
theorem d24_12 : decode (mt 24).2.1 12 = .ok (.iconst 1, 1) := by decide +kernel
theorem s24_12 {ls : LV} {st : List AV} {m : MM} : go 24 12 ls st m = go 24 13 ls (.inl 1 :: st) m := e_1 d24_12 (Or.inl rfl) rfl
theorem d24_13 : decode (mt 24).2.1 13 = .ok (.isub, 1) := by decide +kernel
theorem s24_13 {ls : LV} {st : List AV} {m : MM} {a b : Int32} : go 24 13 ls (.inl b :: .inl a :: st) m = go 24 14 ls (.inl (a - b) :: st) m := e_1 d24_13 (Or.inl rfl) rfl
theorem d24_14 : decode (mt 24).2.1 14 = .ok (.iand, 1) := by decide +kernel
theorem s24_14 {ls : LV} {st : List AV} {m : MM} {a b : Int32} : go 24 14 ls (.inl b :: .inl a :: st) m = go 24 15 ls (.inl (a &&& b) :: st) m := e_1 d24_14 (Or.inl rfl) rfl
theorem d24_15 : decode (mt 24).2.1 15 = .ok (.ifCond .ne 7, 3) := by decide +kernel
theorem s24_15 {ls : LV} {st : List AV} {m : MM} {a : Int32} : go 24 15 ls (.inl a :: st) m = if ¬ a = 0 then go 24 22 ls st m else go 24 18 ls st m := e_if (t := 22) (b := hc .ne a 0) d24_15 (Or.inl rfl) (by simp only [xi, pI, jm_some (t := 22) (show ((15 : Nat) : Int) + 7 = ((22 : Nat) : Int) by decide), Option.bind_some]) (by simp [hc])
theorem d24_18 : decode (mt 24).2.1 18 = .ok (.iconst 1, 1) := by decide +kernel
theorem s24_18 {ls : LV} {st : List AV} {m : MM} : go 24 18 ls st m = go 24 19 ls (.inl 1 :: st) m := e_1 d24_18 (Or.inl rfl) rfl
theorem d24_19 : decode (mt 24).2.1 19 = .ok (.goto 4, 3) := by decide +kernel
theorem s24_19 {ls : LV} {st : List AV} {m : MM} : go 24 19 ls st m = go 24 23 ls st m := e_1 d24_19 (Or.inl rfl) (by rw [xi, jm_some (t := 23) (by decide)]; rfl)
theorem d24_22 : decode (mt 24).2.1 22 = .ok (.iconst 0, 1) := by decide +kernel
theorem s24_22 {ls : LV} {st : List AV} {m : MM} : go 24 22 ls st m = go 24 23 ls (.inl 0 :: st) m := e_1 d24_22 (Or.inl rfl) rfl
theorem d24_23 : decode (mt 24).2.1 23 = .ok (.ireturn, 1) := by decide +kernel
theorem s24_23b0 {ls : LV} {m : MM} : go 24 23 ls [.inl 0] m = some (some (.inl 0), m) := e_bool d24_23 (by decide +kernel) (by decide)
theorem s24_23b1 {ls : LV} {m : MM} : go 24 23 ls [.inl 1] m = some (some (.inl 1), m) := e_bool d24_23 (by decide +kernel) (by decide)
/-! X5_isBeyond: 25 -/
theorem d25_0 : decode (mt 25).2.1 0 = .ok (.iload_n 2, 1) := by decide +kernel
theorem s25_0 {a0 a1 : Option AV} {st : List AV} {m : MM} {x : Int32} : go 25 0 [a0, a1, some (.inl x)] st m = go 25 1 [a0, a1, some (.inl x)] (.inl x :: st) m := e_1 d25_0 (Or.inl rfl) rfl
theorem d25_1 : decode (mt 25).2.1 1 = .ok (.ifCond .ne 22, 3) := by decide +kernel
theorem s25_1 {ls : LV} {st : List AV} {m : MM} {a : Int32} : go 25 1 ls (.inl a :: st) m = if ¬ a = 0 then go 25 23 ls st m else go 25 4 ls st m := e_if (t := 23) (b := hc .ne a 0) d25_1 (Or.inl rfl) (by simp only [xi, pI, jm_some (t := 23) (show ((1 : Nat) : Int) + 22 = ((23 : Nat) : Int) by decide), Option.bind_some]) (by simp [hc])
theorem d25_4 : decode (mt 25).2.1 4 = .ok (.aload_n 0, 1) := by decide +kernel
theorem s25_4 {a1 a2 : Option AV} {st : List AV} {m : MM} {x : Nat × Option Nat} : go 25 4 [some (.inr (.inr x)), a1, a2] st m = go 25 5 [some (.inr (.inr x)), a1, a2] (.inr (.inr x) :: st) m := e_1 d25_4 (Or.inl rfl) rfl
theorem d25_5 : decode (mt 25).2.1 5 = .ok (.getfield 33, 3) := by decide +kernel
theorem s25_5 {ls : LV} {st : List AV} {m : MM} {n : Nat} : go 25 5 ls (.inr (.inr (6, some n)) :: st) m = go 25 8 ls (.inl (mI m 6 n 1) :: st) m := e_1 d25_5 (Or.inl rfl) (by rw [xi, pA, show lk fdL (mt 25).2.2.1 33 = some (6, 1) by decide +kernel]; rfl)
theorem d25_8 : decode (mt 25).2.1 8 = .ok (.aload_n 1, 1) := by decide +kernel
theorem s25_8 {a0 a2 : Option AV} {st : List AV} {m : MM} {x : Nat × Option Nat} : go 25 8 [a0, some (.inr (.inr x)), a2] st m = go 25 9 [a0, some (.inr (.inr x)), a2] (.inr (.inr x) :: st) m := e_1 d25_8 (Or.inl rfl) rfl
theorem d25_9 : decode (mt 25).2.1 9 = .ok (.getfield 33, 3) := by decide +kernel
theorem s25_9 {ls : LV} {st : List AV} {m : MM} {n : Nat} : go 25 9 ls (.inr (.inr (6, some n)) :: st) m = go 25 12 ls (.inl (mI m 6 n 1) :: st) m := e_1 d25_9 (Or.inl rfl) (by rw [xi, pA, show lk fdL (mt 25).2.2.1 33 = some (6, 1) by decide +kernel]; rfl)
theorem d25_12 : decode (mt 25).2.1 12 = .ok (.if_icmp .ge 7, 3) := by decide +kernel
theorem s25_12 {ls : LV} {st : List AV} {m : MM} {a b : Int32} : go 25 12 ls (.inl b :: .inl a :: st) m = if b ≤ a then go 25 19 ls st m else go 25 15 ls st m := e_if (t := 19) (b := hc .ge a b) d25_12 (Or.inl rfl) (by simp only [xi, pI, jm_some (t := 19) (show ((12 : Nat) : Int) + 7 = ((19 : Nat) : Int) by decide), Option.bind_some]) (by simp [hc])
theorem d25_15 : decode (mt 25).2.1 15 = .ok (.iconst 1, 1) := by decide +kernel
theorem s25_15 {ls : LV} {st : List AV} {m : MM} : go 25 15 ls st m = go 25 16 ls (.inl 1 :: st) m := e_1 d25_15 (Or.inl rfl) rfl
theorem d25_16 : decode (mt 25).2.1 16 = .ok (.goto 23, 3) := by decide +kernel
theorem s25_16 {ls : LV} {st : List AV} {m : MM} : go 25 16 ls st m = go 25 39 ls st m := e_1 d25_16 (Or.inl rfl) (by rw [xi, jm_some (t := 39) (by decide)]; rfl)
theorem d25_19 : decode (mt 25).2.1 19 = .ok (.iconst 0, 1) := by decide +kernel
theorem s25_19 {ls : LV} {st : List AV} {m : MM} : go 25 19 ls st m = go 25 20 ls (.inl 0 :: st) m := e_1 d25_19 (Or.inl rfl) rfl
theorem d25_20 : decode (mt 25).2.1 20 = .ok (.goto 19, 3) := by decide +kernel
theorem s25_20 {ls : LV} {st : List AV} {m : MM} : go 25 20 ls st m = go 25 39 ls st m := e_1 d25_20 (Or.inl rfl) (by rw [xi, jm_some (t := 39) (by decide)]; rfl)
theorem d25_23 : decode (mt 25).2.1 23 = .ok (.aload_n 0, 1) := by decide +kernel
theorem s25_23 {a1 a2 : Option AV} {st : List AV} {m : MM} {x : Nat × Option Nat} : go 25 23 [some (.inr (.inr x)), a1, a2] st m = go 25 24 [some (.inr (.inr x)), a1, a2] (.inr (.inr x) :: st) m := e_1 d25_23 (Or.inl rfl) rfl
theorem d25_24 : decode (mt 25).2.1 24 = .ok (.getfield 33, 3) := by decide +kernel
theorem s25_24 {ls : LV} {st : List AV} {m : MM} {n : Nat} : go 25 24 ls (.inr (.inr (6, some n)) :: st) m = go 25 27 ls (.inl (mI m 6 n 1) :: st) m := e_1 d25_24 (Or.inl rfl) (by rw [xi, pA, show lk fdL (mt 25).2.2.1 33 = some (6, 1) by decide +kernel]; rfl)
theorem d25_27 : decode (mt 25).2.1 27 = .ok (.aload_n 1, 1) := by decide +kernel
theorem s25_27 {a0 a2 : Option AV} {st : List AV} {m : MM} {x : Nat × Option Nat} : go 25 27 [a0, some (.inr (.inr x)), a2] st m = go 25 28 [a0, some (.inr (.inr x)), a2] (.inr (.inr x) :: st) m := e_1 d25_27 (Or.inl rfl) rfl
theorem d25_28 : decode (mt 25).2.1 28 = .ok (.getfield 33, 3) := by decide +kernel
theorem s25_28 {ls : LV} {st : List AV} {m : MM} {n : Nat} : go 25 28 ls (.inr (.inr (6, some n)) :: st) m = go 25 31 ls (.inl (mI m 6 n 1) :: st) m := e_1 d25_28 (Or.inl rfl) (by rw [xi, pA, show lk fdL (mt 25).2.2.1 33 = some (6, 1) by decide +kernel]; rfl)
theorem d25_31 : decode (mt 25).2.1 31 = .ok (.if_icmp .le 7, 3) := by decide +kernel
theorem s25_31 {ls : LV} {st : List AV} {m : MM} {a b : Int32} : go 25 31 ls (.inl b :: .inl a :: st) m = if a ≤ b then go 25 38 ls st m else go 25 34 ls st m := e_if (t := 38) (b := hc .le a b) d25_31 (Or.inl rfl) (by simp only [xi, pI, jm_some (t := 38) (show ((31 : Nat) : Int) + 7 = ((38 : Nat) : Int) by decide), Option.bind_some]) (by simp [hc])
theorem d25_34 : decode (mt 25).2.1 34 = .ok (.iconst 1, 1) := by decide +kernel
theorem s25_34 {ls : LV} {st : List AV} {m : MM} : go 25 34 ls st m = go 25 35 ls (.inl 1 :: st) m := e_1 d25_34 (Or.inl rfl) rfl
theorem d25_35 : decode (mt 25).2.1 35 = .ok (.goto 4, 3) := by decide +kernel
theorem s25_35 {ls : LV} {st : List AV} {m : MM} : go 25 35 ls st m = go 25 39 ls st m := e_1 d25_35 (Or.inl rfl) (by rw [xi, jm_some (t := 39) (by decide)]; rfl)
theorem d25_38 : decode (mt 25).2.1 38 = .ok (.iconst 0, 1) := by decide +kernel
theorem s25_38 {ls : LV} {st : List AV} {m : MM} : go 25 38 ls st m = go 25 39 ls (.inl 0 :: st) m := e_1 d25_38 (Or.inl rfl) rfl
theorem d25_39 : decode (mt 25).2.1 39 = .ok (.ireturn, 1) := by decide +kernel
theorem s25_39b0 {ls : LV} {m : MM} : go 25 39 ls [.inl 0] m = some (some (.inl 0), m) := e_bool d25_39 (by decide +kernel) (by decide)
theorem s25_39b1 {ls : LV} {m : MM} : go 25 39 ls [.inl 1] m = some (some (.inl 1), m) := e_bool d25_39 (by decide +kernel) (by decide)
/-! X5_hasPlace: 26 -/
theorem d26_0 : decode (mt 26).2.1 0 = .ok (.iload_n 1, 1) := by decide +kernel
theorem s26_0 {a0 : Option AV} {st : List AV} {m : MM} {x : Int32} : go 26 0 [a0, some (.inl x)] st m = go 26 1 [a0, some (.inl x)] (.inl x :: st) m := e_1 d26_0 (Or.inl rfl) rfl
theorem d26_1 : decode (mt 26).2.1 1 = .ok (.ifCond .lt 22, 3) := by decide +kernel
theorem s26_1 {ls : LV} {st : List AV} {m : MM} {a : Int32} : go 26 1 ls (.inl a :: st) m = if a < 0 then go 26 23 ls st m else go 26 4 ls st m := e_if (t := 23) (b := hc .lt a 0) d26_1 (Or.inl rfl) (by simp only [xi, pI, jm_some (t := 23) (show ((1 : Nat) : Int) + 22 = ((23 : Nat) : Int) by decide), Option.bind_some]) (by simp [hc])
theorem d26_4 : decode (mt 26).2.1 4 = .ok (.iload_n 1, 1) := by decide +kernel
theorem s26_4 {a0 : Option AV} {st : List AV} {m : MM} {x : Int32} : go 26 4 [a0, some (.inl x)] st m = go 26 5 [a0, some (.inl x)] (.inl x :: st) m := e_1 d26_4 (Or.inl rfl) rfl
theorem d26_5 : decode (mt 26).2.1 5 = .ok (.bipush 9, 2) := by decide +kernel
theorem s26_5 {ls : LV} {st : List AV} {m : MM} : go 26 5 ls st m = go 26 7 ls (.inl 9 :: st) m := e_1 d26_5 (Or.inl rfl) rfl
theorem d26_7 : decode (mt 26).2.1 7 = .ok (.if_icmp .ge 16, 3) := by decide +kernel
theorem s26_7 {ls : LV} {st : List AV} {m : MM} {a b : Int32} : go 26 7 ls (.inl b :: .inl a :: st) m = if b ≤ a then go 26 23 ls st m else go 26 10 ls st m := e_if (t := 23) (b := hc .ge a b) d26_7 (Or.inl rfl) (by simp only [xi, pI, jm_some (t := 23) (show ((7 : Nat) : Int) + 16 = ((23 : Nat) : Int) by decide), Option.bind_some]) (by simp [hc])
theorem d26_10 : decode (mt 26).2.1 10 = .ok (.aload_n 0, 1) := by decide +kernel
theorem s26_10 {a1 : Option AV} {st : List AV} {m : MM} {x : Nat × Option Nat} : go 26 10 [some (.inr (.inr x)), a1] st m = go 26 11 [some (.inr (.inr x)), a1] (.inr (.inr x) :: st) m := e_1 d26_10 (Or.inl rfl) rfl
theorem d26_11 : decode (mt 26).2.1 11 = .ok (.getfield 15, 3) := by decide +kernel
theorem s26_11 {ls : LV} {st : List AV} {m : MM} {n : Nat} : go 26 11 ls (.inr (.inr (6, some n)) :: st) m = go 26 14 ls (.inr (.inr (14, mR m 6 n 5)) :: st) m := e_1 d26_11 (Or.inl rfl) (by rw [xi, pA, show lk fdL (mt 26).2.2.1 15 = some (6, 5) by decide +kernel]; rfl)
theorem d26_14 : decode (mt 26).2.1 14 = .ok (.iload_n 1, 1) := by decide +kernel
theorem s26_14 {a0 : Option AV} {st : List AV} {m : MM} {x : Int32} : go 26 14 [a0, some (.inl x)] st m = go 26 15 [a0, some (.inl x)] (.inl x :: st) m := e_1 d26_14 (Or.inl rfl) rfl
theorem d26_15 : decode (mt 26).2.1 15 = .ok (.baload, 1) := by decide +kernel
theorem s26_15 {ls : LV} {st : List AV} {m : MM} {n : Nat} {i : Int32} : go 26 15 ls (.inl i :: .inr (.inr (14, some n)) :: st) m = ixk (ix i (mN m 14 n)) (fun j => go 26 16 ls (.inl (mI m 14 n j) :: st) m) := e_ald d26_15 (fun j hj => by simp only [xi, pI, pA, hj, Option.bind_some]; rfl) (fun hj => by simp only [xi, pI, pA, hj, Option.bind_none])
theorem d26_16 : decode (mt 26).2.1 16 = .ok (.ifCond .eq 7, 3) := by decide +kernel
theorem s26_16 {ls : LV} {st : List AV} {m : MM} {a : Int32} : go 26 16 ls (.inl a :: st) m = if a = 0 then go 26 23 ls st m else go 26 19 ls st m := e_if (t := 23) (b := hc .eq a 0) d26_16 (Or.inl rfl) (by simp only [xi, pI, jm_some (t := 23) (show ((16 : Nat) : Int) + 7 = ((23 : Nat) : Int) by decide), Option.bind_some]) (by simp [hc])
theorem d26_19 : decode (mt 26).2.1 19 = .ok (.iconst 1, 1) := by decide +kernel
theorem s26_19 {ls : LV} {st : List AV} {m : MM} : go 26 19 ls st m = go 26 20 ls (.inl 1 :: st) m := e_1 d26_19 (Or.inl rfl) rfl
theorem d26_20 : decode (mt 26).2.1 20 = .ok (.goto 4, 3) := by decide +kernel
theorem s26_20 {ls : LV} {st : List AV} {m : MM} : go 26 20 ls st m = go 26 24 ls st m := e_1 d26_20 (Or.inl rfl) (by rw [xi, jm_some (t := 24) (by decide)]; rfl)
theorem d26_23 : decode (mt 26).2.1 23 = .ok (.iconst 0, 1) := by decide +kernel
theorem s26_23 {ls : LV} {st : List AV} {m : MM} : go 26 23 ls st m = go 26 24 ls (.inl 0 :: st) m := e_1 d26_23 (Or.inl rfl) rfl
theorem d26_24 : decode (mt 26).2.1 24 = .ok (.ireturn, 1) := by decide +kernel
theorem s26_24b0 {ls : LV} {m : MM} : go 26 24 ls [.inl 0] m = some (some (.inl 0), m) := e_bool d26_24 (by decide +kernel) (by decide)
theorem s26_24b1 {ls : LV} {m : MM} : go 26 24 ls [.inl 1] m = some (some (.inl 1), m) := e_bool d26_24 (by decide +kernel) (by decide)
/-! X5_next: 27 -/
theorem d27_0 : decode (mt 27).2.1 0 = .ok (.aload_n 0, 1) := by decide +kernel
theorem s27_0 {a1 a2 : Option AV} {st : List AV} {m : MM} {x : Nat × Option Nat} : go 27 0 [some (.inr (.inr x)), a1, a2] st m = go 27 1 [some (.inr (.inr x)), a1, a2] (.inr (.inr x) :: st) m := e_1 d27_0 (Or.inl rfl) rfl
theorem d27_1 : decode (mt 27).2.1 1 = .ok (.iload_n 1, 1) := by decide +kernel
theorem s27_1 {a0 a2 : Option AV} {st : List AV} {m : MM} {x : Int32} : go 27 1 [a0, some (.inl x), a2] st m = go 27 2 [a0, some (.inl x), a2] (.inl x :: st) m := e_1 d27_1 (Or.inl rfl) rfl
theorem d27_2 : decode (mt 27).2.1 2 = .ok (.invokevirtual 39, 3) := by decide +kernel
theorem s27_2 {ls : LV} {m : MM} {x0 : Int32} {n : Nat} : go 27 2 ls [.inl x0, .inr (.inr (6, some n))] m = bd (go 26 0 [some (.inr (.inr (6, some n))), some (.inl x0)] [] m) (fun v m2 => go 27 5 ls (v.toList ++ []) m2) := e_virt (y1 := 26) (na := 1) (as := [.inl x0]) (rest := []) d27_2 (by decide +kernel) rfl (by decide +kernel) (show (ent [.inr (.inr (6, some n)), .inl x0]).length ≤ (mt 26).2.2.2.1 from Nat.le_of_ble_eq_true rfl) (cats_le (Nat.le_of_ble_eq_true rfl)) (by decide +kernel)
theorem d27_5 : decode (mt 27).2.1 5 = .ok (.ifCond .eq 18, 3) := by decide +kernel
theorem s27_5 {ls : LV} {st : List AV} {m : MM} {a : Int32} : go 27 5 ls (.inl a :: st) m = if a = 0 then go 27 23 ls st m else go 27 8 ls st m := e_if (t := 23) (b := hc .eq a 0) d27_5 (Or.inl rfl) (by simp only [xi, pI, jm_some (t := 23) (show ((5 : Nat) : Int) + 18 = ((23 : Nat) : Int) by decide), Option.bind_some]) (by simp [hc])
theorem d27_8 : decode (mt 27).2.1 8 = .ok (.aload_n 0, 1) := by decide +kernel
theorem s27_8 {a1 a2 : Option AV} {st : List AV} {m : MM} {x : Nat × Option Nat} : go 27 8 [some (.inr (.inr x)), a1, a2] st m = go 27 9 [some (.inr (.inr x)), a1, a2] (.inr (.inr x) :: st) m := e_1 d27_8 (Or.inl rfl) rfl
theorem d27_9 : decode (mt 27).2.1 9 = .ok (.getfield 19, 3) := by decide +kernel
theorem s27_9 {ls : LV} {st : List AV} {m : MM} {n : Nat} : go 27 9 ls (.inr (.inr (6, some n)) :: st) m = go 27 12 ls (.inr (.inr (15, mR m 6 n 6)) :: st) m := e_1 d27_9 (Or.inl rfl) (by rw [xi, pA, show lk fdL (mt 27).2.2.1 19 = some (6, 6) by decide +kernel]; rfl)
theorem d27_12 : decode (mt 27).2.1 12 = .ok (.iload_n 1, 1) := by decide +kernel
theorem s27_12 {a0 a2 : Option AV} {st : List AV} {m : MM} {x : Int32} : go 27 12 [a0, some (.inl x), a2] st m = go 27 13 [a0, some (.inl x), a2] (.inl x :: st) m := e_1 d27_12 (Or.inl rfl) rfl
theorem d27_13 : decode (mt 27).2.1 13 = .ok (.iconst 2, 1) := by decide +kernel
theorem s27_13 {ls : LV} {st : List AV} {m : MM} : go 27 13 ls st m = go 27 14 ls (.inl 2 :: st) m := e_1 d27_13 (Or.inl rfl) rfl
theorem d27_14 : decode (mt 27).2.1 14 = .ok (.imul, 1) := by decide +kernel
theorem s27_14 {ls : LV} {st : List AV} {m : MM} {a b : Int32} : go 27 14 ls (.inl b :: .inl a :: st) m = go 27 15 ls (.inl (a * b) :: st) m := e_1 d27_14 (Or.inl rfl) rfl
theorem d27_15 : decode (mt 27).2.1 15 = .ok (.iload_n 2, 1) := by decide +kernel
theorem s27_15 {a0 a1 : Option AV} {st : List AV} {m : MM} {x : Int32} : go 27 15 [a0, a1, some (.inl x)] st m = go 27 16 [a0, a1, some (.inl x)] (.inl x :: st) m := e_1 d27_15 (Or.inl rfl) rfl
theorem d27_16 : decode (mt 27).2.1 16 = .ok (.iconst 1, 1) := by decide +kernel
theorem s27_16 {ls : LV} {st : List AV} {m : MM} : go 27 16 ls st m = go 27 17 ls (.inl 1 :: st) m := e_1 d27_16 (Or.inl rfl) rfl
theorem d27_17 : decode (mt 27).2.1 17 = .ok (.iand, 1) := by decide +kernel
theorem s27_17 {ls : LV} {st : List AV} {m : MM} {a b : Int32} : go 27 17 ls (.inl b :: .inl a :: st) m = go 27 18 ls (.inl (a &&& b) :: st) m := e_1 d27_17 (Or.inl rfl) rfl
theorem d27_18 : decode (mt 27).2.1 18 = .ok (.iadd, 1) := by decide +kernel
theorem s27_18 {ls : LV} {st : List AV} {m : MM} {a b : Int32} : go 27 18 ls (.inl b :: .inl a :: st) m = go 27 19 ls (.inl (a + b) :: st) m := e_1 d27_18 (Or.inl rfl) rfl
theorem d27_19 : decode (mt 27).2.1 19 = .ok (.aaload, 1) := by decide +kernel
theorem s27_19 {ls : LV} {st : List AV} {m : MM} {n : Nat} {i : Int32} : go 27 19 ls (.inl i :: .inr (.inr (15, some n)) :: st) m = ixk (ix i (mN m 15 n)) (fun j => go 27 20 ls (.inr (.inr (6, mR m 15 n j)) :: st) m) := e_ald d27_19 (fun j hj => by simp only [xi, pI, pA, hj, Option.bind_some]; rfl) (fun hj => by simp only [xi, pI, pA, hj, Option.bind_none])
theorem d27_20 : decode (mt 27).2.1 20 = .ok (.goto 4, 3) := by decide +kernel
theorem s27_20 {ls : LV} {st : List AV} {m : MM} : go 27 20 ls st m = go 27 24 ls st m := e_1 d27_20 (Or.inl rfl) (by rw [xi, jm_some (t := 24) (by decide)]; rfl)
theorem d27_23 : decode (mt 27).2.1 23 = .ok (.aconst_null, 1) := by decide +kernel
theorem s27_23 {ls : LV} {st : List AV} {m : MM} : go 27 23 ls st m = go 27 24 ls (.inr (.inr (0, none)) :: st) m := e_1 d27_23 (Or.inl rfl) rfl
theorem d27_24 : decode (mt 27).2.1 24 = .ok (.areturn, 1) := by decide +kernel
theorem s27_24 {ls : LV} {m : MM} {x : Nat × Option Nat} : go 27 24 ls [.inr (.inr x)] m = some (some (.inr (.inr x)), m) := e_ref d27_24 rfl
/-! X5_hasSomebody: 28 -/
theorem d28_0 : decode (mt 28).2.1 0 = .ok (.aload_n 0, 1) := by decide +kernel
theorem s28_0 {a1 : Option AV} {st : List AV} {m : MM} {x : Nat × Option Nat} : go 28 0 [some (.inr (.inr x)), a1] st m = go 28 1 [some (.inr (.inr x)), a1] (.inr (.inr x) :: st) m := e_1 d28_0 (Or.inl rfl) rfl
theorem d28_1 : decode (mt 28).2.1 1 = .ok (.iload_n 1, 1) := by decide +kernel
theorem s28_1 {a0 : Option AV} {st : List AV} {m : MM} {x : Int32} : go 28 1 [a0, some (.inl x)] st m = go 28 2 [a0, some (.inl x)] (.inl x :: st) m := e_1 d28_1 (Or.inl rfl) rfl
theorem d28_2 : decode (mt 28).2.1 2 = .ok (.iconst 0, 1) := by decide +kernel
theorem s28_2 {ls : LV} {st : List AV} {m : MM} : go 28 2 ls st m = go 28 3 ls (.inl 0 :: st) m := e_1 d28_2 (Or.inl rfl) rfl
theorem d28_3 : decode (mt 28).2.1 3 = .ok (.invokevirtual 43, 3) := by decide +kernel
theorem s28_3 {ls : LV} {m : MM} {x0 : Int32} {x1 : Int32} {n : Nat} : go 28 3 ls [.inl x1, .inl x0, .inr (.inr (6, some n))] m = bd (go 27 0 [some (.inr (.inr (6, some n))), some (.inl x0), some (.inl x1)] [] m) (fun v m2 => go 28 6 ls (v.toList ++ []) m2) := e_virt (y1 := 27) (na := 2) (as := [.inl x0, .inl x1]) (rest := []) d28_3 (by decide +kernel) rfl (by decide +kernel) (show (ent [.inr (.inr (6, some n)), .inl x0, .inl x1]).length ≤ (mt 27).2.2.2.1 from Nat.le_of_ble_eq_true rfl) (cats_le (Nat.le_of_ble_eq_true rfl)) (by decide +kernel)
theorem d28_6 : decode (mt 28).2.1 6 = .ok (.ifnonnull 12, 3) := by decide +kernel
theorem s28_6n {u : Nat} {ls : LV} {st : List AV} {m : MM} : go 28 6 ls (.inr (.inr (u, none)) :: st) m = go 28 9 ls st m := e_1 d28_6 (Or.inl rfl) (by rw [xi, jm_some (t := 18) (by decide)]; rfl)
theorem s28_6s {u n : Nat} {ls : LV} {st : List AV} {m : MM} : go 28 6 ls (.inr (.inr (u, some n)) :: st) m = go 28 18 ls st m := e_1 d28_6 (Or.inl rfl) (by rw [xi, jm_some (t := 18) (by decide)]; rfl)
theorem d28_9 : decode (mt 28).2.1 9 = .ok (.aload_n 0, 1) := by decide +kernel
theorem s28_9 {a1 : Option AV} {st : List AV} {m : MM} {x : Nat × Option Nat} : go 28 9 [some (.inr (.inr x)), a1] st m = go 28 10 [some (.inr (.inr x)), a1] (.inr (.inr x) :: st) m := e_1 d28_9 (Or.inl rfl) rfl
theorem d28_10 : decode (mt 28).2.1 10 = .ok (.iload_n 1, 1) := by decide +kernel
theorem s28_10 {a0 : Option AV} {st : List AV} {m : MM} {x : Int32} : go 28 10 [a0, some (.inl x)] st m = go 28 11 [a0, some (.inl x)] (.inl x :: st) m := e_1 d28_10 (Or.inl rfl) rfl
theorem d28_11 : decode (mt 28).2.1 11 = .ok (.iconst 1, 1) := by decide +kernel
theorem s28_11 {ls : LV} {st : List AV} {m : MM} : go 28 11 ls st m = go 28 12 ls (.inl 1 :: st) m := e_1 d28_11 (Or.inl rfl) rfl
theorem d28_12 : decode (mt 28).2.1 12 = .ok (.invokevirtual 43, 3) := by decide +kernel
theorem s28_12 {ls : LV} {m : MM} {x0 : Int32} {x1 : Int32} {n : Nat} : go 28 12 ls [.inl x1, .inl x0, .inr (.inr (6, some n))] m = bd (go 27 0 [some (.inr (.inr (6, some n))), some (.inl x0), some (.inl x1)] [] m) (fun v m2 => go 28 15 ls (v.toList ++ []) m2) := e_virt (y1 := 27) (na := 2) (as := [.inl x0, .inl x1]) (rest := []) d28_12 (by decide +kernel) rfl (by decide +kernel) (show (ent [.inr (.inr (6, some n)), .inl x0, .inl x1]).length ≤ (mt 27).2.2.2.1 from Nat.le_of_ble_eq_true rfl) (cats_le (Nat.le_of_ble_eq_true rfl)) (by decide +kernel)
theorem d28_15 : decode (mt 28).2.1 15 = .ok (.ifnull 7, 3) := by decide +kernel
theorem s28_15n {u : Nat} {ls : LV} {st : List AV} {m : MM} : go 28 15 ls (.inr (.inr (u, none)) :: st) m = go 28 22 ls st m := e_1 d28_15 (Or.inl rfl) (by rw [xi, jm_some (t := 22) (by decide)]; rfl)
theorem s28_15s {u n : Nat} {ls : LV} {st : List AV} {m : MM} : go 28 15 ls (.inr (.inr (u, some n)) :: st) m = go 28 18 ls st m := e_1 d28_15 (Or.inl rfl) (by rw [xi, jm_some (t := 22) (by decide)]; rfl)
theorem d28_18 : decode (mt 28).2.1 18 = .ok (.iconst 1, 1) := by decide +kernel
theorem s28_18 {ls : LV} {st : List AV} {m : MM} : go 28 18 ls st m = go 28 19 ls (.inl 1 :: st) m := e_1 d28_18 (Or.inl rfl) rfl
theorem d28_19 : decode (mt 28).2.1 19 = .ok (.goto 4, 3) := by decide +kernel
theorem s28_19 {ls : LV} {st : List AV} {m : MM} : go 28 19 ls st m = go 28 23 ls st m := e_1 d28_19 (Or.inl rfl) (by rw [xi, jm_some (t := 23) (by decide)]; rfl)
theorem d28_22 : decode (mt 28).2.1 22 = .ok (.iconst 0, 1) := by decide +kernel
theorem s28_22 {ls : LV} {st : List AV} {m : MM} : go 28 22 ls st m = go 28 23 ls (.inl 0 :: st) m := e_1 d28_22 (Or.inl rfl) rfl
theorem d28_23 : decode (mt 28).2.1 23 = .ok (.ireturn, 1) := by decide +kernel
theorem s28_23b0 {ls : LV} {m : MM} : go 28 23 ls [.inl 0] m = some (some (.inl 0), m) := e_bool d28_23 (by decide +kernel) (by decide)
theorem s28_23b1 {ls : LV} {m : MM} : go 28 23 ls [.inl 1] m = some (some (.inl 1), m) := e_bool d28_23 (by decide +kernel) (by decide)
/-! X5_makePlace: 29 -/
theorem d29_0 : decode (mt 29).2.1 0 = .ok (.iload_n 1, 1) := by decide +kernel
theorem s29_0 {a0 : Option AV} {st : List AV} {m : MM} {x : Int32} : go 29 0 [a0, some (.inl x)] st m = go 29 1 [a0, some (.inl x)] (.inl x :: st) m := e_1 d29_0 (Or.inl rfl) rfl
theorem d29_1 : decode (mt 29).2.1 1 = .ok (.ifCond .lt 16, 3) := by decide +kernel
theorem s29_1 {ls : LV} {st : List AV} {m : MM} {a : Int32} : go 29 1 ls (.inl a :: st) m = if a < 0 then go 29 17 ls st m else go 29 4 ls st m := e_if (t := 17) (b := hc .lt a 0) d29_1 (Or.inl rfl) (by simp only [xi, pI, jm_some (t := 17) (show ((1 : Nat) : Int) + 16 = ((17 : Nat) : Int) by decide), Option.bind_some]) (by simp [hc])
theorem d29_4 : decode (mt 29).2.1 4 = .ok (.iload_n 1, 1) := by decide +kernel
theorem s29_4 {a0 : Option AV} {st : List AV} {m : MM} {x : Int32} : go 29 4 [a0, some (.inl x)] st m = go 29 5 [a0, some (.inl x)] (.inl x :: st) m := e_1 d29_4 (Or.inl rfl) rfl
theorem d29_5 : decode (mt 29).2.1 5 = .ok (.bipush 9, 2) := by decide +kernel
theorem s29_5 {ls : LV} {st : List AV} {m : MM} : go 29 5 ls st m = go 29 7 ls (.inl 9 :: st) m := e_1 d29_5 (Or.inl rfl) rfl
theorem d29_7 : decode (mt 29).2.1 7 = .ok (.if_icmp .ge 10, 3) := by decide +kernel
theorem s29_7 {ls : LV} {st : List AV} {m : MM} {a b : Int32} : go 29 7 ls (.inl b :: .inl a :: st) m = if b ≤ a then go 29 17 ls st m else go 29 10 ls st m := e_if (t := 17) (b := hc .ge a b) d29_7 (Or.inl rfl) (by simp only [xi, pI, jm_some (t := 17) (show ((7 : Nat) : Int) + 10 = ((17 : Nat) : Int) by decide), Option.bind_some]) (by simp [hc])
theorem d29_10 : decode (mt 29).2.1 10 = .ok (.aload_n 0, 1) := by decide +kernel
theorem s29_10 {a1 : Option AV} {st : List AV} {m : MM} {x : Nat × Option Nat} : go 29 10 [some (.inr (.inr x)), a1] st m = go 29 11 [some (.inr (.inr x)), a1] (.inr (.inr x) :: st) m := e_1 d29_10 (Or.inl rfl) rfl
theorem d29_11 : decode (mt 29).2.1 11 = .ok (.getfield 15, 3) := by decide +kernel
theorem s29_11 {ls : LV} {st : List AV} {m : MM} {n : Nat} : go 29 11 ls (.inr (.inr (6, some n)) :: st) m = go 29 14 ls (.inr (.inr (14, mR m 6 n 5)) :: st) m := e_1 d29_11 (Or.inl rfl) (by rw [xi, pA, show lk fdL (mt 29).2.2.1 15 = some (6, 5) by decide +kernel]; rfl)
theorem d29_14 : decode (mt 29).2.1 14 = .ok (.iload_n 1, 1) := by decide +kernel
theorem s29_14 {a0 : Option AV} {st : List AV} {m : MM} {x : Int32} : go 29 14 [a0, some (.inl x)] st m = go 29 15 [a0, some (.inl x)] (.inl x :: st) m := e_1 d29_14 (Or.inl rfl) rfl
theorem d29_15 : decode (mt 29).2.1 15 = .ok (.iconst 1, 1) := by decide +kernel
theorem s29_15 {ls : LV} {st : List AV} {m : MM} : go 29 15 ls st m = go 29 16 ls (.inl 1 :: st) m := e_1 d29_15 (Or.inl rfl) rfl
theorem d29_16 : decode (mt 29).2.1 16 = .ok (.bastore, 1) := by decide +kernel
theorem s29_16b0 {ls : LV} {st : List AV} {m : MM} {n : Nat} {i : Int32} : go 29 16 ls (.inl 0 :: .inl i :: .inr (.inr (14, some n)) :: st) m = ixk (ix i (mN m 14 n)) (fun j => go 29 17 ls st (sI m 14 n j 0)) := e_ald d29_16 (fun j hj => by simp only [xi, pI, pL, pR, pA, hj, Option.bind_some]; exact if_pos (Or.inl ⟨rfl, by decide⟩)) (fun hj => by simp only [xi, pI, pL, pR, pA, hj, Option.bind_none])
theorem s29_16b1 {ls : LV} {st : List AV} {m : MM} {n : Nat} {i : Int32} : go 29 16 ls (.inl 1 :: .inl i :: .inr (.inr (14, some n)) :: st) m = ixk (ix i (mN m 14 n)) (fun j => go 29 17 ls st (sI m 14 n j 1)) := e_ald d29_16 (fun j hj => by simp only [xi, pI, pL, pR, pA, hj, Option.bind_some]; exact if_pos (Or.inl ⟨rfl, by decide⟩)) (fun hj => by simp only [xi, pI, pL, pR, pA, hj, Option.bind_none])
theorem d29_17 : decode (mt 29).2.1 17 = .ok (.return_, 1) := by decide +kernel
theorem s29_17 {ls : LV} {m : MM} : go 29 17 ls [] m = some (none, m) := e_void d29_17 (by decide +kernel)
/-! X5_setNext: 30 -/
theorem d30_0 : decode (mt 30).2.1 0 = .ok (.aload_n 0, 1) := by decide +kernel
theorem s30_0 {a1 a2 a3 : Option AV} {st : List AV} {m : MM} {x : Nat × Option Nat} : go 30 0 [some (.inr (.inr x)), a1, a2, a3] st m = go 30 1 [some (.inr (.inr x)), a1, a2, a3] (.inr (.inr x) :: st) m := e_1 d30_0 (Or.inl rfl) rfl
theorem d30_1 : decode (mt 30).2.1 1 = .ok (.iload_n 1, 1) := by decide +kernel
theorem s30_1 {a0 a2 a3 : Option AV} {st : List AV} {m : MM} {x : Int32} : go 30 1 [a0, some (.inl x), a2, a3] st m = go 30 2 [a0, some (.inl x), a2, a3] (.inl x :: st) m := e_1 d30_1 (Or.inl rfl) rfl
theorem d30_2 : decode (mt 30).2.1 2 = .ok (.invokevirtual 39, 3) := by decide +kernel
theorem s30_2 {ls : LV} {m : MM} {x0 : Int32} {n : Nat} : go 30 2 ls [.inl x0, .inr (.inr (6, some n))] m = bd (go 26 0 [some (.inr (.inr (6, some n))), some (.inl x0)] [] m) (fun v m2 => go 30 5 ls (v.toList ++ []) m2) := e_virt (y1 := 26) (na := 1) (as := [.inl x0]) (rest := []) d30_2 (by decide +kernel) rfl (by decide +kernel) (show (ent [.inr (.inr (6, some n)), .inl x0]).length ≤ (mt 26).2.2.2.1 from Nat.le_of_ble_eq_true rfl) (cats_le (Nat.le_of_ble_eq_true rfl)) (by decide +kernel)
theorem d30_5 : decode (mt 30).2.1 5 = .ok (.ifCond .eq 16, 3) := by decide +kernel
theorem s30_5 {ls : LV} {st : List AV} {m : MM} {a : Int32} : go 30 5 ls (.inl a :: st) m = if a = 0 then go 30 21 ls st m else go 30 8 ls st m := e_if (t := 21) (b := hc .eq a 0) d30_5 (Or.inl rfl) (by simp only [xi, pI, jm_some (t := 21) (show ((5 : Nat) : Int) + 16 = ((21 : Nat) : Int) by decide), Option.bind_some]) (by simp [hc])
theorem d30_8 : decode (mt 30).2.1 8 = .ok (.aload_n 0, 1) := by decide +kernel
theorem s30_8 {a1 a2 a3 : Option AV} {st : List AV} {m : MM} {x : Nat × Option Nat} : go 30 8 [some (.inr (.inr x)), a1, a2, a3] st m = go 30 9 [some (.inr (.inr x)), a1, a2, a3] (.inr (.inr x) :: st) m := e_1 d30_8 (Or.inl rfl) rfl
theorem d30_9 : decode (mt 30).2.1 9 = .ok (.getfield 19, 3) := by decide +kernel
theorem s30_9 {ls : LV} {st : List AV} {m : MM} {n : Nat} : go 30 9 ls (.inr (.inr (6, some n)) :: st) m = go 30 12 ls (.inr (.inr (15, mR m 6 n 6)) :: st) m := e_1 d30_9 (Or.inl rfl) (by rw [xi, pA, show lk fdL (mt 30).2.2.1 19 = some (6, 6) by decide +kernel]; rfl)
theorem d30_12 : decode (mt 30).2.1 12 = .ok (.iload_n 1, 1) := by decide +kernel
theorem s30_12 {a0 a2 a3 : Option AV} {st : List AV} {m : MM} {x : Int32} : go 30 12 [a0, some (.inl x), a2, a3] st m = go 30 13 [a0, some (.inl x), a2, a3] (.inl x :: st) m := e_1 d30_12 (Or.inl rfl) rfl
theorem d30_13 : decode (mt 30).2.1 13 = .ok (.iconst 2, 1) := by decide +kernel
theorem s30_13 {ls : LV} {st : List AV} {m : MM} : go 30 13 ls st m = go 30 14 ls (.inl 2 :: st) m := e_1 d30_13 (Or.inl rfl) rfl
theorem d30_14 : decode (mt 30).2.1 14 = .ok (.imul, 1) := by decide +kernel
theorem s30_14 {ls : LV} {st : List AV} {m : MM} {a b : Int32} : go 30 14 ls (.inl b :: .inl a :: st) m = go 30 15 ls (.inl (a * b) :: st) m := e_1 d30_14 (Or.inl rfl) rfl
theorem d30_15 : decode (mt 30).2.1 15 = .ok (.iload_n 2, 1) := by decide +kernel
theorem s30_15 {a0 a1 a3 : Option AV} {st : List AV} {m : MM} {x : Int32} : go 30 15 [a0, a1, some (.inl x), a3] st m = go 30 16 [a0, a1, some (.inl x), a3] (.inl x :: st) m := e_1 d30_15 (Or.inl rfl) rfl
theorem d30_16 : decode (mt 30).2.1 16 = .ok (.iconst 1, 1) := by decide +kernel
theorem s30_16 {ls : LV} {st : List AV} {m : MM} : go 30 16 ls st m = go 30 17 ls (.inl 1 :: st) m := e_1 d30_16 (Or.inl rfl) rfl
theorem d30_17 : decode (mt 30).2.1 17 = .ok (.iand, 1) := by decide +kernel
theorem s30_17 {ls : LV} {st : List AV} {m : MM} {a b : Int32} : go 30 17 ls (.inl b :: .inl a :: st) m = go 30 18 ls (.inl (a &&& b) :: st) m := e_1 d30_17 (Or.inl rfl) rfl
theorem d30_18 : decode (mt 30).2.1 18 = .ok (.iadd, 1) := by decide +kernel
theorem s30_18 {ls : LV} {st : List AV} {m : MM} {a b : Int32} : go 30 18 ls (.inl b :: .inl a :: st) m = go 30 19 ls (.inl (a + b) :: st) m := e_1 d30_18 (Or.inl rfl) rfl
theorem d30_19 : decode (mt 30).2.1 19 = .ok (.aload_n 3, 1) := by decide +kernel
theorem s30_19 {a0 a1 a2 : Option AV} {st : List AV} {m : MM} {x : Nat × Option Nat} : go 30 19 [a0, a1, a2, some (.inr (.inr x))] st m = go 30 20 [a0, a1, a2, some (.inr (.inr x))] (.inr (.inr x) :: st) m := e_1 d30_19 (Or.inl rfl) rfl
theorem d30_20 : decode (mt 30).2.1 20 = .ok (.aastore, 1) := by decide +kernel
theorem s30_20r {ls : LV} {st : List AV} {m : MM} {n : Nat} {i : Int32} {p : Option Nat} : go 30 20 ls (.inr (.inr (6, p)) :: .inl i :: .inr (.inr (15, some n)) :: st) m = ixk (ix i (mN m 15 n)) (fun j => go 30 21 ls st (sR m 15 n j p)) := e_ald d30_20 (fun j hj => by simp only [xi, pI, pL, pR, pA, hj, Option.bind_some]; exact if_pos (Or.inl rfl)) (fun hj => by simp only [xi, pI, pL, pR, pA, hj, Option.bind_none])
theorem s30_20n {ls : LV} {st : List AV} {m : MM} {n : Nat} {i : Int32} {w : Nat} : go 30 20 ls (.inr (.inr (w, none)) :: .inl i :: .inr (.inr (15, some n)) :: st) m = ixk (ix i (mN m 15 n)) (fun j => go 30 21 ls st (sR m 15 n j none)) := e_ald d30_20 (fun j hj => by simp only [xi, pI, pL, pR, pA, hj, Option.bind_some]; exact if_pos (Or.inr ⟨trivial, by decide⟩)) (fun hj => by simp only [xi, pI, pL, pR, pA, hj, Option.bind_none])
theorem d30_21 : decode (mt 30).2.1 21 = .ok (.return_, 1) := by decide +kernel
theorem s30_21 {ls : LV} {m : MM} : go 30 21 ls [] m = some (none, m) := e_void d30_21 (by decide +kernel)
/-! X5_setPlace: 31 -/
theorem d31_0 : decode (mt 31).2.1 0 = .ok (.aload_n 0, 1) := by decide +kernel
theorem s31_0 {a1 a2 a3 : Option AV} {st : List AV} {m : MM} {x : Nat × Option Nat} : go 31 0 [some (.inr (.inr x)), a1, a2, a3] st m = go 31 1 [some (.inr (.inr x)), a1, a2, a3] (.inr (.inr x) :: st) m := e_1 d31_0 (Or.inl rfl) rfl
theorem d31_1 : decode (mt 31).2.1 1 = .ok (.iload_n 1, 1) := by decide +kernel
theorem s31_1 {a0 a2 a3 : Option AV} {st : List AV} {m : MM} {x : Int32} : go 31 1 [a0, some (.inl x), a2, a3] st m = go 31 2 [a0, some (.inl x), a2, a3] (.inl x :: st) m := e_1 d31_1 (Or.inl rfl) rfl
theorem d31_2 : decode (mt 31).2.1 2 = .ok (.invokevirtual 47, 3) := by decide +kernel
theorem s31_2 {ls : LV} {m : MM} {x0 : Int32} {n : Nat} : go 31 2 ls [.inl x0, .inr (.inr (6, some n))] m = bd (go 29 0 [some (.inr (.inr (6, some n))), some (.inl x0)] [] m) (fun v m2 => go 31 5 ls (v.toList ++ []) m2) := e_virt (y1 := 29) (na := 1) (as := [.inl x0]) (rest := []) d31_2 (by decide +kernel) rfl (by decide +kernel) (show (ent [.inr (.inr (6, some n)), .inl x0]).length ≤ (mt 29).2.2.2.1 from Nat.le_of_ble_eq_true rfl) (cats_le (Nat.le_of_ble_eq_true rfl)) (by decide +kernel)
theorem d31_5 : decode (mt 31).2.1 5 = .ok (.aload_n 0, 1) := by decide +kernel
theorem s31_5 {a1 a2 a3 : Option AV} {st : List AV} {m : MM} {x : Nat × Option Nat} : go 31 5 [some (.inr (.inr x)), a1, a2, a3] st m = go 31 6 [some (.inr (.inr x)), a1, a2, a3] (.inr (.inr x) :: st) m := e_1 d31_5 (Or.inl rfl) rfl
theorem d31_6 : decode (mt 31).2.1 6 = .ok (.iload_n 1, 1) := by decide +kernel
theorem s31_6 {a0 a2 a3 : Option AV} {st : List AV} {m : MM} {x : Int32} : go 31 6 [a0, some (.inl x), a2, a3] st m = go 31 7 [a0, some (.inl x), a2, a3] (.inl x :: st) m := e_1 d31_6 (Or.inl rfl) rfl
theorem d31_7 : decode (mt 31).2.1 7 = .ok (.iconst 0, 1) := by decide +kernel
theorem s31_7 {ls : LV} {st : List AV} {m : MM} : go 31 7 ls st m = go 31 8 ls (.inl 0 :: st) m := e_1 d31_7 (Or.inl rfl) rfl
theorem d31_8 : decode (mt 31).2.1 8 = .ok (.aload_n 2, 1) := by decide +kernel
theorem s31_8 {a0 a1 a3 : Option AV} {st : List AV} {m : MM} {x : Nat × Option Nat} : go 31 8 [a0, a1, some (.inr (.inr x)), a3] st m = go 31 9 [a0, a1, some (.inr (.inr x)), a3] (.inr (.inr x) :: st) m := e_1 d31_8 (Or.inl rfl) rfl
theorem d31_9 : decode (mt 31).2.1 9 = .ok (.invokevirtual 51, 3) := by decide +kernel
theorem s31_9 {ls : LV} {m : MM} {x0 : Int32} {x1 : Int32} {x2 : Nat × Option Nat} {n : Nat} : go 31 9 ls [.inr (.inr x2), .inl x1, .inl x0, .inr (.inr (6, some n))] m = bd (go 30 0 [some (.inr (.inr (6, some n))), some (.inl x0), some (.inl x1), some (.inr (.inr x2))] [] m) (fun v m2 => go 31 12 ls (v.toList ++ []) m2) := e_virt (y1 := 30) (na := 3) (as := [.inl x0, .inl x1, .inr (.inr x2)]) (rest := []) d31_9 (by decide +kernel) rfl (by decide +kernel) (show (ent [.inr (.inr (6, some n)), .inl x0, .inl x1, .inr (.inr x2)]).length ≤ (mt 30).2.2.2.1 from Nat.le_of_ble_eq_true rfl) (cats_le (Nat.le_of_ble_eq_true rfl)) (by decide +kernel)
theorem d31_12 : decode (mt 31).2.1 12 = .ok (.aload_n 0, 1) := by decide +kernel
theorem s31_12 {a1 a2 a3 : Option AV} {st : List AV} {m : MM} {x : Nat × Option Nat} : go 31 12 [some (.inr (.inr x)), a1, a2, a3] st m = go 31 13 [some (.inr (.inr x)), a1, a2, a3] (.inr (.inr x) :: st) m := e_1 d31_12 (Or.inl rfl) rfl
theorem d31_13 : decode (mt 31).2.1 13 = .ok (.iload_n 1, 1) := by decide +kernel
theorem s31_13 {a0 a2 a3 : Option AV} {st : List AV} {m : MM} {x : Int32} : go 31 13 [a0, some (.inl x), a2, a3] st m = go 31 14 [a0, some (.inl x), a2, a3] (.inl x :: st) m := e_1 d31_13 (Or.inl rfl) rfl
theorem d31_14 : decode (mt 31).2.1 14 = .ok (.iconst 1, 1) := by decide +kernel
theorem s31_14 {ls : LV} {st : List AV} {m : MM} : go 31 14 ls st m = go 31 15 ls (.inl 1 :: st) m := e_1 d31_14 (Or.inl rfl) rfl
theorem d31_15 : decode (mt 31).2.1 15 = .ok (.aload_n 3, 1) := by decide +kernel
theorem s31_15 {a0 a1 a2 : Option AV} {st : List AV} {m : MM} {x : Nat × Option Nat} : go 31 15 [a0, a1, a2, some (.inr (.inr x))] st m = go 31 16 [a0, a1, a2, some (.inr (.inr x))] (.inr (.inr x) :: st) m := e_1 d31_15 (Or.inl rfl) rfl
theorem d31_16 : decode (mt 31).2.1 16 = .ok (.invokevirtual 51, 3) := by decide +kernel
theorem s31_16 {ls : LV} {m : MM} {x0 : Int32} {x1 : Int32} {x2 : Nat × Option Nat} {n : Nat} : go 31 16 ls [.inr (.inr x2), .inl x1, .inl x0, .inr (.inr (6, some n))] m = bd (go 30 0 [some (.inr (.inr (6, some n))), some (.inl x0), some (.inl x1), some (.inr (.inr x2))] [] m) (fun v m2 => go 31 19 ls (v.toList ++ []) m2) := e_virt (y1 := 30) (na := 3) (as := [.inl x0, .inl x1, .inr (.inr x2)]) (rest := []) d31_16 (by decide +kernel) rfl (by decide +kernel) (show (ent [.inr (.inr (6, some n)), .inl x0, .inl x1, .inr (.inr x2)]).length ≤ (mt 30).2.2.2.1 from Nat.le_of_ble_eq_true rfl) (cats_le (Nat.le_of_ble_eq_true rfl)) (by decide +kernel)
theorem d31_19 : decode (mt 31).2.1 19 = .ok (.return_, 1) := by decide +kernel
theorem s31_19 {ls : LV} {m : MM} : go 31 19 ls [] m = some (none, m) := e_void d31_19 (by decide +kernel)
/-! X5_dropPlacesFrom: 32 -/
theorem d32_0 : decode (mt 32).2.1 0 = .ok (.iload_n 1, 1) := by decide +kernel
theorem s32_0 {a0 a2 : Option AV} {st : List AV} {m : MM} {x : Int32} : go 32 0 [a0, some (.inl x), a2] st m = go 32 1 [a0, some (.inl x), a2] (.inl x :: st) m := e_1 d32_0 (Or.inl rfl) rfl
theorem d32_1 : decode (mt 32).2.1 1 = .ok (.iconst 0, 1) := by decide +kernel
theorem s32_1 {ls : LV} {st : List AV} {m : MM} : go 32 1 ls st m = go 32 2 ls (.inl 0 :: st) m := e_1 d32_1 (Or.inl rfl) rfl
theorem d32_2 : decode (mt 32).2.1 2 = .ok (.invokestatic 55, 3) := by decide +kernel
theorem s32_2 {ls : LV} {m : MM} {a b : Int32} : go 32 2 ls (.inl b :: .inl a :: []) m = go 32 5 ls (.inl (if a < b then b else a) :: []) m := (e_math (y1 := 167) d32_2 (by decide +kernel) (by decide) (cats_le (Nat.le_of_ble_eq_true rfl)) (by decide +kernel)).trans (by simp)
theorem d32_5 : decode (mt 32).2.1 5 = .ok (.istore_n 2, 1) := by decide +kernel
theorem s32_5i {a0 a2 : Option AV} {z : Int32} {st : List AV} {m : MM} {x : Int32} : go 32 5 [a0, some (.inl z), a2] (.inl x :: st) m = go 32 6 [a0, some (.inl z), some (.inl x)] st m := e_1 d32_5 (Or.inl rfl) rfl
theorem s32_5r {a0 a2 : Option AV} {z : Nat × Option Nat} {st : List AV} {m : MM} {x : Int32} : go 32 5 [a0, some (.inr (.inr z)), a2] (.inl x :: st) m = go 32 6 [a0, some (.inr (.inr z)), some (.inl x)] st m := e_1 d32_5 (Or.inl rfl) rfl
theorem s32_5n {a0 a2 : Option AV} {st : List AV} {m : MM} {x : Int32} : go 32 5 [a0, none, a2] (.inl x :: st) m = go 32 6 [a0, none, some (.inl x)] st m := e_1 d32_5 (Or.inl rfl) rfl
theorem d32_6 : decode (mt 32).2.1 6 = .ok (.iload_n 2, 1) := by decide +kernel
theorem s32_6 {a0 a1 : Option AV} {st : List AV} {m : MM} {x : Int32} : go 32 6 [a0, a1, some (.inl x)] st m = go 32 7 [a0, a1, some (.inl x)] (.inl x :: st) m := e_1 d32_6 (Or.inl rfl) rfl
theorem d32_7 : decode (mt 32).2.1 7 = .ok (.bipush 9, 2) := by decide +kernel
theorem s32_7 {ls : LV} {st : List AV} {m : MM} : go 32 7 ls st m = go 32 9 ls (.inl 9 :: st) m := e_1 d32_7 (Or.inl rfl) rfl
theorem d32_9 : decode (mt 32).2.1 9 = .ok (.if_icmp .ge 38, 3) := by decide +kernel
theorem s32_9 {ls : LV} {st : List AV} {m : MM} {a b : Int32} : go 32 9 ls (.inl b :: .inl a :: st) m = if b ≤ a then go 32 47 ls st m else go 32 12 ls st m := e_if (t := 47) (b := hc .ge a b) d32_9 (Or.inl rfl) (by simp only [xi, pI, jm_some (t := 47) (show ((9 : Nat) : Int) + 38 = ((47 : Nat) : Int) by decide), Option.bind_some]) (by simp [hc])
theorem d32_12 : decode (mt 32).2.1 12 = .ok (.aload_n 0, 1) := by decide +kernel
theorem s32_12 {a1 a2 : Option AV} {st : List AV} {m : MM} {x : Nat × Option Nat} : go 32 12 [some (.inr (.inr x)), a1, a2] st m = go 32 13 [some (.inr (.inr x)), a1, a2] (.inr (.inr x) :: st) m := e_1 d32_12 (Or.inl rfl) rfl
theorem d32_13 : decode (mt 32).2.1 13 = .ok (.getfield 15, 3) := by decide +kernel
theorem s32_13 {ls : LV} {st : List AV} {m : MM} {n : Nat} : go 32 13 ls (.inr (.inr (6, some n)) :: st) m = go 32 16 ls (.inr (.inr (14, mR m 6 n 5)) :: st) m := e_1 d32_13 (Or.inl rfl) (by rw [xi, pA, show lk fdL (mt 32).2.2.1 15 = some (6, 5) by decide +kernel]; rfl)
theorem d32_16 : decode (mt 32).2.1 16 = .ok (.iload_n 2, 1) := by decide +kernel
theorem s32_16 {a0 a1 : Option AV} {st : List AV} {m : MM} {x : Int32} : go 32 16 [a0, a1, some (.inl x)] st m = go 32 17 [a0, a1, some (.inl x)] (.inl x :: st) m := e_1 d32_16 (Or.inl rfl) rfl
theorem d32_17 : decode (mt 32).2.1 17 = .ok (.iconst 0, 1) := by decide +kernel
theorem s32_17 {ls : LV} {st : List AV} {m : MM} : go 32 17 ls st m = go 32 18 ls (.inl 0 :: st) m := e_1 d32_17 (Or.inl rfl) rfl
theorem d32_18 : decode (mt 32).2.1 18 = .ok (.bastore, 1) := by decide +kernel
theorem s32_18b0 {ls : LV} {st : List AV} {m : MM} {n : Nat} {i : Int32} : go 32 18 ls (.inl 0 :: .inl i :: .inr (.inr (14, some n)) :: st) m = ixk (ix i (mN m 14 n)) (fun j => go 32 19 ls st (sI m 14 n j 0)) := e_ald d32_18 (fun j hj => by simp only [xi, pI, pL, pR, pA, hj, Option.bind_some]; exact if_pos (Or.inl ⟨rfl, by decide⟩)) (fun hj => by simp only [xi, pI, pL, pR, pA, hj, Option.bind_none])
theorem s32_18b1 {ls : LV} {st : List AV} {m : MM} {n : Nat} {i : Int32} : go 32 18 ls (.inl 1 :: .inl i :: .inr (.inr (14, some n)) :: st) m = ixk (ix i (mN m 14 n)) (fun j => go 32 19 ls st (sI m 14 n j 1)) := e_ald d32_18 (fun j hj => by simp only [xi, pI, pL, pR, pA, hj, Option.bind_some]; exact if_pos (Or.inl ⟨rfl, by decide⟩)) (fun hj => by simp only [xi, pI, pL, pR, pA, hj, Option.bind_none])
theorem d32_19 : decode (mt 32).2.1 19 = .ok (.aload_n 0, 1) := by decide +kernel
theorem s32_19 {a1 a2 : Option AV} {st : List AV} {m : MM} {x : Nat × Option Nat} : go 32 19 [some (.inr (.inr x)), a1, a2] st m = go 32 20 [some (.inr (.inr x)), a1, a2] (.inr (.inr x) :: st) m := e_1 d32_19 (Or.inl rfl) rfl
theorem d32_20 : decode (mt 32).2.1 20 = .ok (.getfield 19, 3) := by decide +kernel
theorem s32_20 {ls : LV} {st : List AV} {m : MM} {n : Nat} : go 32 20 ls (.inr (.inr (6, some n)) :: st) m = go 32 23 ls (.inr (.inr (15, mR m 6 n 6)) :: st) m := e_1 d32_20 (Or.inl rfl) (by rw [xi, pA, show lk fdL (mt 32).2.2.1 19 = some (6, 6) by decide +kernel]; rfl)
theorem d32_23 : decode (mt 32).2.1 23 = .ok (.iload_n 2, 1) := by decide +kernel
theorem s32_23 {a0 a1 : Option AV} {st : List AV} {m : MM} {x : Int32} : go 32 23 [a0, a1, some (.inl x)] st m = go 32 24 [a0, a1, some (.inl x)] (.inl x :: st) m := e_1 d32_23 (Or.inl rfl) rfl
theorem d32_24 : decode (mt 32).2.1 24 = .ok (.iconst 2, 1) := by decide +kernel
theorem s32_24 {ls : LV} {st : List AV} {m : MM} : go 32 24 ls st m = go 32 25 ls (.inl 2 :: st) m := e_1 d32_24 (Or.inl rfl) rfl
theorem d32_25 : decode (mt 32).2.1 25 = .ok (.imul, 1) := by decide +kernel
theorem s32_25 {ls : LV} {st : List AV} {m : MM} {a b : Int32} : go 32 25 ls (.inl b :: .inl a :: st) m = go 32 26 ls (.inl (a * b) :: st) m := e_1 d32_25 (Or.inl rfl) rfl
theorem d32_26 : decode (mt 32).2.1 26 = .ok (.iconst 0, 1) := by decide +kernel
theorem s32_26 {ls : LV} {st : List AV} {m : MM} : go 32 26 ls st m = go 32 27 ls (.inl 0 :: st) m := e_1 d32_26 (Or.inl rfl) rfl
theorem d32_27 : decode (mt 32).2.1 27 = .ok (.iadd, 1) := by decide +kernel
theorem s32_27 {ls : LV} {st : List AV} {m : MM} {a b : Int32} : go 32 27 ls (.inl b :: .inl a :: st) m = go 32 28 ls (.inl (a + b) :: st) m := e_1 d32_27 (Or.inl rfl) rfl
theorem d32_28 : decode (mt 32).2.1 28 = .ok (.aconst_null, 1) := by decide +kernel
theorem s32_28 {ls : LV} {st : List AV} {m : MM} : go 32 28 ls st m = go 32 29 ls (.inr (.inr (0, none)) :: st) m := e_1 d32_28 (Or.inl rfl) rfl
theorem d32_29 : decode (mt 32).2.1 29 = .ok (.aastore, 1) := by decide +kernel
theorem s32_29r {ls : LV} {st : List AV} {m : MM} {n : Nat} {i : Int32} {p : Option Nat} : go 32 29 ls (.inr (.inr (6, p)) :: .inl i :: .inr (.inr (15, some n)) :: st) m = ixk (ix i (mN m 15 n)) (fun j => go 32 30 ls st (sR m 15 n j p)) := e_ald d32_29 (fun j hj => by simp only [xi, pI, pL, pR, pA, hj, Option.bind_some]; exact if_pos (Or.inl rfl)) (fun hj => by simp only [xi, pI, pL, pR, pA, hj, Option.bind_none])
theorem s32_29n {ls : LV} {st : List AV} {m : MM} {n : Nat} {i : Int32} {w : Nat} : go 32 29 ls (.inr (.inr (w, none)) :: .inl i :: .inr (.inr (15, some n)) :: st) m = ixk (ix i (mN m 15 n)) (fun j => go 32 30 ls st (sR m 15 n j none)) := e_ald d32_29 (fun j hj => by simp only [xi, pI, pL, pR, pA, hj, Option.bind_some]; exact if_pos (Or.inr ⟨trivial, by decide⟩)) (fun hj => by simp only [xi, pI, pL, pR, pA, hj, Option.bind_none])
theorem d32_30 : decode (mt 32).2.1 30 = .ok (.aload_n 0, 1) := by decide +kernel
theorem s32_30 {a1 a2 : Option AV} {st : List AV} {m : MM} {x : Nat × Option Nat} : go 32 30 [some (.inr (.inr x)), a1, a2] st m = go 32 31 [some (.inr (.inr x)), a1, a2] (.inr (.inr x) :: st) m := e_1 d32_30 (Or.inl rfl) rfl
theorem d32_31 : decode (mt 32).2.1 31 = .ok (.getfield 19, 3) := by decide +kernel
theorem s32_31 {ls : LV} {st : List AV} {m : MM} {n : Nat} : go 32 31 ls (.inr (.inr (6, some n)) :: st) m = go 32 34 ls (.inr (.inr (15, mR m 6 n 6)) :: st) m := e_1 d32_31 (Or.inl rfl) (by rw [xi, pA, show lk fdL (mt 32).2.2.1 19 = some (6, 6) by decide +kernel]; rfl)
theorem d32_34 : decode (mt 32).2.1 34 = .ok (.iload_n 2, 1) := by decide +kernel
theorem s32_34 {a0 a1 : Option AV} {st : List AV} {m : MM} {x : Int32} : go 32 34 [a0, a1, some (.inl x)] st m = go 32 35 [a0, a1, some (.inl x)] (.inl x :: st) m := e_1 d32_34 (Or.inl rfl) rfl
theorem d32_35 : decode (mt 32).2.1 35 = .ok (.iconst 2, 1) := by decide +kernel
theorem s32_35 {ls : LV} {st : List AV} {m : MM} : go 32 35 ls st m = go 32 36 ls (.inl 2 :: st) m := e_1 d32_35 (Or.inl rfl) rfl
theorem d32_36 : decode (mt 32).2.1 36 = .ok (.imul, 1) := by decide +kernel
theorem s32_36 {ls : LV} {st : List AV} {m : MM} {a b : Int32} : go 32 36 ls (.inl b :: .inl a :: st) m = go 32 37 ls (.inl (a * b) :: st) m := e_1 d32_36 (Or.inl rfl) rfl
theorem d32_37 : decode (mt 32).2.1 37 = .ok (.iconst 1, 1) := by decide +kernel
theorem s32_37 {ls : LV} {st : List AV} {m : MM} : go 32 37 ls st m = go 32 38 ls (.inl 1 :: st) m := e_1 d32_37 (Or.inl rfl) rfl
theorem d32_38 : decode (mt 32).2.1 38 = .ok (.iadd, 1) := by decide +kernel
theorem s32_38 {ls : LV} {st : List AV} {m : MM} {a b : Int32} : go 32 38 ls (.inl b :: .inl a :: st) m = go 32 39 ls (.inl (a + b) :: st) m := e_1 d32_38 (Or.inl rfl) rfl
theorem d32_39 : decode (mt 32).2.1 39 = .ok (.aconst_null, 1) := by decide +kernel
theorem s32_39 {ls : LV} {st : List AV} {m : MM} : go 32 39 ls st m = go 32 40 ls (.inr (.inr (0, none)) :: st) m := e_1 d32_39 (Or.inl rfl) rfl
theorem d32_40 : decode (mt 32).2.1 40 = .ok (.aastore, 1) := by decide +kernel
theorem s32_40r {ls : LV} {st : List AV} {m : MM} {n : Nat} {i : Int32} {p : Option Nat} : go 32 40 ls (.inr (.inr (6, p)) :: .inl i :: .inr (.inr (15, some n)) :: st) m = ixk (ix i (mN m 15 n)) (fun j => go 32 41 ls st (sR m 15 n j p)) := e_ald d32_40 (fun j hj => by simp only [xi, pI, pL, pR, pA, hj, Option.bind_some]; exact if_pos (Or.inl rfl)) (fun hj => by simp only [xi, pI, pL, pR, pA, hj, Option.bind_none])
theorem s32_40n {ls : LV} {st : List AV} {m : MM} {n : Nat} {i : Int32} {w : Nat} : go 32 40 ls (.inr (.inr (w, none)) :: .inl i :: .inr (.inr (15, some n)) :: st) m = ixk (ix i (mN m 15 n)) (fun j => go 32 41 ls st (sR m 15 n j none)) := e_ald d32_40 (fun j hj => by simp only [xi, pI, pL, pR, pA, hj, Option.bind_some]; exact if_pos (Or.inr ⟨trivial, by decide⟩)) (fun hj => by simp only [xi, pI, pL, pR, pA, hj, Option.bind_none])
theorem d32_41 : decode (mt 32).2.1 41 = .ok (.iinc 2 1, 3) := by decide +kernel
theorem s32_41i {a0 : Option AV} {z : Int32} {st : List AV} {m : MM} {x : Int32} : go 32 41 [a0, some (.inl z), some (.inl x)] st m = go 32 44 [a0, some (.inl z), some (.inl (x + 1))] st m := e_1 d32_41 (Or.inl rfl) rfl
theorem s32_41r {a0 : Option AV} {z : Nat × Option Nat} {st : List AV} {m : MM} {x : Int32} : go 32 41 [a0, some (.inr (.inr z)), some (.inl x)] st m = go 32 44 [a0, some (.inr (.inr z)), some (.inl (x + 1))] st m := e_1 d32_41 (Or.inl rfl) rfl
theorem s32_41n {a0 : Option AV} {st : List AV} {m : MM} {x : Int32} : go 32 41 [a0, none, some (.inl x)] st m = go 32 44 [a0, none, some (.inl (x + 1))] st m := e_1 d32_41 (Or.inl rfl) rfl
theorem d32_44 : decode (mt 32).2.1 44 = .ok (.goto (-38), 3) := by decide +kernel
theorem s32_44 {ls : LV} {st : List AV} {m : MM} : go 32 44 ls st m = go 32 6 ls st m := e_1 d32_44 (Or.inl rfl) (by rw [xi, jm_some (t := 6) (by decide)]; rfl)
theorem d32_47 : decode (mt 32).2.1 47 = .ok (.return_, 1) := by decide +kernel
theorem s32_47 {ls : LV} {m : MM} : go 32 47 ls [] m = some (none, m) := e_void d32_47 (by decide +kernel)
/-! X5_placesHeld: 33 -/
theorem d33_0 : decode (mt 33).2.1 0 = .ok (.iconst 0, 1) := by decide +kernel
theorem s33_0 {ls : LV} {st : List AV} {m : MM} : go 33 0 ls st m = go 33 1 ls (.inl 0 :: st) m := e_1 d33_0 (Or.inl rfl) rfl
theorem d33_1 : decode (mt 33).2.1 1 = .ok (.istore_n 1, 1) := by decide +kernel
theorem s33_1i {a1 a2 : Option AV} {z : Int32} {st : List AV} {m : MM} {x : Int32} : go 33 1 [some (.inl z), a1, a2] (.inl x :: st) m = go 33 2 [some (.inl z), some (.inl x), a2] st m := e_1 d33_1 (Or.inl rfl) rfl
theorem s33_1r {a1 a2 : Option AV} {z : Nat × Option Nat} {st : List AV} {m : MM} {x : Int32} : go 33 1 [some (.inr (.inr z)), a1, a2] (.inl x :: st) m = go 33 2 [some (.inr (.inr z)), some (.inl x), a2] st m := e_1 d33_1 (Or.inl rfl) rfl
theorem s33_1n {a1 a2 : Option AV} {st : List AV} {m : MM} {x : Int32} : go 33 1 [none, a1, a2] (.inl x :: st) m = go 33 2 [none, some (.inl x), a2] st m := e_1 d33_1 (Or.inl rfl) rfl
theorem d33_2 : decode (mt 33).2.1 2 = .ok (.iconst 0, 1) := by decide +kernel
theorem s33_2 {ls : LV} {st : List AV} {m : MM} : go 33 2 ls st m = go 33 3 ls (.inl 0 :: st) m := e_1 d33_2 (Or.inl rfl) rfl
theorem d33_3 : decode (mt 33).2.1 3 = .ok (.istore_n 2, 1) := by decide +kernel
theorem s33_3i {a0 a2 : Option AV} {z : Int32} {st : List AV} {m : MM} {x : Int32} : go 33 3 [a0, some (.inl z), a2] (.inl x :: st) m = go 33 4 [a0, some (.inl z), some (.inl x)] st m := e_1 d33_3 (Or.inl rfl) rfl
theorem s33_3r {a0 a2 : Option AV} {z : Nat × Option Nat} {st : List AV} {m : MM} {x : Int32} : go 33 3 [a0, some (.inr (.inr z)), a2] (.inl x :: st) m = go 33 4 [a0, some (.inr (.inr z)), some (.inl x)] st m := e_1 d33_3 (Or.inl rfl) rfl
theorem s33_3n {a0 a2 : Option AV} {st : List AV} {m : MM} {x : Int32} : go 33 3 [a0, none, a2] (.inl x :: st) m = go 33 4 [a0, none, some (.inl x)] st m := e_1 d33_3 (Or.inl rfl) rfl
theorem d33_4 : decode (mt 33).2.1 4 = .ok (.iload_n 2, 1) := by decide +kernel
theorem s33_4 {a0 a1 : Option AV} {st : List AV} {m : MM} {x : Int32} : go 33 4 [a0, a1, some (.inl x)] st m = go 33 5 [a0, a1, some (.inl x)] (.inl x :: st) m := e_1 d33_4 (Or.inl rfl) rfl
theorem d33_5 : decode (mt 33).2.1 5 = .ok (.bipush 9, 2) := by decide +kernel
theorem s33_5 {ls : LV} {st : List AV} {m : MM} : go 33 5 ls st m = go 33 7 ls (.inl 9 :: st) m := e_1 d33_5 (Or.inl rfl) rfl
theorem d33_7 : decode (mt 33).2.1 7 = .ok (.if_icmp .ge 26, 3) := by decide +kernel
theorem s33_7 {ls : LV} {st : List AV} {m : MM} {a b : Int32} : go 33 7 ls (.inl b :: .inl a :: st) m = if b ≤ a then go 33 33 ls st m else go 33 10 ls st m := e_if (t := 33) (b := hc .ge a b) d33_7 (Or.inl rfl) (by simp only [xi, pI, jm_some (t := 33) (show ((7 : Nat) : Int) + 26 = ((33 : Nat) : Int) by decide), Option.bind_some]) (by simp [hc])
theorem d33_10 : decode (mt 33).2.1 10 = .ok (.iload_n 1, 1) := by decide +kernel
theorem s33_10 {a0 a2 : Option AV} {st : List AV} {m : MM} {x : Int32} : go 33 10 [a0, some (.inl x), a2] st m = go 33 11 [a0, some (.inl x), a2] (.inl x :: st) m := e_1 d33_10 (Or.inl rfl) rfl
theorem d33_11 : decode (mt 33).2.1 11 = .ok (.aload_n 0, 1) := by decide +kernel
theorem s33_11 {a1 a2 : Option AV} {st : List AV} {m : MM} {x : Nat × Option Nat} : go 33 11 [some (.inr (.inr x)), a1, a2] st m = go 33 12 [some (.inr (.inr x)), a1, a2] (.inr (.inr x) :: st) m := e_1 d33_11 (Or.inl rfl) rfl
theorem d33_12 : decode (mt 33).2.1 12 = .ok (.getfield 15, 3) := by decide +kernel
theorem s33_12 {ls : LV} {st : List AV} {m : MM} {n : Nat} : go 33 12 ls (.inr (.inr (6, some n)) :: st) m = go 33 15 ls (.inr (.inr (14, mR m 6 n 5)) :: st) m := e_1 d33_12 (Or.inl rfl) (by rw [xi, pA, show lk fdL (mt 33).2.2.1 15 = some (6, 5) by decide +kernel]; rfl)
theorem d33_15 : decode (mt 33).2.1 15 = .ok (.iload_n 2, 1) := by decide +kernel
theorem s33_15 {a0 a1 : Option AV} {st : List AV} {m : MM} {x : Int32} : go 33 15 [a0, a1, some (.inl x)] st m = go 33 16 [a0, a1, some (.inl x)] (.inl x :: st) m := e_1 d33_15 (Or.inl rfl) rfl
theorem d33_16 : decode (mt 33).2.1 16 = .ok (.baload, 1) := by decide +kernel
theorem s33_16 {ls : LV} {st : List AV} {m : MM} {n : Nat} {i : Int32} : go 33 16 ls (.inl i :: .inr (.inr (14, some n)) :: st) m = ixk (ix i (mN m 14 n)) (fun j => go 33 17 ls (.inl (mI m 14 n j) :: st) m) := e_ald d33_16 (fun j hj => by simp only [xi, pI, pA, hj, Option.bind_some]; rfl) (fun hj => by simp only [xi, pI, pA, hj, Option.bind_none])
theorem d33_17 : decode (mt 33).2.1 17 = .ok (.ifCond .eq 7, 3) := by decide +kernel
theorem s33_17 {ls : LV} {st : List AV} {m : MM} {a : Int32} : go 33 17 ls (.inl a :: st) m = if a = 0 then go 33 24 ls st m else go 33 20 ls st m := e_if (t := 24) (b := hc .eq a 0) d33_17 (Or.inl rfl) (by simp only [xi, pI, jm_some (t := 24) (show ((17 : Nat) : Int) + 7 = ((24 : Nat) : Int) by decide), Option.bind_some]) (by simp [hc])
theorem d33_20 : decode (mt 33).2.1 20 = .ok (.iconst 1, 1) := by decide +kernel
theorem s33_20 {ls : LV} {st : List AV} {m : MM} : go 33 20 ls st m = go 33 21 ls (.inl 1 :: st) m := e_1 d33_20 (Or.inl rfl) rfl
theorem d33_21 : decode (mt 33).2.1 21 = .ok (.goto 4, 3) := by decide +kernel
theorem s33_21 {ls : LV} {st : List AV} {m : MM} : go 33 21 ls st m = go 33 25 ls st m := e_1 d33_21 (Or.inl rfl) (by rw [xi, jm_some (t := 25) (by decide)]; rfl)
theorem d33_24 : decode (mt 33).2.1 24 = .ok (.iconst 0, 1) := by decide +kernel
theorem s33_24 {ls : LV} {st : List AV} {m : MM} : go 33 24 ls st m = go 33 25 ls (.inl 0 :: st) m := e_1 d33_24 (Or.inl rfl) rfl
theorem d33_25 : decode (mt 33).2.1 25 = .ok (.iadd, 1) := by decide +kernel
theorem s33_25 {ls : LV} {st : List AV} {m : MM} {a b : Int32} : go 33 25 ls (.inl b :: .inl a :: st) m = go 33 26 ls (.inl (a + b) :: st) m := e_1 d33_25 (Or.inl rfl) rfl
theorem d33_26 : decode (mt 33).2.1 26 = .ok (.istore_n 1, 1) := by decide +kernel
theorem s33_26i {a1 a2 : Option AV} {z : Int32} {st : List AV} {m : MM} {x : Int32} : go 33 26 [some (.inl z), a1, a2] (.inl x :: st) m = go 33 27 [some (.inl z), some (.inl x), a2] st m := e_1 d33_26 (Or.inl rfl) rfl
theorem s33_26r {a1 a2 : Option AV} {z : Nat × Option Nat} {st : List AV} {m : MM} {x : Int32} : go 33 26 [some (.inr (.inr z)), a1, a2] (.inl x :: st) m = go 33 27 [some (.inr (.inr z)), some (.inl x), a2] st m := e_1 d33_26 (Or.inl rfl) rfl
theorem s33_26n {a1 a2 : Option AV} {st : List AV} {m : MM} {x : Int32} : go 33 26 [none, a1, a2] (.inl x :: st) m = go 33 27 [none, some (.inl x), a2] st m := e_1 d33_26 (Or.inl rfl) rfl
theorem d33_27 : decode (mt 33).2.1 27 = .ok (.iinc 2 1, 3) := by decide +kernel
theorem s33_27i {a0 : Option AV} {z : Int32} {st : List AV} {m : MM} {x : Int32} : go 33 27 [a0, some (.inl z), some (.inl x)] st m = go 33 30 [a0, some (.inl z), some (.inl (x + 1))] st m := e_1 d33_27 (Or.inl rfl) rfl
theorem s33_27r {a0 : Option AV} {z : Nat × Option Nat} {st : List AV} {m : MM} {x : Int32} : go 33 27 [a0, some (.inr (.inr z)), some (.inl x)] st m = go 33 30 [a0, some (.inr (.inr z)), some (.inl (x + 1))] st m := e_1 d33_27 (Or.inl rfl) rfl
theorem s33_27n {a0 : Option AV} {st : List AV} {m : MM} {x : Int32} : go 33 27 [a0, none, some (.inl x)] st m = go 33 30 [a0, none, some (.inl (x + 1))] st m := e_1 d33_27 (Or.inl rfl) rfl
theorem d33_30 : decode (mt 33).2.1 30 = .ok (.goto (-26), 3) := by decide +kernel
theorem s33_30 {ls : LV} {st : List AV} {m : MM} : go 33 30 ls st m = go 33 4 ls st m := e_1 d33_30 (Or.inl rfl) (by rw [xi, jm_some (t := 4) (by decide)]; rfl)
theorem d33_33 : decode (mt 33).2.1 33 = .ok (.iload_n 1, 1) := by decide +kernel
theorem s33_33 {a0 a2 : Option AV} {st : List AV} {m : MM} {x : Int32} : go 33 33 [a0, some (.inl x), a2] st m = go 33 34 [a0, some (.inl x), a2] (.inl x :: st) m := e_1 d33_33 (Or.inl rfl) rfl
theorem d33_34 : decode (mt 33).2.1 34 = .ok (.ireturn, 1) := by decide +kernel
theorem s33_34 {ls : LV} {m : MM} {x : Int32} : go 33 34 ls [.inl x] m = some (some (.inl x), m) := e_int d33_34 (by decide +kernel)
/-! X5_comeIn: 34 -/
theorem d34_0 : decode (mt 34).2.1 0 = .ok (.aload_n 0, 1) := by decide +kernel
theorem s34_0 {a1 a2 : Option AV} {st : List AV} {m : MM} {x : Nat × Option Nat} : go 34 0 [some (.inr (.inr x)), a1, a2] st m = go 34 1 [some (.inr (.inr x)), a1, a2] (.inr (.inr x) :: st) m := e_1 d34_0 (Or.inl rfl) rfl
theorem d34_1 : decode (mt 34).2.1 1 = .ok (.iconst 2, 1) := by decide +kernel
theorem s34_1 {ls : LV} {st : List AV} {m : MM} : go 34 1 ls st m = go 34 2 ls (.inl 2 :: st) m := e_1 d34_1 (Or.inl rfl) rfl
theorem d34_2 : decode (mt 34).2.1 2 = .ok (.putfield 9, 3) := by decide +kernel
theorem s34_2 {ls : LV} {st : List AV} {m : MM} {n : Nat} {x : Int32} : go 34 2 ls (.inl x :: .inr (.inr (6, some n)) :: st) m = go 34 5 ls st (sI m 6 n 3 x) := e_put (r := 6) (f := 3) d34_2 (by decide +kernel) rfl (by decide +kernel)
theorem d34_5 : decode (mt 34).2.1 5 = .ok (.aload_n 0, 1) := by decide +kernel
theorem s34_5 {a1 a2 : Option AV} {st : List AV} {m : MM} {x : Nat × Option Nat} : go 34 5 [some (.inr (.inr x)), a1, a2] st m = go 34 6 [some (.inr (.inr x)), a1, a2] (.inr (.inr x) :: st) m := e_1 d34_5 (Or.inl rfl) rfl
theorem d34_6 : decode (mt 34).2.1 6 = .ok (.iconst 0, 1) := by decide +kernel
theorem s34_6 {ls : LV} {st : List AV} {m : MM} : go 34 6 ls st m = go 34 7 ls (.inl 0 :: st) m := e_1 d34_6 (Or.inl rfl) rfl
theorem d34_7 : decode (mt 34).2.1 7 = .ok (.invokevirtual 61, 3) := by decide +kernel
theorem s34_7 {ls : LV} {m : MM} {x0 : Int32} {n : Nat} : go 34 7 ls [.inl x0, .inr (.inr (6, some n))] m = bd (go 32 0 [some (.inr (.inr (6, some n))), some (.inl x0), none] [] m) (fun v m2 => go 34 10 ls (v.toList ++ []) m2) := e_virt (y1 := 32) (na := 1) (as := [.inl x0]) (rest := []) d34_7 (by decide +kernel) rfl (by decide +kernel) (show (ent [.inr (.inr (6, some n)), .inl x0]).length ≤ (mt 32).2.2.2.1 from Nat.le_of_ble_eq_true rfl) (cats_le (Nat.le_of_ble_eq_true rfl)) (by decide +kernel)
theorem d34_10 : decode (mt 34).2.1 10 = .ok (.aload_n 0, 1) := by decide +kernel
theorem s34_10 {a1 a2 : Option AV} {st : List AV} {m : MM} {x : Nat × Option Nat} : go 34 10 [some (.inr (.inr x)), a1, a2] st m = go 34 11 [some (.inr (.inr x)), a1, a2] (.inr (.inr x) :: st) m := e_1 d34_10 (Or.inl rfl) rfl
theorem d34_11 : decode (mt 34).2.1 11 = .ok (.iconst 0, 1) := by decide +kernel
theorem s34_11 {ls : LV} {st : List AV} {m : MM} : go 34 11 ls st m = go 34 12 ls (.inl 0 :: st) m := e_1 d34_11 (Or.inl rfl) rfl
theorem d34_12 : decode (mt 34).2.1 12 = .ok (.aload_n 1, 1) := by decide +kernel
theorem s34_12 {a0 a2 : Option AV} {st : List AV} {m : MM} {x : Nat × Option Nat} : go 34 12 [a0, some (.inr (.inr x)), a2] st m = go 34 13 [a0, some (.inr (.inr x)), a2] (.inr (.inr x) :: st) m := e_1 d34_12 (Or.inl rfl) rfl
theorem d34_13 : decode (mt 34).2.1 13 = .ok (.aload_n 2, 1) := by decide +kernel
theorem s34_13 {a0 a1 : Option AV} {st : List AV} {m : MM} {x : Nat × Option Nat} : go 34 13 [a0, a1, some (.inr (.inr x))] st m = go 34 14 [a0, a1, some (.inr (.inr x))] (.inr (.inr x) :: st) m := e_1 d34_13 (Or.inl rfl) rfl
theorem d34_14 : decode (mt 34).2.1 14 = .ok (.invokevirtual 64, 3) := by decide +kernel
theorem s34_14 {ls : LV} {m : MM} {x0 : Int32} {x1 : Nat × Option Nat} {x2 : Nat × Option Nat} {n : Nat} : go 34 14 ls [.inr (.inr x2), .inr (.inr x1), .inl x0, .inr (.inr (6, some n))] m = bd (go 31 0 [some (.inr (.inr (6, some n))), some (.inl x0), some (.inr (.inr x1)), some (.inr (.inr x2))] [] m) (fun v m2 => go 34 17 ls (v.toList ++ []) m2) := e_virt (y1 := 31) (na := 3) (as := [.inl x0, .inr (.inr x1), .inr (.inr x2)]) (rest := []) d34_14 (by decide +kernel) rfl (by decide +kernel) (show (ent [.inr (.inr (6, some n)), .inl x0, .inr (.inr x1), .inr (.inr x2)]).length ≤ (mt 31).2.2.2.1 from Nat.le_of_ble_eq_true rfl) (cats_le (Nat.le_of_ble_eq_true rfl)) (by decide +kernel)
theorem d34_17 : decode (mt 34).2.1 17 = .ok (.aload_n 0, 1) := by decide +kernel
theorem s34_17 {a1 a2 : Option AV} {st : List AV} {m : MM} {x : Nat × Option Nat} : go 34 17 [some (.inr (.inr x)), a1, a2] st m = go 34 18 [some (.inr (.inr x)), a1, a2] (.inr (.inr x) :: st) m := e_1 d34_17 (Or.inl rfl) rfl
theorem d34_18 : decode (mt 34).2.1 18 = .ok (.getfield 26, 3) := by decide +kernel
theorem s34_18 {ls : LV} {st : List AV} {m : MM} {n : Nat} : go 34 18 ls (.inr (.inr (6, some n)) :: st) m = go 34 21 ls (.inr (.inr (5, mR m 6 n 9)) :: st) m := e_1 d34_18 (Or.inl rfl) (by rw [xi, pA, show lk fdL (mt 34).2.2.1 26 = some (6, 9) by decide +kernel]; rfl)
theorem d34_21 : decode (mt 34).2.1 21 = .ok (.iconst 0, 1) := by decide +kernel
theorem s34_21 {ls : LV} {st : List AV} {m : MM} : go 34 21 ls st m = go 34 22 ls (.inl 0 :: st) m := e_1 d34_21 (Or.inl rfl) rfl
theorem d34_22 : decode (mt 34).2.1 22 = .ok (.putfield 68, 3) := by decide +kernel
theorem s34_22 {ls : LV} {st : List AV} {m : MM} {n : Nat} {x : Int32} : go 34 22 ls (.inl x :: .inr (.inr (5, some n)) :: st) m = go 34 25 ls st (sI m 5 n 2 x) := e_put (r := 5) (f := 2) d34_22 (by decide +kernel) rfl (by decide +kernel)
theorem d34_25 : decode (mt 34).2.1 25 = .ok (.return_, 1) := by decide +kernel
theorem s34_25 {ls : LV} {m : MM} : go 34 25 ls [] m = some (none, m) := e_void d34_25 (by decide +kernel)
/-! X5_goOut: 35 -/
theorem d35_0 : decode (mt 35).2.1 0 = .ok (.aload_n 0, 1) := by decide +kernel
theorem s35_0 {st : List AV} {m : MM} {x : Nat × Option Nat} : go 35 0 [some (.inr (.inr x))] st m = go 35 1 [some (.inr (.inr x))] (.inr (.inr x) :: st) m := e_1 d35_0 (Or.inl rfl) rfl
theorem d35_1 : decode (mt 35).2.1 1 = .ok (.aload_n 0, 1) := by decide +kernel
theorem s35_1 {st : List AV} {m : MM} {x : Nat × Option Nat} : go 35 1 [some (.inr (.inr x))] st m = go 35 2 [some (.inr (.inr x))] (.inr (.inr x) :: st) m := e_1 d35_1 (Or.inl rfl) rfl
theorem d35_2 : decode (mt 35).2.1 2 = .ok (.iconst 0, 1) := by decide +kernel
theorem s35_2 {ls : LV} {st : List AV} {m : MM} : go 35 2 ls st m = go 35 3 ls (.inl 0 :: st) m := e_1 d35_2 (Or.inl rfl) rfl
theorem d35_3 : decode (mt 35).2.1 3 = .ok (.iconst 0, 1) := by decide +kernel
theorem s35_3 {ls : LV} {st : List AV} {m : MM} : go 35 3 ls st m = go 35 4 ls (.inl 0 :: st) m := e_1 d35_3 (Or.inl rfl) rfl
theorem d35_4 : decode (mt 35).2.1 4 = .ok (.invokevirtual 43, 3) := by decide +kernel
theorem s35_4 {ls : LV} {m : MM} {x0 : Int32} {x1 : Int32} {w0 : AV} {n : Nat} : go 35 4 ls [.inl x1, .inl x0, .inr (.inr (6, some n)), w0] m = bd (go 27 0 [some (.inr (.inr (6, some n))), some (.inl x0), some (.inl x1)] [] m) (fun v m2 => go 35 7 ls (v.toList ++ [w0]) m2) := e_virt (y1 := 27) (na := 2) (as := [.inl x0, .inl x1]) (rest := [w0]) d35_4 (by decide +kernel) rfl (by decide +kernel) (show (ent [.inr (.inr (6, some n)), .inl x0, .inl x1]).length ≤ (mt 27).2.2.2.1 from Nat.le_of_ble_eq_true rfl) (cats_le (Nat.le_of_ble_eq_true rfl)) (by decide +kernel)
theorem d35_7 : decode (mt 35).2.1 7 = .ok (.putfield 71, 3) := by decide +kernel
theorem s35_7r {ls : LV} {st : List AV} {m : MM} {n : Nat} {p : Option Nat} : go 35 7 ls (.inr (.inr (6, p)) :: .inr (.inr (6, some n)) :: st) m = go 35 10 ls st (sR m 6 n 7 p) := e_put (r := 6) (f := 7) d35_7 (by decide +kernel) (by simp [fc, tk, ek, ekL, fk, fkL]) (by decide +kernel)
theorem s35_7n {ls : LV} {st : List AV} {m : MM} {n w : Nat} : go 35 7 ls (.inr (.inr (w, none)) :: .inr (.inr (6, some n)) :: st) m = go 35 10 ls st (sR m 6 n 7 none) := e_put (r := 6) (f := 7) d35_7 (by decide +kernel) (by simp [fc, tk, ek, ekL, fk, fkL]) (by decide +kernel)
theorem d35_10 : decode (mt 35).2.1 10 = .ok (.aload_n 0, 1) := by decide +kernel
theorem s35_10 {st : List AV} {m : MM} {x : Nat × Option Nat} : go 35 10 [some (.inr (.inr x))] st m = go 35 11 [some (.inr (.inr x))] (.inr (.inr x) :: st) m := e_1 d35_10 (Or.inl rfl) rfl
theorem d35_11 : decode (mt 35).2.1 11 = .ok (.aload_n 0, 1) := by decide +kernel
theorem s35_11 {st : List AV} {m : MM} {x : Nat × Option Nat} : go 35 11 [some (.inr (.inr x))] st m = go 35 12 [some (.inr (.inr x))] (.inr (.inr x) :: st) m := e_1 d35_11 (Or.inl rfl) rfl
theorem d35_12 : decode (mt 35).2.1 12 = .ok (.iconst 0, 1) := by decide +kernel
theorem s35_12 {ls : LV} {st : List AV} {m : MM} : go 35 12 ls st m = go 35 13 ls (.inl 0 :: st) m := e_1 d35_12 (Or.inl rfl) rfl
theorem d35_13 : decode (mt 35).2.1 13 = .ok (.iconst 1, 1) := by decide +kernel
theorem s35_13 {ls : LV} {st : List AV} {m : MM} : go 35 13 ls st m = go 35 14 ls (.inl 1 :: st) m := e_1 d35_13 (Or.inl rfl) rfl
theorem d35_14 : decode (mt 35).2.1 14 = .ok (.invokevirtual 43, 3) := by decide +kernel
theorem s35_14 {ls : LV} {m : MM} {x0 : Int32} {x1 : Int32} {w0 : AV} {n : Nat} : go 35 14 ls [.inl x1, .inl x0, .inr (.inr (6, some n)), w0] m = bd (go 27 0 [some (.inr (.inr (6, some n))), some (.inl x0), some (.inl x1)] [] m) (fun v m2 => go 35 17 ls (v.toList ++ [w0]) m2) := e_virt (y1 := 27) (na := 2) (as := [.inl x0, .inl x1]) (rest := [w0]) d35_14 (by decide +kernel) rfl (by decide +kernel) (show (ent [.inr (.inr (6, some n)), .inl x0, .inl x1]).length ≤ (mt 27).2.2.2.1 from Nat.le_of_ble_eq_true rfl) (cats_le (Nat.le_of_ble_eq_true rfl)) (by decide +kernel)
theorem d35_17 : decode (mt 35).2.1 17 = .ok (.putfield 75, 3) := by decide +kernel
theorem s35_17r {ls : LV} {st : List AV} {m : MM} {n : Nat} {p : Option Nat} : go 35 17 ls (.inr (.inr (6, p)) :: .inr (.inr (6, some n)) :: st) m = go 35 20 ls st (sR m 6 n 8 p) := e_put (r := 6) (f := 8) d35_17 (by decide +kernel) (by simp [fc, tk, ek, ekL, fk, fkL]) (by decide +kernel)
theorem s35_17n {ls : LV} {st : List AV} {m : MM} {n w : Nat} : go 35 17 ls (.inr (.inr (w, none)) :: .inr (.inr (6, some n)) :: st) m = go 35 20 ls st (sR m 6 n 8 none) := e_put (r := 6) (f := 8) d35_17 (by decide +kernel) (by simp [fc, tk, ek, ekL, fk, fkL]) (by decide +kernel)
theorem d35_20 : decode (mt 35).2.1 20 = .ok (.aload_n 0, 1) := by decide +kernel
theorem s35_20 {st : List AV} {m : MM} {x : Nat × Option Nat} : go 35 20 [some (.inr (.inr x))] st m = go 35 21 [some (.inr (.inr x))] (.inr (.inr x) :: st) m := e_1 d35_20 (Or.inl rfl) rfl
theorem d35_21 : decode (mt 35).2.1 21 = .ok (.iconst 0, 1) := by decide +kernel
theorem s35_21 {ls : LV} {st : List AV} {m : MM} : go 35 21 ls st m = go 35 22 ls (.inl 0 :: st) m := e_1 d35_21 (Or.inl rfl) rfl
theorem d35_22 : decode (mt 35).2.1 22 = .ok (.invokevirtual 61, 3) := by decide +kernel
theorem s35_22 {ls : LV} {m : MM} {x0 : Int32} {n : Nat} : go 35 22 ls [.inl x0, .inr (.inr (6, some n))] m = bd (go 32 0 [some (.inr (.inr (6, some n))), some (.inl x0), none] [] m) (fun v m2 => go 35 25 ls (v.toList ++ []) m2) := e_virt (y1 := 32) (na := 1) (as := [.inl x0]) (rest := []) d35_22 (by decide +kernel) rfl (by decide +kernel) (show (ent [.inr (.inr (6, some n)), .inl x0]).length ≤ (mt 32).2.2.2.1 from Nat.le_of_ble_eq_true rfl) (cats_le (Nat.le_of_ble_eq_true rfl)) (by decide +kernel)
theorem d35_25 : decode (mt 35).2.1 25 = .ok (.aload_n 0, 1) := by decide +kernel
theorem s35_25 {st : List AV} {m : MM} {x : Nat × Option Nat} : go 35 25 [some (.inr (.inr x))] st m = go 35 26 [some (.inr (.inr x))] (.inr (.inr x) :: st) m := e_1 d35_25 (Or.inl rfl) rfl
theorem d35_26 : decode (mt 35).2.1 26 = .ok (.iconst 0, 1) := by decide +kernel
theorem s35_26 {ls : LV} {st : List AV} {m : MM} : go 35 26 ls st m = go 35 27 ls (.inl 0 :: st) m := e_1 d35_26 (Or.inl rfl) rfl
theorem d35_27 : decode (mt 35).2.1 27 = .ok (.putfield 9, 3) := by decide +kernel
theorem s35_27 {ls : LV} {st : List AV} {m : MM} {n : Nat} {x : Int32} : go 35 27 ls (.inl x :: .inr (.inr (6, some n)) :: st) m = go 35 30 ls st (sI m 6 n 3 x) := e_put (r := 6) (f := 3) d35_27 (by decide +kernel) rfl (by decide +kernel)
theorem d35_30 : decode (mt 35).2.1 30 = .ok (.return_, 1) := by decide +kernel
theorem s35_30 {ls : LV} {m : MM} : go 35 30 ls [] m = some (none, m) := e_void d35_30 (by decide +kernel)
/-! X5_onward: 36 -/
theorem d36_0 : decode (mt 36).2.1 0 = .ok (.aload_n 0, 1) := by decide +kernel
theorem s36_0 {a1 a2 a3 a4 : Option AV} {st : List AV} {m : MM} {x : Nat × Option Nat} : go 36 0 [some (.inr (.inr x)), a1, a2, a3, a4] st m = go 36 1 [some (.inr (.inr x)), a1, a2, a3, a4] (.inr (.inr x) :: st) m := e_1 d36_0 (Or.inl rfl) rfl
theorem d36_1 : decode (mt 36).2.1 1 = .ok (.invokevirtual 78, 3) := by decide +kernel
theorem s36_1 {ls : LV} {m : MM} {n : Nat} : go 36 1 ls [.inr (.inr (6, some n))] m = bd (go 23 0 [some (.inr (.inr (6, some n)))] [] m) (fun v m2 => go 36 4 ls (v.toList ++ []) m2) := e_virt (y1 := 23) (na := 0) (as := []) (rest := []) d36_1 (by decide +kernel) rfl (by decide +kernel) (show (ent [.inr (.inr (6, some n))]).length ≤ (mt 23).2.2.2.1 from Nat.le_of_ble_eq_true rfl) (cats_le (Nat.le_of_ble_eq_true rfl)) (by decide +kernel)
theorem d36_4 : decode (mt 36).2.1 4 = .ok (.ifCond .eq 22, 3) := by decide +kernel
theorem s36_4 {ls : LV} {st : List AV} {m : MM} {a : Int32} : go 36 4 ls (.inl a :: st) m = if a = 0 then go 36 26 ls st m else go 36 7 ls st m := e_if (t := 26) (b := hc .eq a 0) d36_4 (Or.inl rfl) (by simp only [xi, pI, jm_some (t := 26) (show ((4 : Nat) : Int) + 22 = ((26 : Nat) : Int) by decide), Option.bind_some]) (by simp [hc])
theorem d36_7 : decode (mt 36).2.1 7 = .ok (.aload_n 0, 1) := by decide +kernel
theorem s36_7 {a1 a2 a3 a4 : Option AV} {st : List AV} {m : MM} {x : Nat × Option Nat} : go 36 7 [some (.inr (.inr x)), a1, a2, a3, a4] st m = go 36 8 [some (.inr (.inr x)), a1, a2, a3, a4] (.inr (.inr x) :: st) m := e_1 d36_7 (Or.inl rfl) rfl
theorem d36_8 : decode (mt 36).2.1 8 = .ok (.getfield 71, 3) := by decide +kernel
theorem s36_8 {ls : LV} {st : List AV} {m : MM} {n : Nat} : go 36 8 ls (.inr (.inr (6, some n)) :: st) m = go 36 11 ls (.inr (.inr (6, mR m 6 n 7)) :: st) m := e_1 d36_8 (Or.inl rfl) (by rw [xi, pA, show lk fdL (mt 36).2.2.1 71 = some (6, 7) by decide +kernel]; rfl)
theorem d36_11 : decode (mt 36).2.1 11 = .ok (.ifnull 10, 3) := by decide +kernel
theorem s36_11n {u : Nat} {ls : LV} {st : List AV} {m : MM} : go 36 11 ls (.inr (.inr (u, none)) :: st) m = go 36 21 ls st m := e_1 d36_11 (Or.inl rfl) (by rw [xi, jm_some (t := 21) (by decide)]; rfl)
theorem s36_11s {u n : Nat} {ls : LV} {st : List AV} {m : MM} : go 36 11 ls (.inr (.inr (u, some n)) :: st) m = go 36 14 ls st m := e_1 d36_11 (Or.inl rfl) (by rw [xi, jm_some (t := 21) (by decide)]; rfl)
theorem d36_14 : decode (mt 36).2.1 14 = .ok (.aload_n 0, 1) := by decide +kernel
theorem s36_14 {a1 a2 a3 a4 : Option AV} {st : List AV} {m : MM} {x : Nat × Option Nat} : go 36 14 [some (.inr (.inr x)), a1, a2, a3, a4] st m = go 36 15 [some (.inr (.inr x)), a1, a2, a3, a4] (.inr (.inr x) :: st) m := e_1 d36_14 (Or.inl rfl) rfl
theorem d36_15 : decode (mt 36).2.1 15 = .ok (.getfield 71, 3) := by decide +kernel
theorem s36_15 {ls : LV} {st : List AV} {m : MM} {n : Nat} : go 36 15 ls (.inr (.inr (6, some n)) :: st) m = go 36 18 ls (.inr (.inr (6, mR m 6 n 7)) :: st) m := e_1 d36_15 (Or.inl rfl) (by rw [xi, pA, show lk fdL (mt 36).2.2.1 71 = some (6, 7) by decide +kernel]; rfl)
theorem d36_18 : decode (mt 36).2.1 18 = .ok (.goto 7, 3) := by decide +kernel
theorem s36_18 {ls : LV} {st : List AV} {m : MM} : go 36 18 ls st m = go 36 25 ls st m := e_1 d36_18 (Or.inl rfl) (by rw [xi, jm_some (t := 25) (by decide)]; rfl)
theorem d36_21 : decode (mt 36).2.1 21 = .ok (.aload_n 0, 1) := by decide +kernel
theorem s36_21 {a1 a2 a3 a4 : Option AV} {st : List AV} {m : MM} {x : Nat × Option Nat} : go 36 21 [some (.inr (.inr x)), a1, a2, a3, a4] st m = go 36 22 [some (.inr (.inr x)), a1, a2, a3, a4] (.inr (.inr x) :: st) m := e_1 d36_21 (Or.inl rfl) rfl
theorem d36_22 : decode (mt 36).2.1 22 = .ok (.getfield 75, 3) := by decide +kernel
theorem s36_22 {ls : LV} {st : List AV} {m : MM} {n : Nat} : go 36 22 ls (.inr (.inr (6, some n)) :: st) m = go 36 25 ls (.inr (.inr (6, mR m 6 n 8)) :: st) m := e_1 d36_22 (Or.inl rfl) (by rw [xi, pA, show lk fdL (mt 36).2.2.1 75 = some (6, 8) by decide +kernel]; rfl)
theorem d36_25 : decode (mt 36).2.1 25 = .ok (.areturn, 1) := by decide +kernel
theorem s36_25 {ls : LV} {m : MM} {x : Nat × Option Nat} : go 36 25 ls [.inr (.inr x)] m = some (some (.inr (.inr x)), m) := e_ref d36_25 rfl
theorem d36_26 : decode (mt 36).2.1 26 = .ok (.aload_n 0, 1) := by decide +kernel
theorem s36_26 {a1 a2 a3 a4 : Option AV} {st : List AV} {m : MM} {x : Nat × Option Nat} : go 36 26 [some (.inr (.inr x)), a1, a2, a3, a4] st m = go 36 27 [some (.inr (.inr x)), a1, a2, a3, a4] (.inr (.inr x) :: st) m := e_1 d36_26 (Or.inl rfl) rfl
theorem d36_27 : decode (mt 36).2.1 27 = .ok (.getfield 33, 3) := by decide +kernel
theorem s36_27 {ls : LV} {st : List AV} {m : MM} {n : Nat} : go 36 27 ls (.inr (.inr (6, some n)) :: st) m = go 36 30 ls (.inl (mI m 6 n 1) :: st) m := e_1 d36_27 (Or.inl rfl) (by rw [xi, pA, show lk fdL (mt 36).2.2.1 33 = some (6, 1) by decide +kernel]; rfl)
theorem d36_30 : decode (mt 36).2.1 30 = .ok (.iload_n 1, 1) := by decide +kernel
theorem s36_30 {a0 a2 a3 a4 : Option AV} {st : List AV} {m : MM} {x : Int32} : go 36 30 [a0, some (.inl x), a2, a3, a4] st m = go 36 31 [a0, some (.inl x), a2, a3, a4] (.inl x :: st) m := e_1 d36_30 (Or.inl rfl) rfl
theorem d36_31 : decode (mt 36).2.1 31 = .ok (.if_icmp .gt 7, 3) := by decide +kernel
theorem s36_31 {ls : LV} {st : List AV} {m : MM} {a b : Int32} : go 36 31 ls (.inl b :: .inl a :: st) m = if b < a then go 36 38 ls st m else go 36 34 ls st m := e_if (t := 38) (b := hc .gt a b) d36_31 (Or.inl rfl) (by simp only [xi, pI, jm_some (t := 38) (show ((31 : Nat) : Int) + 7 = ((38 : Nat) : Int) by decide), Option.bind_some]) (by simp [hc])
theorem d36_34 : decode (mt 36).2.1 34 = .ok (.iconst 1, 1) := by decide +kernel
theorem s36_34 {ls : LV} {st : List AV} {m : MM} : go 36 34 ls st m = go 36 35 ls (.inl 1 :: st) m := e_1 d36_34 (Or.inl rfl) rfl
theorem d36_35 : decode (mt 36).2.1 35 = .ok (.goto 4, 3) := by decide +kernel
theorem s36_35 {ls : LV} {st : List AV} {m : MM} : go 36 35 ls st m = go 36 39 ls st m := e_1 d36_35 (Or.inl rfl) (by rw [xi, jm_some (t := 39) (by decide)]; rfl)
theorem d36_38 : decode (mt 36).2.1 38 = .ok (.iconst 0, 1) := by decide +kernel
theorem s36_38 {ls : LV} {st : List AV} {m : MM} : go 36 38 ls st m = go 36 39 ls (.inl 0 :: st) m := e_1 d36_38 (Or.inl rfl) rfl
theorem d36_39 : decode (mt 36).2.1 39 = .ok (.istore_n 2, 1) := by decide +kernel
theorem s36_39i {a0 a2 a3 a4 : Option AV} {z : Int32} {st : List AV} {m : MM} {x : Int32} : go 36 39 [a0, some (.inl z), a2, a3, a4] (.inl x :: st) m = go 36 40 [a0, some (.inl z), some (.inl x), a3, a4] st m := e_1 d36_39 (Or.inl rfl) rfl
theorem s36_39r {a0 a2 a3 a4 : Option AV} {z : Nat × Option Nat} {st : List AV} {m : MM} {x : Int32} : go 36 39 [a0, some (.inr (.inr z)), a2, a3, a4] (.inl x :: st) m = go 36 40 [a0, some (.inr (.inr z)), some (.inl x), a3, a4] st m := e_1 d36_39 (Or.inl rfl) rfl
theorem s36_39n {a0 a2 a3 a4 : Option AV} {st : List AV} {m : MM} {x : Int32} : go 36 39 [a0, none, a2, a3, a4] (.inl x :: st) m = go 36 40 [a0, none, some (.inl x), a3, a4] st m := e_1 d36_39 (Or.inl rfl) rfl
theorem d36_40 : decode (mt 36).2.1 40 = .ok (.bipush 8, 2) := by decide +kernel
theorem s36_40 {ls : LV} {st : List AV} {m : MM} : go 36 40 ls st m = go 36 42 ls (.inl 8 :: st) m := e_1 d36_40 (Or.inl rfl) rfl
theorem d36_42 : decode (mt 36).2.1 42 = .ok (.istore_n 3, 1) := by decide +kernel
theorem s36_42i {a0 a1 a3 a4 : Option AV} {z : Int32} {st : List AV} {m : MM} {x : Int32} : go 36 42 [a0, a1, some (.inl z), a3, a4] (.inl x :: st) m = go 36 43 [a0, a1, some (.inl z), some (.inl x), a4] st m := e_1 d36_42 (Or.inl rfl) rfl
theorem s36_42r {a0 a1 a3 a4 : Option AV} {z : Nat × Option Nat} {st : List AV} {m : MM} {x : Int32} : go 36 42 [a0, a1, some (.inr (.inr z)), a3, a4] (.inl x :: st) m = go 36 43 [a0, a1, some (.inr (.inr z)), some (.inl x), a4] st m := e_1 d36_42 (Or.inl rfl) rfl
theorem s36_42n {a0 a1 a3 a4 : Option AV} {st : List AV} {m : MM} {x : Int32} : go 36 42 [a0, a1, none, a3, a4] (.inl x :: st) m = go 36 43 [a0, a1, none, some (.inl x), a4] st m := e_1 d36_42 (Or.inl rfl) rfl
theorem d36_43 : decode (mt 36).2.1 43 = .ok (.iload_n 3, 1) := by decide +kernel
theorem s36_43 {a0 a1 a2 a4 : Option AV} {st : List AV} {m : MM} {x : Int32} : go 36 43 [a0, a1, a2, some (.inl x), a4] st m = go 36 44 [a0, a1, a2, some (.inl x), a4] (.inl x :: st) m := e_1 d36_43 (Or.inl rfl) rfl
theorem d36_44 : decode (mt 36).2.1 44 = .ok (.ifCond .lt 51, 3) := by decide +kernel
theorem s36_44 {ls : LV} {st : List AV} {m : MM} {a : Int32} : go 36 44 ls (.inl a :: st) m = if a < 0 then go 36 95 ls st m else go 36 47 ls st m := e_if (t := 95) (b := hc .lt a 0) d36_44 (Or.inl rfl) (by simp only [xi, pI, jm_some (t := 95) (show ((44 : Nat) : Int) + 51 = ((95 : Nat) : Int) by decide), Option.bind_some]) (by simp [hc])
theorem d36_47 : decode (mt 36).2.1 47 = .ok (.aload_n 0, 1) := by decide +kernel
theorem s36_47 {a1 a2 a3 a4 : Option AV} {st : List AV} {m : MM} {x : Nat × Option Nat} : go 36 47 [some (.inr (.inr x)), a1, a2, a3, a4] st m = go 36 48 [some (.inr (.inr x)), a1, a2, a3, a4] (.inr (.inr x) :: st) m := e_1 d36_47 (Or.inl rfl) rfl
theorem d36_48 : decode (mt 36).2.1 48 = .ok (.iload_n 3, 1) := by decide +kernel
theorem s36_48 {a0 a1 a2 a4 : Option AV} {st : List AV} {m : MM} {x : Int32} : go 36 48 [a0, a1, a2, some (.inl x), a4] st m = go 36 49 [a0, a1, a2, some (.inl x), a4] (.inl x :: st) m := e_1 d36_48 (Or.inl rfl) rfl
theorem d36_49 : decode (mt 36).2.1 49 = .ok (.iload_n 2, 1) := by decide +kernel
theorem s36_49 {a0 a1 a3 a4 : Option AV} {st : List AV} {m : MM} {x : Int32} : go 36 49 [a0, a1, some (.inl x), a3, a4] st m = go 36 50 [a0, a1, some (.inl x), a3, a4] (.inl x :: st) m := e_1 d36_49 (Or.inl rfl) rfl
theorem d36_50 : decode (mt 36).2.1 50 = .ok (.invokevirtual 43, 3) := by decide +kernel
theorem s36_50 {ls : LV} {m : MM} {x0 : Int32} {x1 : Int32} {n : Nat} : go 36 50 ls [.inl x1, .inl x0, .inr (.inr (6, some n))] m = bd (go 27 0 [some (.inr (.inr (6, some n))), some (.inl x0), some (.inl x1)] [] m) (fun v m2 => go 36 53 ls (v.toList ++ []) m2) := e_virt (y1 := 27) (na := 2) (as := [.inl x0, .inl x1]) (rest := []) d36_50 (by decide +kernel) rfl (by decide +kernel) (show (ent [.inr (.inr (6, some n)), .inl x0, .inl x1]).length ≤ (mt 27).2.2.2.1 from Nat.le_of_ble_eq_true rfl) (cats_le (Nat.le_of_ble_eq_true rfl)) (by decide +kernel)
theorem d36_53 : decode (mt 36).2.1 53 = .ok (.astore 4, 2) := by decide +kernel
theorem s36_53i {a0 a1 a2 a4 : Option AV} {z : Int32} {st : List AV} {m : MM} {x : Nat × Option Nat} : go 36 53 [a0, a1, a2, some (.inl z), a4] (.inr (.inr x) :: st) m = go 36 55 [a0, a1, a2, some (.inl z), some (.inr (.inr x))] st m := e_1 d36_53 (Or.inl rfl) rfl
theorem s36_53r {a0 a1 a2 a4 : Option AV} {z : Nat × Option Nat} {st : List AV} {m : MM} {x : Nat × Option Nat} : go 36 53 [a0, a1, a2, some (.inr (.inr z)), a4] (.inr (.inr x) :: st) m = go 36 55 [a0, a1, a2, some (.inr (.inr z)), some (.inr (.inr x))] st m := e_1 d36_53 (Or.inl rfl) rfl
theorem s36_53n {a0 a1 a2 a4 : Option AV} {st : List AV} {m : MM} {x : Nat × Option Nat} : go 36 53 [a0, a1, a2, none, a4] (.inr (.inr x) :: st) m = go 36 55 [a0, a1, a2, none, some (.inr (.inr x))] st m := e_1 d36_53 (Or.inl rfl) rfl
theorem d36_55 : decode (mt 36).2.1 55 = .ok (.aload 4, 2) := by decide +kernel
theorem s36_55 {a0 a1 a2 a3 : Option AV} {st : List AV} {m : MM} {x : Nat × Option Nat} : go 36 55 [a0, a1, a2, a3, some (.inr (.inr x))] st m = go 36 57 [a0, a1, a2, a3, some (.inr (.inr x))] (.inr (.inr x) :: st) m := e_1 d36_55 (Or.inl rfl) rfl
theorem d36_57 : decode (mt 36).2.1 57 = .ok (.ifnull 32, 3) := by decide +kernel
theorem s36_57n {u : Nat} {ls : LV} {st : List AV} {m : MM} : go 36 57 ls (.inr (.inr (u, none)) :: st) m = go 36 89 ls st m := e_1 d36_57 (Or.inl rfl) (by rw [xi, jm_some (t := 89) (by decide)]; rfl)
theorem s36_57s {u n : Nat} {ls : LV} {st : List AV} {m : MM} : go 36 57 ls (.inr (.inr (u, some n)) :: st) m = go 36 60 ls st m := e_1 d36_57 (Or.inl rfl) (by rw [xi, jm_some (t := 89) (by decide)]; rfl)
theorem d36_60 : decode (mt 36).2.1 60 = .ok (.iload_n 2, 1) := by decide +kernel
theorem s36_60 {a0 a1 a3 a4 : Option AV} {st : List AV} {m : MM} {x : Int32} : go 36 60 [a0, a1, some (.inl x), a3, a4] st m = go 36 61 [a0, a1, some (.inl x), a3, a4] (.inl x :: st) m := e_1 d36_60 (Or.inl rfl) rfl
theorem d36_61 : decode (mt 36).2.1 61 = .ok (.iconst 1, 1) := by decide +kernel
theorem s36_61 {ls : LV} {st : List AV} {m : MM} : go 36 61 ls st m = go 36 62 ls (.inl 1 :: st) m := e_1 d36_61 (Or.inl rfl) rfl
theorem d36_62 : decode (mt 36).2.1 62 = .ok (.if_icmp .ne 15, 3) := by decide +kernel
theorem s36_62 {ls : LV} {st : List AV} {m : MM} {a b : Int32} : go 36 62 ls (.inl b :: .inl a :: st) m = if ¬ a = b then go 36 77 ls st m else go 36 65 ls st m := e_if (t := 77) (b := hc .ne a b) d36_62 (Or.inl rfl) (by simp only [xi, pI, jm_some (t := 77) (show ((62 : Nat) : Int) + 15 = ((77 : Nat) : Int) by decide), Option.bind_some]) (by simp [hc])
theorem d36_65 : decode (mt 36).2.1 65 = .ok (.aload 4, 2) := by decide +kernel
theorem s36_65 {a0 a1 a2 a3 : Option AV} {st : List AV} {m : MM} {x : Nat × Option Nat} : go 36 65 [a0, a1, a2, a3, some (.inr (.inr x))] st m = go 36 67 [a0, a1, a2, a3, some (.inr (.inr x))] (.inr (.inr x) :: st) m := e_1 d36_65 (Or.inl rfl) rfl
theorem d36_67 : decode (mt 36).2.1 67 = .ok (.getfield 33, 3) := by decide +kernel
theorem s36_67 {ls : LV} {st : List AV} {m : MM} {n : Nat} : go 36 67 ls (.inr (.inr (6, some n)) :: st) m = go 36 70 ls (.inl (mI m 6 n 1) :: st) m := e_1 d36_67 (Or.inl rfl) (by rw [xi, pA, show lk fdL (mt 36).2.2.1 33 = some (6, 1) by decide +kernel]; rfl)
theorem d36_70 : decode (mt 36).2.1 70 = .ok (.iload_n 1, 1) := by decide +kernel
theorem s36_70 {a0 a2 a3 a4 : Option AV} {st : List AV} {m : MM} {x : Int32} : go 36 70 [a0, some (.inl x), a2, a3, a4] st m = go 36 71 [a0, some (.inl x), a2, a3, a4] (.inl x :: st) m := e_1 d36_70 (Or.inl rfl) rfl
theorem d36_71 : decode (mt 36).2.1 71 = .ok (.if_icmp .gt 18, 3) := by decide +kernel
theorem s36_71 {ls : LV} {st : List AV} {m : MM} {a b : Int32} : go 36 71 ls (.inl b :: .inl a :: st) m = if b < a then go 36 89 ls st m else go 36 74 ls st m := e_if (t := 89) (b := hc .gt a b) d36_71 (Or.inl rfl) (by simp only [xi, pI, jm_some (t := 89) (show ((71 : Nat) : Int) + 18 = ((89 : Nat) : Int) by decide), Option.bind_some]) (by simp [hc])
theorem d36_74 : decode (mt 36).2.1 74 = .ok (.goto 12, 3) := by decide +kernel
theorem s36_74 {ls : LV} {st : List AV} {m : MM} : go 36 74 ls st m = go 36 86 ls st m := e_1 d36_74 (Or.inl rfl) (by rw [xi, jm_some (t := 86) (by decide)]; rfl)
theorem d36_77 : decode (mt 36).2.1 77 = .ok (.aload 4, 2) := by decide +kernel
theorem s36_77 {a0 a1 a2 a3 : Option AV} {st : List AV} {m : MM} {x : Nat × Option Nat} : go 36 77 [a0, a1, a2, a3, some (.inr (.inr x))] st m = go 36 79 [a0, a1, a2, a3, some (.inr (.inr x))] (.inr (.inr x) :: st) m := e_1 d36_77 (Or.inl rfl) rfl
theorem d36_79 : decode (mt 36).2.1 79 = .ok (.getfield 33, 3) := by decide +kernel
theorem s36_79 {ls : LV} {st : List AV} {m : MM} {n : Nat} : go 36 79 ls (.inr (.inr (6, some n)) :: st) m = go 36 82 ls (.inl (mI m 6 n 1) :: st) m := e_1 d36_79 (Or.inl rfl) (by rw [xi, pA, show lk fdL (mt 36).2.2.1 33 = some (6, 1) by decide +kernel]; rfl)
theorem d36_82 : decode (mt 36).2.1 82 = .ok (.iload_n 1, 1) := by decide +kernel
theorem s36_82 {a0 a2 a3 a4 : Option AV} {st : List AV} {m : MM} {x : Int32} : go 36 82 [a0, some (.inl x), a2, a3, a4] st m = go 36 83 [a0, some (.inl x), a2, a3, a4] (.inl x :: st) m := e_1 d36_82 (Or.inl rfl) rfl
theorem d36_83 : decode (mt 36).2.1 83 = .ok (.if_icmp .lt 6, 3) := by decide +kernel
theorem s36_83 {ls : LV} {st : List AV} {m : MM} {a b : Int32} : go 36 83 ls (.inl b :: .inl a :: st) m = if a < b then go 36 89 ls st m else go 36 86 ls st m := e_if (t := 89) (b := hc .lt a b) d36_83 (Or.inl rfl) (by simp only [xi, pI, jm_some (t := 89) (show ((83 : Nat) : Int) + 6 = ((89 : Nat) : Int) by decide), Option.bind_some]) (by simp [hc])
theorem d36_86 : decode (mt 36).2.1 86 = .ok (.aload 4, 2) := by decide +kernel
theorem s36_86 {a0 a1 a2 a3 : Option AV} {st : List AV} {m : MM} {x : Nat × Option Nat} : go 36 86 [a0, a1, a2, a3, some (.inr (.inr x))] st m = go 36 88 [a0, a1, a2, a3, some (.inr (.inr x))] (.inr (.inr x) :: st) m := e_1 d36_86 (Or.inl rfl) rfl
theorem d36_88 : decode (mt 36).2.1 88 = .ok (.areturn, 1) := by decide +kernel
theorem s36_88 {ls : LV} {m : MM} {x : Nat × Option Nat} : go 36 88 ls [.inr (.inr x)] m = some (some (.inr (.inr x)), m) := e_ref d36_88 rfl
theorem d36_89 : decode (mt 36).2.1 89 = .ok (.iinc 3 (-1), 3) := by decide +kernel
theorem s36_89i {a0 a1 a4 : Option AV} {z : Int32} {st : List AV} {m : MM} {x : Int32} : go 36 89 [a0, a1, some (.inl z), some (.inl x), a4] st m = go 36 92 [a0, a1, some (.inl z), some (.inl (x + (-1))), a4] st m := e_1 d36_89 (Or.inl rfl) rfl
theorem s36_89r {a0 a1 a4 : Option AV} {z : Nat × Option Nat} {st : List AV} {m : MM} {x : Int32} : go 36 89 [a0, a1, some (.inr (.inr z)), some (.inl x), a4] st m = go 36 92 [a0, a1, some (.inr (.inr z)), some (.inl (x + (-1))), a4] st m := e_1 d36_89 (Or.inl rfl) rfl
theorem s36_89n {a0 a1 a4 : Option AV} {st : List AV} {m : MM} {x : Int32} : go 36 89 [a0, a1, none, some (.inl x), a4] st m = go 36 92 [a0, a1, none, some (.inl (x + (-1))), a4] st m := e_1 d36_89 (Or.inl rfl) rfl
theorem d36_92 : decode (mt 36).2.1 92 = .ok (.goto (-49), 3) := by decide +kernel
theorem s36_92 {ls : LV} {st : List AV} {m : MM} : go 36 92 ls st m = go 36 43 ls st m := e_1 d36_92 (Or.inl rfl) (by rw [xi, jm_some (t := 43) (by decide)]; rfl)
theorem d36_95 : decode (mt 36).2.1 95 = .ok (.iload_n 2, 1) := by decide +kernel
theorem s36_95 {a0 a1 a3 a4 : Option AV} {st : List AV} {m : MM} {x : Int32} : go 36 95 [a0, a1, some (.inl x), a3, a4] st m = go 36 96 [a0, a1, some (.inl x), a3, a4] (.inl x :: st) m := e_1 d36_95 (Or.inl rfl) rfl
theorem d36_96 : decode (mt 36).2.1 96 = .ok (.ifCond .ne 12, 3) := by decide +kernel
theorem s36_96 {ls : LV} {st : List AV} {m : MM} {a : Int32} : go 36 96 ls (.inl a :: st) m = if ¬ a = 0 then go 36 108 ls st m else go 36 99 ls st m := e_if (t := 108) (b := hc .ne a 0) d36_96 (Or.inl rfl) (by simp only [xi, pI, jm_some (t := 108) (show ((96 : Nat) : Int) + 12 = ((108 : Nat) : Int) by decide), Option.bind_some]) (by simp [hc])
theorem d36_99 : decode (mt 36).2.1 99 = .ok (.aload_n 0, 1) := by decide +kernel
theorem s36_99 {a1 a2 a3 a4 : Option AV} {st : List AV} {m : MM} {x : Nat × Option Nat} : go 36 99 [some (.inr (.inr x)), a1, a2, a3, a4] st m = go 36 100 [some (.inr (.inr x)), a1, a2, a3, a4] (.inr (.inr x) :: st) m := e_1 d36_99 (Or.inl rfl) rfl
theorem d36_100 : decode (mt 36).2.1 100 = .ok (.iconst 0, 1) := by decide +kernel
theorem s36_100 {ls : LV} {st : List AV} {m : MM} : go 36 100 ls st m = go 36 101 ls (.inl 0 :: st) m := e_1 d36_100 (Or.inl rfl) rfl
theorem d36_101 : decode (mt 36).2.1 101 = .ok (.iconst 0, 1) := by decide +kernel
theorem s36_101 {ls : LV} {st : List AV} {m : MM} : go 36 101 ls st m = go 36 102 ls (.inl 0 :: st) m := e_1 d36_101 (Or.inl rfl) rfl
theorem d36_102 : decode (mt 36).2.1 102 = .ok (.invokevirtual 43, 3) := by decide +kernel
theorem s36_102 {ls : LV} {m : MM} {x0 : Int32} {x1 : Int32} {n : Nat} : go 36 102 ls [.inl x1, .inl x0, .inr (.inr (6, some n))] m = bd (go 27 0 [some (.inr (.inr (6, some n))), some (.inl x0), some (.inl x1)] [] m) (fun v m2 => go 36 105 ls (v.toList ++ []) m2) := e_virt (y1 := 27) (na := 2) (as := [.inl x0, .inl x1]) (rest := []) d36_102 (by decide +kernel) rfl (by decide +kernel) (show (ent [.inr (.inr (6, some n)), .inl x0, .inl x1]).length ≤ (mt 27).2.2.2.1 from Nat.le_of_ble_eq_true rfl) (cats_le (Nat.le_of_ble_eq_true rfl)) (by decide +kernel)
theorem d36_105 : decode (mt 36).2.1 105 = .ok (.goto 4, 3) := by decide +kernel
theorem s36_105 {ls : LV} {st : List AV} {m : MM} : go 36 105 ls st m = go 36 109 ls st m := e_1 d36_105 (Or.inl rfl) (by rw [xi, jm_some (t := 109) (by decide)]; rfl)
theorem d36_108 : decode (mt 36).2.1 108 = .ok (.aconst_null, 1) := by decide +kernel
theorem s36_108 {ls : LV} {st : List AV} {m : MM} : go 36 108 ls st m = go 36 109 ls (.inr (.inr (0, none)) :: st) m := e_1 d36_108 (Or.inl rfl) rfl
theorem d36_109 : decode (mt 36).2.1 109 = .ok (.areturn, 1) := by decide +kernel
theorem s36_109 {ls : LV} {m : MM} {x : Nat × Option Nat} : go 36 109 ls [.inr (.inr x)] m = some (some (.inr (.inr x)), m) := e_ref d36_109 rfl
