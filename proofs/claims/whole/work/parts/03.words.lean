/-! which words of the tables the small machine rests on; printed by wip/gen/words.py -/
def ft (e : Nat) : FieldType := match e with
  | 0 => .int
  | 1 => .boolean
  | 2 => .byte
  | 3 => .long
  | t + 4 => .object (cn (t - 1))
def yt (q : Nat) : MethodName := if q = 9999 then objectInit else (mt q).1
def mk {α : Type} : List Nat → List α → List α
  | [], _ => []
  | _ :: _, [] => []
  | 0 :: bs, a :: l => a :: mk bs l
  | (n + 1) :: bs, _ :: l => mk (n :: bs) l
theorem mk_sub {α : Type} : ∀ (l : List α) (bs : List Nat) (w : α), w ∈ mk bs l → w ∈ l
  | [], bs, w, h => by cases bs <;> cases h
  | a :: l, [], w, h => by cases h
  | a :: l, 0 :: bs, w, h => by
    rcases List.mem_cons.mp h with h | h
    · exact h ▸ List.mem_cons_self
    · exact List.mem_cons_of_mem _ (mk_sub l bs w h)
  | a :: l, (n + 1) :: bs, w, h => List.mem_cons_of_mem _ (mk_sub l (n :: bs) w h)
def wF (q : (Nat × Nat) × (Nat × Nat)) : Cond := .fieldLink (cn q.1.1) q.1.2 (cn (q.2.1 - 1)) (TT (q.2.1 - 1) q.2.2).2.1 (TT (q.2.1 - 1) q.2.2).2.2.1
def vF1 : List ((Nat × Nat) × (Nat × Nat)) := [((2, 11), (3, 0)), ((6, 244), (3, 0)), ((2, 17), (3, 1)), ((6, 243), (3, 1)), ((2, 52), (3, 2)), ((6, 141), (3, 2)), ((2, 59), (3, 3)), ((4, 9), (5, 0)), ((4, 15), (5, 1)), ((4, 19), (5, 2)), ((1, 30), (5, 2)), ((6, 121), (5, 2)), ((5, 68), (5, 2)), ((1, 9), (2, 0)), ((6, 150), (2, 0)), ((1, 22), (2, 1)), ((6, 137), (2, 1)), ((1, 26), (2, 2)), ((6, 98), (2, 2)), ((6, 102), (2, 3)), ((1, 18), (2, 4)), ((6, 126), (2, 4)), ((6, 11), (7, 0)), ((6, 52), (7, 1)), ((6, 17), (7, 2)), ((6, 160), (7, 3)), ((6, 21), (7, 4)), ((6, 176), (7, 5)), ((6, 28), (7, 6)), ((6, 35), (7, 7)), ((6, 39), (7, 8)), ((5, 30), (6, 0)), ((0, 38), (6, 0)), ((6, 235), (6, 0)), ((5, 33), (6, 1)), ((6, 58), (6, 1)), ((5, 36), (6, 2)), ((6, 144), (6, 2)), ((5, 9), (6, 3)), ((6, 61), (6, 3)), ((6, 251), (6, 4)), ((5, 15), (6, 5)), ((5, 19), (6, 6)), ((5, 71), (6, 7)), ((5, 75), (6, 8)), ((5, 26), (6, 9)), ((6, 117), (6, 9))]
set_option maxRecDepth 100000 in
theorem vF1_eq : mk [30, 0, 0, 0, 0, 0, 0, 22, 0, 0, 0, 0, 0, 8, 0, 0, 0, 0, 0, 0, 0, 0, 11, 0, 0, 0, 0, 0, 0, 0, 0, 39, 0, 0, 0, 0, 0, 0, 0, 0, 0, 0, 0, 0, 0, 0, 0] tables_1_1 = vF1.map wF := rfl
theorem vF1_in : ∀ q ∈ vF1, wF q ∈ tables_1 := fun q hq => by
  have h : wF q ∈ tables_1_1 := mk_sub _ [30, 0, 0, 0, 0, 0, 0, 22, 0, 0, 0, 0, 0, 8, 0, 0, 0, 0, 0, 0, 0, 0, 11, 0, 0, 0, 0, 0, 0, 0, 0, 39, 0, 0, 0, 0, 0, 0, 0, 0, 0, 0, 0, 0, 0, 0, 0] _ (by rw [vF1_eq]; exact List.mem_map.mpr ⟨q, hq, rfl⟩)
  exact List.mem_append_left _ h
def vF2 : List ((Nat × Nat) × (Nat × Nat)) := [((2, 35), (4, 0)), ((6, 229), (4, 0)), ((2, 36), (4, 1)), ((6, 232), (4, 1)), ((2, 31), (4, 2)), ((6, 236), (4, 2)), ((2, 40), (4, 3)), ((6, 240), (4, 3)), ((2, 43), (4, 4)), ((6, 325), (4, 4)), ((2, 46), (4, 5)), ((6, 316), (4, 5)), ((2, 49), (4, 6)), ((6, 319), (4, 6)), ((0, 15), (1, 0)), ((6, 173), (1, 0)), ((0, 19), (1, 1)), ((2, 21), (1, 1)), ((6, 183), (1, 1)), ((0, 22), (1, 2)), ((6, 270), (1, 2)), ((0, 25), (1, 3)), ((6, 307), (1, 3)), ((0, 28), (1, 4)), ((6, 210), (1, 4)), ((6, 267), (1, 5)), ((0, 44), (1, 6)), ((6, 186), (1, 6)), ((0, 51), (1, 7)), ((6, 401), (1, 7)), ((0, 48), (1, 8)), ((6, 189), (1, 8)), ((0, 35), (1, 9)), ((6, 192), (1, 9)), ((0, 41), (1, 10)), ((6, 204), (1, 10)), ((0, 9), (1, 11)), ((6, 200), (1, 11)), ((0, 32), (1, 12)), ((6, 207), (1, 12))]
set_option maxRecDepth 100000 in
theorem vF2_eq : mk [8, 0, 0, 0, 0, 0, 0, 0, 0, 0, 0, 0, 0, 0, 83, 0, 0, 0, 0, 0, 0, 0, 0, 0, 0, 0, 0, 0, 0, 0, 0, 0, 0, 0, 0, 0, 0, 0, 0, 0] tables_1_2 = vF2.map wF := rfl
theorem vF2_in : ∀ q ∈ vF2, wF q ∈ tables_1 := fun q hq => by
  have h : wF q ∈ tables_1_2 := mk_sub _ [8, 0, 0, 0, 0, 0, 0, 0, 0, 0, 0, 0, 0, 0, 83, 0, 0, 0, 0, 0, 0, 0, 0, 0, 0, 0, 0, 0, 0, 0, 0, 0, 0, 0, 0, 0, 0, 0, 0, 0] _ (by rw [vF2_eq]; exact List.mem_map.mpr ⟨q, hq, rfl⟩)
  exact List.mem_append_right _ (List.mem_append_left _ h)
def vF3 : List ((Nat × Nat) × (Nat × Nat)) := [((7, 115), (8, 0)), ((7, 7), (8, 1)), ((7, 13), (8, 2)), ((7, 17), (8, 3)), ((7, 20), (8, 4)), ((7, 23), (8, 5)), ((7, 26), (8, 6)), ((7, 30), (8, 7)), ((7, 33), (8, 8)), ((7, 36), (8, 9)), ((7, 39), (8, 10)), ((7, 42), (8, 11)), ((7, 45), (8, 12)), ((7, 48), (8, 13)), ((7, 219), (8, 14)), ((7, 52), (8, 15)), ((7, 222), (8, 16)), ((7, 137), (8, 17)), ((7, 153), (8, 18)), ((7, 55), (8, 19)), ((7, 58), (8, 20)), ((7, 61), (8, 21)), ((7, 64), (8, 22)), ((7, 67), (8, 23)), ((7, 70), (8, 24)), ((7, 73), (8, 25)), ((7, 76), (8, 26)), ((7, 79), (8, 27)), ((7, 82), (8, 28)), ((7, 85), (8, 29)), ((7, 140), (8, 30)), ((7, 88), (8, 31)), ((7, 91), (8, 32)), ((7, 94), (8, 33)), ((7, 97), (8, 34)), ((7, 100), (8, 35)), ((7, 103), (8, 36)), ((7, 106), (8, 37)), ((7, 176), (8, 38)), ((7, 109), (8, 39)), ((7, 112), (8, 40)), ((7, 186), (8, 41)), ((7, 197), (8, 42)), ((7, 189), (8, 43)), ((7, 200), (8, 44)), ((7, 269), (8, 45)), ((7, 272), (8, 46)), ((7, 275), (8, 47))]
set_option maxRecDepth 100000 in
theorem vF3_eq : mk [180, 0, 0, 0, 0, 0, 0, 0, 0, 0, 0, 0, 0, 0, 0, 0, 0, 0, 0, 0, 0, 0, 0, 0, 0, 0, 0, 0, 0, 0, 0, 0, 0, 0, 0, 0, 0, 0, 0, 0, 0, 0, 0, 0, 0, 0, 0, 0] tables_1_3 = vF3.map wF := rfl
theorem vF3_in : ∀ q ∈ vF3, wF q ∈ tables_1 := fun q hq => by
  have h : wF q ∈ tables_1_3 := mk_sub _ [180, 0, 0, 0, 0, 0, 0, 0, 0, 0, 0, 0, 0, 0, 0, 0, 0, 0, 0, 0, 0, 0, 0, 0, 0, 0, 0, 0, 0, 0, 0, 0, 0, 0, 0, 0, 0, 0, 0, 0, 0, 0, 0, 0, 0, 0, 0, 0] _ (by rw [vF3_eq]; exact List.mem_map.mpr ⟨q, hq, rfl⟩)
  exact List.mem_append_right _ (List.mem_append_right _ (List.mem_append_left _ h))
def vF : List ((Nat × Nat) × (Nat × Nat)) := vF1 ++ (vF2 ++ (vF3))
theorem vF_in : ∀ q ∈ vF, wF q ∈ tables_1 := List.forall_mem_append.mpr ⟨vF1_in, List.forall_mem_append.mpr ⟨vF2_in, vF3_in⟩⟩
def wM (q : (Nat × Nat) × (Nat × Nat)) : Cond := .methodLink (cn q.1.1) q.1.2 (yt q.2.1)
def vM1 : List ((Nat × Nat) × (Nat × Nat)) := [((8, 9), (37, 0)), ((6, 3), (9999, 0)), ((2, 3), (9999, 0)), ((1, 3), (9999, 0)), ((4, 3), (9999, 0)), ((8, 13), (38, 2)), ((6, 43), (42, 1)), ((6, 47), (41, 2)), ((6, 55), (22, 3)), ((5, 3), (9999, 0)), ((8, 18), (39, 1)), ((8, 23), (40, 1)), ((8, 27), (45, 2)), ((6, 64), (43, 1)), ((6, 68), (44, 0)), ((6, 72), (6, 0)), ((6, 76), (34, 2)), ((5, 61), (32, 1)), ((5, 55), (167, 2)), ((5, 64), (31, 3)), ((5, 47), (29, 1)), ((5, 51), (30, 3)), ((5, 39), (26, 1)), ((6, 80), (7, 2)), ((6, 84), (11, 2)), ((2, 26), (12, 7))]
set_option maxRecDepth 100000 in
theorem vM1_eq : mk [12, 2, 11, 24, 5, 62, 3, 3, 4, 2, 41, 4, 3, 3, 3, 3, 3, 3, 3, 2, 3, 3, 3, 3, 3, 3] tables_1_1 = vM1.map wM := rfl
theorem vM1_in : ∀ q ∈ vM1, wM q ∈ tables_1 := fun q hq => by
  have h : wM q ∈ tables_1_1 := mk_sub _ [12, 2, 11, 24, 5, 62, 3, 3, 4, 2, 41, 4, 3, 3, 3, 3, 3, 3, 3, 2, 3, 3, 3, 3, 3, 3] _ (by rw [vM1_eq]; exact List.mem_map.mpr ⟨q, hq, rfl⟩)
  exact List.mem_append_left _ h
def vM2 : List ((Nat × Nat) × (Nat × Nat)) := [((3, 1), (9999, 0)), ((8, 31), (46, 1)), ((6, 87), (48, 2)), ((6, 109), (27, 2)), ((6, 113), (50, 4)), ((6, 133), (12, 7)), ((6, 91), (49, 1)), ((6, 129), (21, 3)), ((4, 27), (20, 2)), ((4, 23), (16, 1)), ((6, 95), (51, 0)), ((6, 147), (78, 2)), ((6, 153), (35, 0)), ((5, 43), (27, 2)), ((8, 35), (47, 2)), ((6, 105), (32, 1)), ((8, 39), (52, 2)), ((6, 156), (57, 5)), ((6, 163), (58, 1)), ((6, 166), (0, 5)), ((0, 3), (9999, 0)), ((6, 169), (10, 2)), ((8, 43), (53, 3)), ((8, 48), (54, 3)), ((8, 54), (55, 3)), ((8, 59), (56, 2)), ((8, 63), (60, 2)), ((6, 179), (59, 1)), ((6, 195), (168, 2)), ((8, 67), (61, 2)), ((8, 71), (62, 2)), ((8, 75), (63, 1)), ((8, 80), (64, 1)), ((6, 214), (9, 1)), ((6, 218), (67, 1)), ((6, 222), (69, 1)), ((6, 248), (13, 1)), ((2, 55), (9, 1)), ((6, 254), (70, 2)), ((6, 261), (1, 1)), ((6, 264), (23, 0)), ((6, 273), (36, 1)), ((5, 78), (23, 0))]
set_option maxRecDepth 100000 in
theorem vM2_eq : mk [7, 29, 3, 3, 3, 3, 0, 3, 3, 3, 3, 3, 3, 3, 0, 3, 0, 3, 3, 4, 2, 54, 3, 3, 3, 3, 3, 3, 3, 2, 3, 3, 3, 3, 3, 3, 3, 3, 0, 3, 3, 3, 3] tables_1_2 = vM2.map wM := rfl
theorem vM2_in : ∀ q ∈ vM2, wM q ∈ tables_1 := fun q hq => by
  have h : wM q ∈ tables_1_2 := mk_sub _ [7, 29, 3, 3, 3, 3, 0, 3, 3, 3, 3, 3, 3, 3, 0, 3, 0, 3, 3, 4, 2, 54, 3, 3, 3, 3, 3, 3, 3, 2, 3, 3, 3, 3, 3, 3, 3, 3, 0, 3, 3, 3, 3] _ (by rw [vM2_eq]; exact List.mem_map.mpr ⟨q, hq, rfl⟩)
  exact List.mem_append_right _ (List.mem_append_left _ h)
def vM3 : List ((Nat × Nat) × (Nat × Nat)) := [((6, 276), (71, 2)), ((6, 280), (4, 0)), ((0, 54), (3, 1)), ((6, 283), (3, 1)), ((6, 286), (20, 2)), ((6, 290), (72, 2)), ((6, 297), (17, 1)), ((6, 300), (16, 1)), ((6, 303), (19, 1)), ((6, 294), (73, 2)), ((6, 310), (2, 1)), ((6, 257), (74, 1)), ((6, 313), (75, 2)), ((6, 339), (76, 2)), ((6, 322), (77, 2)), ((6, 328), (81, 4)), ((6, 350), (26, 1)), ((6, 353), (28, 1)), ((6, 356), (29, 1)), ((6, 359), (30, 3)), ((6, 331), (79, 4)), ((6, 342), (24, 2)), ((6, 346), (80, 4)), ((6, 335), (31, 3)), ((8, 84), (65, 1)), ((6, 226), (68, 0)), ((8, 88), (66, 2)), ((8, 92), (82, 2)), ((6, 363), (33, 0)), ((8, 96), (83, 1)), ((8, 100), (84, 3)), ((6, 366), (95, 1)), ((6, 369), (94, 1)), ((8, 104), (85, 2)), ((6, 373), (18, 1)), ((8, 108), (86, 2)), ((8, 113), (87, 1)), ((8, 117), (88, 3)), ((6, 376), (96, 3)), ((6, 380), (97, 3)), ((8, 121), (89, 0)), ((6, 384), (90, 1)), ((6, 387), (100, 2)), ((6, 411), (99, 2)), ((6, 407), (98, 3)), ((6, 404), (25, 2)), ((8, 126), (90, 1)), ((8, 130), (91, 0)), ((6, 391), (101, 2)), ((6, 394), (167, 2)), ((8, 134), (92, 1)), ((6, 397), (93, 1)), ((8, 12), (102, 0)), ((7, 1), (9999, 0))]
set_option maxRecDepth 100000 in
theorem vM3_eq : mk [0, 2, 3, 3, 0, 0, 2, 3, 0, 3, 2, 3, 3, 3, 3, 3, 3, 0, 3, 0, 0, 3, 3, 3, 0, 3, 3, 3, 3, 3, 3, 3, 2, 2, 3, 3, 3, 3, 3, 2, 3, 3, 3, 3, 3, 3, 3, 0, 3, 2, 0, 3, 5, 2] tables_1_3 = vM3.map wM := rfl
theorem vM3_in : ∀ q ∈ vM3, wM q ∈ tables_1 := fun q hq => by
  have h : wM q ∈ tables_1_3 := mk_sub _ [0, 2, 3, 3, 0, 0, 2, 3, 0, 3, 2, 3, 3, 3, 3, 3, 3, 0, 3, 0, 0, 3, 3, 3, 0, 3, 3, 3, 3, 3, 3, 3, 2, 2, 3, 3, 3, 3, 3, 2, 3, 3, 3, 3, 3, 3, 3, 0, 3, 2, 0, 3, 5, 2] _ (by rw [vM3_eq]; exact List.mem_map.mpr ⟨q, hq, rfl⟩)
  exact List.mem_append_right _ (List.mem_append_right _ (List.mem_append_left _ h))
def vM4 : List ((Nat × Nat) × (Nat × Nat)) := [((8, 17), (109, 2)), ((7, 126), (105, 1)), ((7, 118), (103, 3)), ((7, 132), (106, 2)), ((7, 122), (107, 2)), ((8, 22), (110, 1)), ((8, 26), (111, 1)), ((8, 30), (134, 2)), ((7, 203), (104, 1)), ((7, 206), (133, 0)), ((7, 209), (108, 4)), ((7, 159), (119, 7)), ((8, 34), (135, 1)), ((7, 213), (127, 2)), ((7, 146), (112, 2)), ((7, 143), (113, 2)), ((7, 216), (132, 0)), ((7, 193), (124, 0)), ((7, 173), (125, 2)), ((8, 38), (136, 2)), ((8, 42), (138, 2)), ((7, 225), (137, 5)), ((8, 47), (139, 3)), ((8, 51), (140, 3)), ((8, 58), (141, 3)), ((8, 62), (142, 2)), ((8, 66), (144, 2)), ((7, 229), (143, 1)), ((8, 70), (145, 2)), ((8, 74), (146, 2)), ((8, 79), (147, 1)), ((8, 83), (150, 1)), ((7, 256), (148, 1)), ((7, 259), (149, 1)), ((7, 234), (120, 1)), ((7, 238), (128, 2)), ((7, 149), (121, 2)), ((7, 179), (117, 2)), ((7, 241), (129, 1))]
set_option maxRecDepth 100000 in
theorem vM4_eq : mk [85, 3, 4, 2, 3, 3, 4, 3, 3, 3, 3, 3, 3, 3, 3, 3, 3, 3, 3, 3, 3, 3, 3, 3, 3, 3, 3, 3, 3, 4, 3, 3, 3, 3, 3, 3, 3, 3, 3] tables_1_4 = vM4.map wM := rfl
theorem vM4_in : ∀ q ∈ vM4, wM q ∈ tables_1 := fun q hq => by
  have h : wM q ∈ tables_1_4 := mk_sub _ [85, 3, 4, 2, 3, 3, 4, 3, 3, 3, 3, 3, 3, 3, 3, 3, 3, 3, 3, 3, 3, 3, 3, 3, 3, 3, 3, 3, 3, 4, 3, 3, 3, 3, 3, 3, 3, 3, 3] _ (by rw [vM4_eq]; exact List.mem_map.mpr ⟨q, hq, rfl⟩)
  exact List.mem_append_right _ (List.mem_append_right _ (List.mem_append_right _ (List.mem_append_left _ h)))
def vM5 : List ((Nat × Nat) × (Nat × Nat)) := [((7, 166), (115, 3)), ((7, 244), (126, 2)), ((7, 247), (130, 4)), ((7, 250), (131, 4)), ((7, 182), (114, 3)), ((7, 253), (122, 2)), ((7, 156), (118, 2)), ((7, 163), (123, 2)), ((7, 170), (116, 2)), ((8, 87), (152, 1)), ((7, 264), (151, 0)), ((8, 91), (153, 2)), ((8, 95), (154, 2)), ((8, 99), (155, 1)), ((8, 103), (156, 3)), ((8, 107), (157, 2)), ((8, 112), (158, 2)), ((8, 116), (159, 1)), ((8, 120), (161, 3)), ((8, 125), (163, 0)), ((7, 282), (162, 0)), ((7, 278), (160, 3)), ((8, 129), (164, 1)), ((8, 133), (165, 0)), ((8, 137), (166, 1))]
set_option maxRecDepth 100000 in
theorem vM5_eq : mk [3, 3, 3, 3, 3, 3, 3, 3, 3, 3, 4, 3, 3, 3, 3, 4, 3, 3, 3, 3, 3, 3, 3, 4, 3] tables_1_5 = vM5.map wM := rfl
theorem vM5_in : ∀ q ∈ vM5, wM q ∈ tables_1 := fun q hq => by
  have h : wM q ∈ tables_1_5 := mk_sub _ [3, 3, 3, 3, 3, 3, 3, 3, 3, 3, 4, 3, 3, 3, 3, 4, 3, 3, 3, 3, 3, 3, 3, 4, 3] _ (by rw [vM5_eq]; exact List.mem_map.mpr ⟨q, hq, rfl⟩)
  exact List.mem_append_right _ (List.mem_append_right _ (List.mem_append_right _ (List.mem_append_right _ h)))
def vM : List ((Nat × Nat) × (Nat × Nat)) := vM1 ++ (vM2 ++ (vM3 ++ (vM4 ++ (vM5))))
theorem vM_in : ∀ q ∈ vM, wM q ∈ tables_1 := List.forall_mem_append.mpr ⟨vM1_in, List.forall_mem_append.mpr ⟨vM2_in, List.forall_mem_append.mpr ⟨vM3_in, List.forall_mem_append.mpr ⟨vM4_in, vM5_in⟩⟩⟩⟩
def wC (q : (Nat × Nat) × Nat) : Cond := .classLink (cn q.1.1) q.1.2 (cn (q.2 - 1))
def vC1 : List ((Nat × Nat) × Nat) := [((8, 7), 7), ((6, 9), 6), ((6, 15), 1), ((6, 25), 3), ((2, 9), 4), ((6, 32), 2), ((1, 15), 5), ((5, 10), 6), ((5, 23), 5)]
set_option maxRecDepth 100000 in
theorem vC1_eq : mk [10, 7, 1, 1, 5, 18, 5, 84, 0] tables_1_1 = vC1.map wC := rfl
theorem vC1_in : ∀ q ∈ vC1, wC q ∈ tables_1 := fun q hq => by
  have h : wC q ∈ tables_1_1 := mk_sub _ [10, 7, 1, 1, 5, 18, 5, 84, 0] _ (by rw [vC1_eq]; exact List.mem_map.mpr ⟨q, hq, rfl⟩)
  exact List.mem_append_left _ h
def vC3 : List ((Nat × Nat) × Nat) := [((8, 10), 8)]
set_option maxRecDepth 100000 in
theorem vC3_eq : mk [174] tables_1_3 = vC3.map wC := rfl
theorem vC3_in : ∀ q ∈ vC3, wC q ∈ tables_1 := fun q hq => by
  have h : wC q ∈ tables_1_3 := mk_sub _ [174] _ (by rw [vC3_eq]; exact List.mem_map.mpr ⟨q, hq, rfl⟩)
  exact List.mem_append_right _ (List.mem_append_right _ (List.mem_append_left _ h))
def vC : List ((Nat × Nat) × Nat) := vC1 ++ (vC3)
theorem vC_in : ∀ q ∈ vC, wC q ∈ tables_1 := List.forall_mem_append.mpr ⟨vC1_in, vC3_in⟩
def wc (q : (Nat × Nat) × Int32) : Cond := .constant (cn q.1.1) q.1.2 q.2
def vc1 : List ((Nat × Nat) × Int32) := [((6, 51), 1103515245)]
set_option maxRecDepth 100000 in
theorem vc1_eq : mk [183] tables_1_1 = vc1.map wc := rfl
theorem vc1_in : ∀ q ∈ vc1, wc q ∈ tables_1 := fun q hq => by
  have h : wc q ∈ tables_1_1 := mk_sub _ [183] _ (by rw [vc1_eq]; exact List.mem_map.mpr ⟨q, hq, rfl⟩)
  exact List.mem_append_left _ h
def vc4 : List ((Nat × Nat) × Int32) := [((7, 136), 1103515245)]
set_option maxRecDepth 100000 in
theorem vc4_eq : mk [109] tables_1_4 = vc4.map wc := rfl
theorem vc4_in : ∀ q ∈ vc4, wc q ∈ tables_1 := fun q hq => by
  have h : wc q ∈ tables_1_4 := mk_sub _ [109] _ (by rw [vc4_eq]; exact List.mem_map.mpr ⟨q, hq, rfl⟩)
  exact List.mem_append_right _ (List.mem_append_right _ (List.mem_append_right _ (List.mem_append_left _ h)))
def vc : List ((Nat × Nat) × Int32) := vc1 ++ (vc4)
theorem vc_in : ∀ q ∈ vc, wc q ∈ tables_1 := List.forall_mem_append.mpr ⟨vc1_in, vc4_in⟩
def wL (q : (Nat × Nat) × Int64) : Cond := .constantLong (cn q.1.1) q.1.2 q.2
def vL4 : List ((Nat × Nat) × Int64) := [((7, 130), 255), ((7, 232), 39)]
set_option maxRecDepth 100000 in
theorem vL4_eq : mk [93, 108] tables_1_4 = vL4.map wL := rfl
theorem vL4_in : ∀ q ∈ vL4, wL q ∈ tables_1 := fun q hq => by
  have h : wL q ∈ tables_1_4 := mk_sub _ [93, 108] _ (by rw [vL4_eq]; exact List.mem_map.mpr ⟨q, hq, rfl⟩)
  exact List.mem_append_right _ (List.mem_append_right _ (List.mem_append_right _ (List.mem_append_left _ h)))
def vL5 : List ((Nat × Nat) × Int64) := [((7, 262), 1000), ((7, 267), 8), ((7, 285), 2), ((8, 52), 4294967295)]
set_option maxRecDepth 100000 in
theorem vL5_eq : mk [43, 20, 32, 8] tables_1_5 = vL5.map wL := rfl
theorem vL5_in : ∀ q ∈ vL5, wL q ∈ tables_1 := fun q hq => by
  have h : wL q ∈ tables_1_5 := mk_sub _ [43, 20, 32, 8] _ (by rw [vL5_eq]; exact List.mem_map.mpr ⟨q, hq, rfl⟩)
  exact List.mem_append_right _ (List.mem_append_right _ (List.mem_append_right _ (List.mem_append_right _ h)))
def vL : List ((Nat × Nat) × Int64) := vL4 ++ (vL5)
theorem vL_in : ∀ q ∈ vL, wL q ∈ tables_1 := List.forall_mem_append.mpr ⟨vL4_in, vL5_in⟩
def wK (q : Nat) : Cond := .code (mt q).1 (mt q).2.1 (mt q).2.2.2.1 (mt q).2.2.2.2.1
def vK1 : List (Nat) := [37, 8, 5, 15, 38, 42, 41, 22, 39, 40, 45, 43, 44, 6, 34, 32, 167, 31, 29, 30, 26, 7, 11]
set_option maxRecDepth 100000 in
theorem vK1_eq : mk [14, 11, 24, 5, 66, 3, 3, 3, 45, 4, 3, 3, 3, 3, 3, 3, 2, 3, 3, 3, 3, 3, 3] tables_1_1 = vK1.map wK := rfl
theorem vK1_in : ∀ q ∈ vK1, wK q ∈ tables_1 := fun q hq => by
  have h : wK q ∈ tables_1_1 := mk_sub _ [14, 11, 24, 5, 66, 3, 3, 3, 45, 4, 3, 3, 3, 3, 3, 3, 2, 3, 3, 3, 3, 3, 3] _ (by rw [vK1_eq]; exact List.mem_map.mpr ⟨q, hq, rfl⟩)
  exact List.mem_append_left _ h
def vK2 : List (Nat) := [12, 14, 46, 48, 27, 50, 49, 21, 20, 16, 51, 78, 35, 47, 52, 57, 58, 0, 10, 53, 54, 55, 56, 60, 59, 168, 61, 62, 63, 64, 9, 67, 69, 13, 70, 1, 23, 36]
set_option maxRecDepth 100000 in
theorem vK2_eq : mk [2, 3, 33, 3, 3, 3, 4, 3, 3, 3, 3, 3, 3, 4, 4, 3, 3, 3, 58, 3, 3, 3, 3, 3, 3, 2, 3, 3, 3, 3, 3, 3, 3, 3, 4, 3, 3, 3] tables_1_2 = vK2.map wK := rfl
theorem vK2_in : ∀ q ∈ vK2, wK q ∈ tables_1 := fun q hq => by
  have h : wK q ∈ tables_1_2 := mk_sub _ [2, 3, 33, 3, 3, 3, 4, 3, 3, 3, 3, 3, 3, 4, 4, 3, 3, 3, 58, 3, 3, 3, 3, 3, 3, 2, 3, 3, 3, 3, 3, 3, 3, 3, 4, 3, 3, 3] _ (by rw [vK2_eq]; exact List.mem_map.mpr ⟨q, hq, rfl⟩)
  exact List.mem_append_right _ (List.mem_append_left _ h)
def vK3 : List (Nat) := [71, 4, 3, 72, 17, 19, 73, 2, 74, 75, 76, 77, 81, 28, 79, 24, 80, 65, 68, 66, 82, 33, 83, 84, 95, 94, 85, 18, 86, 87, 88, 96, 97, 89, 90, 100, 99, 98, 25, 91, 101, 92, 93, 102]
set_option maxRecDepth 100000 in
theorem vK3_eq : mk [2, 3, 3, 4, 3, 4, 2, 3, 3, 3, 3, 3, 3, 4, 5, 3, 3, 4, 3, 3, 3, 3, 3, 3, 2, 2, 3, 3, 3, 3, 3, 2, 3, 3, 3, 3, 3, 3, 3, 4, 2, 4, 3, 4] tables_1_3 = vK3.map wK := rfl
theorem vK3_in : ∀ q ∈ vK3, wK q ∈ tables_1 := fun q hq => by
  have h : wK q ∈ tables_1_3 := mk_sub _ [2, 3, 3, 4, 3, 4, 2, 3, 3, 3, 3, 3, 3, 4, 5, 3, 3, 4, 3, 3, 3, 3, 3, 3, 2, 2, 3, 3, 3, 3, 3, 2, 3, 3, 3, 3, 3, 3, 3, 4, 2, 4, 3, 4] _ (by rw [vK3_eq]; exact List.mem_map.mpr ⟨q, hq, rfl⟩)
  exact List.mem_append_right _ (List.mem_append_right _ (List.mem_append_left _ h))
def vK4 : List (Nat) := [109, 105, 103, 106, 107, 110, 111, 134, 104, 133, 108, 119, 135, 127, 112, 113, 132, 124, 125, 136, 138, 137, 139, 140, 141, 142, 144, 143, 145, 146, 147, 150, 148, 149, 120, 128, 121, 117]
set_option maxRecDepth 100000 in
theorem vK4_eq : mk [88, 3, 3, 3, 3, 3, 4, 3, 3, 3, 3, 3, 3, 3, 3, 3, 3, 3, 3, 3, 3, 3, 3, 3, 3, 3, 3, 3, 3, 4, 3, 3, 3, 3, 3, 3, 3, 3] tables_1_4 = vK4.map wK := rfl
theorem vK4_in : ∀ q ∈ vK4, wK q ∈ tables_1 := fun q hq => by
  have h : wK q ∈ tables_1_4 := mk_sub _ [88, 3, 3, 3, 3, 3, 4, 3, 3, 3, 3, 3, 3, 3, 3, 3, 3, 3, 3, 3, 3, 3, 3, 3, 3, 3, 3, 3, 3, 4, 3, 3, 3, 3, 3, 3, 3, 3] _ (by rw [vK4_eq]; exact List.mem_map.mpr ⟨q, hq, rfl⟩)
  exact List.mem_append_right _ (List.mem_append_right _ (List.mem_append_right _ (List.mem_append_left _ h)))
def vK5 : List (Nat) := [129, 115, 126, 130, 131, 114, 122, 118, 123, 116, 152, 151, 153, 154, 155, 156, 157, 158, 159, 161, 163, 162, 160, 164, 165, 166]
set_option maxRecDepth 100000 in
theorem vK5_eq : mk [2, 3, 3, 3, 3, 3, 3, 3, 3, 3, 3, 4, 3, 3, 3, 3, 4, 3, 3, 3, 3, 3, 3, 3, 4, 3] tables_1_5 = vK5.map wK := rfl
theorem vK5_in : ∀ q ∈ vK5, wK q ∈ tables_1 := fun q hq => by
  have h : wK q ∈ tables_1_5 := mk_sub _ [2, 3, 3, 3, 3, 3, 3, 3, 3, 3, 3, 4, 3, 3, 3, 3, 4, 3, 3, 3, 3, 3, 3, 3, 4, 3] _ (by rw [vK5_eq]; exact List.mem_map.mpr ⟨q, hq, rfl⟩)
  exact List.mem_append_right _ (List.mem_append_right _ (List.mem_append_right _ (List.mem_append_right _ h)))
def vK : List (Nat) := vK1 ++ (vK2 ++ (vK3 ++ (vK4 ++ (vK5))))
theorem vK_in : ∀ q ∈ vK, wK q ∈ tables_1 := List.forall_mem_append.mpr ⟨vK1_in, List.forall_mem_append.mpr ⟨vK2_in, List.forall_mem_append.mpr ⟨vK3_in, List.forall_mem_append.mpr ⟨vK4_in, vK5_in⟩⟩⟩⟩
def wI (q : Nat) : Cond := .instanceMethod (mt q).1
def vI1 : List (Nat) := [37, 8, 5, 15, 38, 42, 41, 22, 39, 40, 45, 43, 44, 6, 34, 32, 31, 29, 30, 26, 7, 11]
set_option maxRecDepth 100000 in
theorem vI1_eq : mk [13, 11, 24, 5, 65, 4, 3, 3, 44, 4, 3, 4, 3, 2, 3, 3, 6, 3, 3, 3, 3, 3] tables_1_1 = vI1.map wI := rfl
theorem vI1_in : ∀ q ∈ vI1, wI q ∈ tables_1 := fun q hq => by
  have h : wI q ∈ tables_1_1 := mk_sub _ [13, 11, 24, 5, 65, 4, 3, 3, 44, 4, 3, 4, 3, 2, 3, 3, 6, 3, 3, 3, 3, 3] _ (by rw [vI1_eq]; exact List.mem_map.mpr ⟨q, hq, rfl⟩)
  exact List.mem_append_left _ h
def vI2 : List (Nat) := [12, 14, 46, 48, 27, 50, 49, 21, 20, 16, 51, 78, 35, 47, 52, 57, 58, 0, 10, 53, 54, 55, 56, 60, 59, 61, 62, 63, 64, 9, 67, 69, 13, 70, 1, 23, 36]
set_option maxRecDepth 100000 in
theorem vI2_eq : mk [0, 4, 32, 4, 2, 4, 4, 2, 3, 3, 4, 3, 2, 4, 4, 4, 3, 3, 57, 3, 3, 3, 3, 3, 4, 5, 3, 3, 3, 3, 4, 3, 2, 5, 2, 3, 3] tables_1_2 = vI2.map wI := rfl
theorem vI2_in : ∀ q ∈ vI2, wI q ∈ tables_1 := fun q hq => by
  have h : wI q ∈ tables_1_2 := mk_sub _ [0, 4, 32, 4, 2, 4, 4, 2, 3, 3, 4, 3, 2, 4, 4, 4, 3, 3, 57, 3, 3, 3, 3, 3, 4, 5, 3, 3, 3, 3, 4, 3, 2, 5, 2, 3, 3] _ (by rw [vI2_eq]; exact List.mem_map.mpr ⟨q, hq, rfl⟩)
  exact List.mem_append_right _ (List.mem_append_left _ h)
def vI3 : List (Nat) := [4, 3, 17, 19, 2, 74, 75, 76, 77, 81, 28, 79, 24, 80, 65, 68, 66, 82, 33, 83, 84, 85, 18, 86, 87, 88, 97, 89, 90, 100, 99, 98, 25, 91, 92, 93, 102]
set_option maxRecDepth 100000 in
theorem vI3_eq : mk [4, 3, 8, 4, 6, 4, 3, 3, 3, 3, 3, 6, 2, 4, 3, 4, 2, 3, 3, 3, 3, 9, 3, 3, 3, 3, 7, 2, 3, 4, 3, 3, 2, 4, 7, 4, 4] tables_1_3 = vI3.map wI := rfl
theorem vI3_in : ∀ q ∈ vI3, wI q ∈ tables_1 := fun q hq => by
  have h : wI q ∈ tables_1_3 := mk_sub _ [4, 3, 8, 4, 6, 4, 3, 3, 3, 3, 3, 6, 2, 4, 3, 4, 2, 3, 3, 3, 3, 9, 3, 3, 3, 3, 7, 2, 3, 4, 3, 3, 2, 4, 7, 4, 4] _ (by rw [vI3_eq]; exact List.mem_map.mpr ⟨q, hq, rfl⟩)
  exact List.mem_append_right _ (List.mem_append_right _ (List.mem_append_left _ h))
def vI4 : List (Nat) := [109, 105, 106, 107, 110, 111, 134, 104, 133, 108, 119, 135, 127, 112, 113, 132, 124, 125, 136, 138, 137, 139, 140, 141, 142, 144, 143, 145, 146, 147, 150, 148, 149, 120, 128, 121, 117]
set_option maxRecDepth 100000 in
theorem vI4_eq : mk [86, 4, 7, 3, 2, 4, 3, 4, 3, 3, 3, 2, 4, 3, 3, 3, 3, 3, 2, 3, 4, 2, 3, 3, 3, 3, 4, 2, 4, 3, 3, 4, 3, 3, 3, 3, 3] tables_1_4 = vI4.map wI := rfl
theorem vI4_in : ∀ q ∈ vI4, wI q ∈ tables_1 := fun q hq => by
  have h : wI q ∈ tables_1_4 := mk_sub _ [86, 4, 7, 3, 2, 4, 3, 4, 3, 3, 3, 2, 4, 3, 3, 3, 3, 3, 2, 3, 4, 2, 3, 3, 3, 3, 4, 2, 4, 3, 3, 4, 3, 3, 3, 3, 3] _ (by rw [vI4_eq]; exact List.mem_map.mpr ⟨q, hq, rfl⟩)
  exact List.mem_append_right _ (List.mem_append_right _ (List.mem_append_right _ (List.mem_append_left _ h)))
def vI5 : List (Nat) := [129, 115, 126, 130, 131, 114, 122, 118, 123, 116, 152, 151, 153, 154, 155, 156, 157, 158, 159, 161, 163, 162, 160, 164, 165, 166]
set_option maxRecDepth 100000 in
theorem vI5_eq : mk [1, 3, 3, 3, 3, 3, 3, 3, 3, 3, 2, 5, 2, 3, 3, 3, 4, 3, 3, 3, 3, 4, 3, 2, 4, 3] tables_1_5 = vI5.map wI := rfl
theorem vI5_in : ∀ q ∈ vI5, wI q ∈ tables_1 := fun q hq => by
  have h : wI q ∈ tables_1_5 := mk_sub _ [1, 3, 3, 3, 3, 3, 3, 3, 3, 3, 2, 5, 2, 3, 3, 3, 4, 3, 3, 3, 3, 4, 3, 2, 4, 3] _ (by rw [vI5_eq]; exact List.mem_map.mpr ⟨q, hq, rfl⟩)
  exact List.mem_append_right _ (List.mem_append_right _ (List.mem_append_right _ (List.mem_append_right _ h)))
def vI : List (Nat) := vI1 ++ (vI2 ++ (vI3 ++ (vI4 ++ (vI5))))
theorem vI_in : ∀ q ∈ vI, wI q ∈ tables_1 := List.forall_mem_append.mpr ⟨vI1_in, List.forall_mem_append.mpr ⟨vI2_in, List.forall_mem_append.mpr ⟨vI3_in, List.forall_mem_append.mpr ⟨vI4_in, vI5_in⟩⟩⟩⟩
def wT (q : Nat) : Cond := .static (mt q).1
def vT1 : List (Nat) := [167]
set_option maxRecDepth 100000 in
theorem vT1_eq : mk [213] tables_1_1 = vT1.map wT := rfl
theorem vT1_in : ∀ q ∈ vT1, wT q ∈ tables_1 := fun q hq => by
  have h : wT q ∈ tables_1_1 := mk_sub _ [213] _ (by rw [vT1_eq]; exact List.mem_map.mpr ⟨q, hq, rfl⟩)
  exact List.mem_append_left _ h
def vT2 : List (Nat) := [168]
set_option maxRecDepth 100000 in
theorem vT2_eq : mk [188] tables_1_2 = vT2.map wT := rfl
theorem vT2_in : ∀ q ∈ vT2, wT q ∈ tables_1 := fun q hq => by
  have h : wT q ∈ tables_1_2 := mk_sub _ [188] _ (by rw [vT2_eq]; exact List.mem_map.mpr ⟨q, hq, rfl⟩)
  exact List.mem_append_right _ (List.mem_append_left _ h)
def vT3 : List (Nat) := [71, 72, 73, 95, 94, 96, 101]
set_option maxRecDepth 100000 in
theorem vT3_eq : mk [1, 12, 11, 74, 2, 22, 35] tables_1_3 = vT3.map wT := rfl
theorem vT3_in : ∀ q ∈ vT3, wT q ∈ tables_1 := fun q hq => by
  have h : wT q ∈ tables_1_3 := mk_sub _ [1, 12, 11, 74, 2, 22, 35] _ (by rw [vT3_eq]; exact List.mem_map.mpr ⟨q, hq, rfl⟩)
  exact List.mem_append_right _ (List.mem_append_right _ (List.mem_append_left _ h))
def vT4 : List (Nat) := [103]
set_option maxRecDepth 100000 in
theorem vT4_eq : mk [95] tables_1_4 = vT4.map wT := rfl
theorem vT4_in : ∀ q ∈ vT4, wT q ∈ tables_1 := fun q hq => by
  have h : wT q ∈ tables_1_4 := mk_sub _ [95] _ (by rw [vT4_eq]; exact List.mem_map.mpr ⟨q, hq, rfl⟩)
  exact List.mem_append_right _ (List.mem_append_right _ (List.mem_append_right _ (List.mem_append_left _ h)))
def vT : List (Nat) := vT1 ++ (vT2 ++ (vT3 ++ (vT4)))
theorem vT_in : ∀ q ∈ vT, wT q ∈ tables_1 := List.forall_mem_append.mpr ⟨vT1_in, List.forall_mem_append.mpr ⟨vT2_in, List.forall_mem_append.mpr ⟨vT3_in, vT4_in⟩⟩⟩
def wS (q : Nat) : Cond := .selects (mt q).1.cls (mt q).1 (mt q).1
def vS1 : List (Nat) := [38, 39, 40, 45, 6, 34, 32, 31, 29, 30, 26, 7, 11]
set_option maxRecDepth 100000 in
theorem vS1_eq : mk [123, 57, 4, 3, 11, 3, 3, 6, 3, 3, 3, 3, 3] tables_1_1 = vS1.map wS := rfl
theorem vS1_in : ∀ q ∈ vS1, wS q ∈ tables_1 := fun q hq => by
  have h : wS q ∈ tables_1_1 := mk_sub _ [123, 57, 4, 3, 11, 3, 3, 6, 3, 3, 3, 3, 3] _ (by rw [vS1_eq]; exact List.mem_map.mpr ⟨q, hq, rfl⟩)
  exact List.mem_append_left _ h
def vS2 : List (Nat) := [12, 46, 27, 21, 20, 16, 35, 47, 52, 10, 53, 54, 55, 56, 60, 61, 62, 63, 64, 9, 13, 1, 23, 36]
set_option maxRecDepth 100000 in
theorem vS2_eq : mk [1, 37, 7, 12, 3, 3, 11, 4, 4, 70, 3, 3, 3, 3, 3, 10, 3, 3, 3, 3, 11, 8, 3, 3] tables_1_2 = vS2.map wS := rfl
theorem vS2_in : ∀ q ∈ vS2, wS q ∈ tables_1 := fun q hq => by
  have h : wS q ∈ tables_1_2 := mk_sub _ [1, 37, 7, 12, 3, 3, 11, 4, 4, 70, 3, 3, 3, 3, 3, 10, 3, 3, 3, 3, 11, 8, 3, 3] _ (by rw [vS2_eq]; exact List.mem_map.mpr ⟨q, hq, rfl⟩)
  exact List.mem_append_right _ (List.mem_append_left _ h)
def vS3 : List (Nat) := [4, 3, 17, 19, 2, 28, 24, 65, 66, 82, 33, 83, 84, 85, 18, 86, 87, 88, 89, 90, 25, 91, 92]
set_option maxRecDepth 100000 in
theorem vS3_eq : mk [5, 3, 8, 4, 6, 24, 9, 8, 7, 3, 3, 3, 3, 9, 3, 3, 3, 3, 10, 3, 15, 4, 7] tables_1_3 = vS3.map wS := rfl
theorem vS3_in : ∀ q ∈ vS3, wS q ∈ tables_1 := fun q hq => by
  have h : wS q ∈ tables_1_3 := mk_sub _ [5, 3, 8, 4, 6, 24, 9, 8, 7, 3, 3, 3, 3, 9, 3, 3, 3, 3, 10, 3, 15, 4, 7] _ (by rw [vS3_eq]; exact List.mem_map.mpr ⟨q, hq, rfl⟩)
  exact List.mem_append_right _ (List.mem_append_right _ (List.mem_append_left _ h))
def vS4 : List (Nat) := [109, 110, 111, 134, 135, 136, 138, 139, 140, 141, 142, 144, 145, 146, 147, 150]
set_option maxRecDepth 100000 in
theorem vS4_eq : mk [87, 19, 4, 3, 19, 27, 3, 7, 3, 3, 3, 3, 7, 4, 3, 3] tables_1_4 = vS4.map wS := rfl
theorem vS4_in : ∀ q ∈ vS4, wS q ∈ tables_1 := fun q hq => by
  have h : wS q ∈ tables_1_4 := mk_sub _ [87, 19, 4, 3, 19, 27, 3, 7, 3, 3, 3, 3, 7, 4, 3, 3] _ (by rw [vS4_eq]; exact List.mem_map.mpr ⟨q, hq, rfl⟩)
  exact List.mem_append_right _ (List.mem_append_right _ (List.mem_append_right _ (List.mem_append_left _ h)))
def vS5 : List (Nat) := [152, 153, 154, 155, 156, 157, 158, 159, 161, 163, 164, 165, 166]
set_option maxRecDepth 100000 in
theorem vS5_eq : mk [41, 8, 3, 3, 3, 4, 3, 3, 3, 3, 11, 4, 3] tables_1_5 = vS5.map wS := rfl
theorem vS5_in : ∀ q ∈ vS5, wS q ∈ tables_1 := fun q hq => by
  have h : wS q ∈ tables_1_5 := mk_sub _ [41, 8, 3, 3, 3, 4, 3, 3, 3, 3, 11, 4, 3] _ (by rw [vS5_eq]; exact List.mem_map.mpr ⟨q, hq, rfl⟩)
  exact List.mem_append_right _ (List.mem_append_right _ (List.mem_append_right _ (List.mem_append_right _ h)))
def vS : List (Nat) := vS1 ++ (vS2 ++ (vS3 ++ (vS4 ++ (vS5))))
theorem vS_in : ∀ q ∈ vS, wS q ∈ tables_1 := List.forall_mem_append.mpr ⟨vS1_in, List.forall_mem_append.mpr ⟨vS2_in, List.forall_mem_append.mpr ⟨vS3_in, List.forall_mem_append.mpr ⟨vS4_in, vS5_in⟩⟩⟩⟩
def wN (q : Nat) : Cond := .instantiable (cn q) (NN q)
def vN1 : List (Nat) := [6, 2, 1, 4, 5]
set_option maxRecDepth 100000 in
theorem vN1_eq : mk [11, 11, 24, 5, 78] tables_1_1 = vN1.map wN := rfl
theorem vN1_in : ∀ q ∈ vN1, wN q ∈ tables_1 := fun q hq => by
  have h : wN q ∈ tables_1_1 := mk_sub _ [11, 11, 24, 5, 78] _ (by rw [vN1_eq]; exact List.mem_map.mpr ⟨q, hq, rfl⟩)
  exact List.mem_append_left _ h
def vN2 : List (Nat) := [3, 0]
set_option maxRecDepth 100000 in
theorem vN2_eq : mk [3, 96] tables_1_2 = vN2.map wN := rfl
theorem vN2_in : ∀ q ∈ vN2, wN q ∈ tables_1 := fun q hq => by
  have h : wN q ∈ tables_1_2 := mk_sub _ [3, 96] _ (by rw [vN2_eq]; exact List.mem_map.mpr ⟨q, hq, rfl⟩)
  exact List.mem_append_right _ (List.mem_append_left _ h)
def vN3 : List (Nat) := [7]
set_option maxRecDepth 100000 in
theorem vN3_eq : mk [175] tables_1_3 = vN3.map wN := rfl
theorem vN3_in : ∀ q ∈ vN3, wN q ∈ tables_1 := fun q hq => by
  have h : wN q ∈ tables_1_3 := mk_sub _ [175] _ (by rw [vN3_eq]; exact List.mem_map.mpr ⟨q, hq, rfl⟩)
  exact List.mem_append_right _ (List.mem_append_right _ (List.mem_append_left _ h))
def vN : List (Nat) := vN1 ++ (vN2 ++ (vN3))
theorem vN_in : ∀ q ∈ vN, wN q ∈ tables_1 := List.forall_mem_append.mpr ⟨vN1_in, List.forall_mem_append.mpr ⟨vN2_in, vN3_in⟩⟩
def wZ (q : Nat) : Cond := .initialized (cn q)
def vZ1 : List (Nat) := [8, 6, 2, 1, 4, 7, 5, 9, 3, 0]
set_option maxRecDepth 100000 in
theorem vZ1_eq : mk [0, 0, 0, 0, 0, 0, 0, 0, 0, 0] tables_1_1 = vZ1.map wZ := rfl
theorem vZ1_in : ∀ q ∈ vZ1, wZ q ∈ tables_1 := fun q hq => by
  have h : wZ q ∈ tables_1_1 := mk_sub _ [0, 0, 0, 0, 0, 0, 0, 0, 0, 0] _ (by rw [vZ1_eq]; exact List.mem_map.mpr ⟨q, hq, rfl⟩)
  exact List.mem_append_left _ h
def vZ : List (Nat) := vZ1
theorem vZ_in : ∀ q ∈ vZ, wZ q ∈ tables_1 := vZ1_in
def wA (q : Nat) : Cond := .arrayClass (ft q)
def vA1 : List (Nat) := [0, 3, 1]
set_option maxRecDepth 100000 in
theorem vA1_eq : mk [46, 25, 105] tables_1_1 = vA1.map wA := rfl
theorem vA1_in : ∀ q ∈ vA1, wA q ∈ tables_1 := fun q hq => by
  have h : wA q ∈ tables_1_1 := mk_sub _ [46, 25, 105] _ (by rw [vA1_eq]; exact List.mem_map.mpr ⟨q, hq, rfl⟩)
  exact List.mem_append_left _ h
def vA2 : List (Nat) := [2]
set_option maxRecDepth 100000 in
theorem vA2_eq : mk [158] tables_1_2 = vA2.map wA := rfl
theorem vA2_in : ∀ q ∈ vA2, wA q ∈ tables_1 := fun q hq => by
  have h : wA q ∈ tables_1_2 := mk_sub _ [158] _ (by rw [vA2_eq]; exact List.mem_map.mpr ⟨q, hq, rfl⟩)
  exact List.mem_append_right _ (List.mem_append_left _ h)
def vA : List (Nat) := vA1 ++ (vA2)
theorem vA_in : ∀ q ∈ vA, wA q ∈ tables_1 := List.forall_mem_append.mpr ⟨vA1_in, vA2_in⟩
def wY (q : Nat × Nat) : Cond := u_lay (cn q.1) (TT q.1) q.2
def vY1 : List (Nat × Nat) := [(2, 0), (2, 1), (2, 2), (2, 3), (4, 0), (4, 1), (4, 2), (1, 0), (1, 1), (1, 2), (1, 3), (1, 4), (6, 0), (6, 1), (6, 2), (6, 3), (6, 4), (6, 5), (6, 6), (6, 7), (6, 8), (5, 0), (5, 1), (5, 2), (5, 3), (5, 4), (5, 5), (5, 6), (5, 7), (5, 8), (5, 9)]
set_option maxRecDepth 100000 in
theorem vY1_eq : mk [37, 1, 1, 1, 21, 1, 1, 12, 1, 1, 1, 1, 11, 1, 1, 1, 1, 1, 1, 1, 1, 38, 1, 1, 1, 1, 1, 1, 1, 1, 1] tables_1_1 = vY1.map wY := rfl
theorem vY1_in : ∀ q ∈ vY1, wY q ∈ tables_1 := fun q hq => by
  have h : wY q ∈ tables_1_1 := mk_sub _ [37, 1, 1, 1, 21, 1, 1, 12, 1, 1, 1, 1, 11, 1, 1, 1, 1, 1, 1, 1, 1, 38, 1, 1, 1, 1, 1, 1, 1, 1, 1] _ (by rw [vY1_eq]; exact List.mem_map.mpr ⟨q, hq, rfl⟩)
  exact List.mem_append_left _ h
def vY2 : List (Nat × Nat) := [(3, 0), (3, 1), (3, 2), (3, 3), (3, 4), (3, 5), (3, 6), (0, 0), (0, 1), (0, 2), (0, 3), (0, 4), (0, 5), (0, 6), (0, 7), (0, 8), (0, 9), (0, 10), (0, 11), (0, 12)]
set_option maxRecDepth 100000 in
theorem vY2_eq : mk [22, 1, 1, 1, 1, 1, 1, 96, 1, 1, 1, 1, 1, 1, 1, 1, 1, 1, 1, 1] tables_1_2 = vY2.map wY := rfl
theorem vY2_in : ∀ q ∈ vY2, wY q ∈ tables_1 := fun q hq => by
  have h : wY q ∈ tables_1_2 := mk_sub _ [22, 1, 1, 1, 1, 1, 1, 96, 1, 1, 1, 1, 1, 1, 1, 1, 1, 1, 1, 1] _ (by rw [vY2_eq]; exact List.mem_map.mpr ⟨q, hq, rfl⟩)
  exact List.mem_append_right _ (List.mem_append_left _ h)
def vY3 : List (Nat × Nat) := [(7, 0), (7, 1), (7, 2), (7, 3), (7, 4), (7, 5)]
set_option maxRecDepth 100000 in
theorem vY3_eq : mk [228, 1, 1, 1, 1, 1] tables_1_3 = vY3.map wY := rfl
theorem vY3_in : ∀ q ∈ vY3, wY q ∈ tables_1 := fun q hq => by
  have h : wY q ∈ tables_1_3 := mk_sub _ [228, 1, 1, 1, 1, 1] _ (by rw [vY3_eq]; exact List.mem_map.mpr ⟨q, hq, rfl⟩)
  exact List.mem_append_right _ (List.mem_append_right _ (List.mem_append_left _ h))
def vY4 : List (Nat × Nat) := [(7, 6), (7, 7), (7, 8), (7, 9), (7, 10), (7, 11), (7, 12), (7, 13), (7, 14), (7, 15), (7, 16), (7, 17), (7, 18), (7, 19), (7, 20), (7, 21), (7, 22), (7, 23), (7, 24), (7, 25), (7, 26), (7, 27), (7, 28), (7, 29), (7, 30), (7, 31), (7, 32), (7, 33), (7, 34), (7, 35), (7, 36), (7, 37), (7, 38), (7, 39), (7, 40), (7, 41), (7, 42), (7, 43), (7, 44), (7, 45), (7, 46), (7, 47)]
set_option maxRecDepth 100000 in
theorem vY4_eq : mk [0, 1, 1, 1, 1, 1, 1, 1, 1, 1, 1, 1, 1, 1, 1, 1, 1, 1, 1, 1, 1, 1, 1, 1, 1, 1, 1, 1, 1, 1, 1, 1, 1, 1, 1, 1, 1, 1, 1, 1, 1, 1] tables_1_4 = vY4.map wY := rfl
theorem vY4_in : ∀ q ∈ vY4, wY q ∈ tables_1 := fun q hq => by
  have h : wY q ∈ tables_1_4 := mk_sub _ [0, 1, 1, 1, 1, 1, 1, 1, 1, 1, 1, 1, 1, 1, 1, 1, 1, 1, 1, 1, 1, 1, 1, 1, 1, 1, 1, 1, 1, 1, 1, 1, 1, 1, 1, 1, 1, 1, 1, 1, 1, 1] _ (by rw [vY4_eq]; exact List.mem_map.mpr ⟨q, hq, rfl⟩)
  exact List.mem_append_right _ (List.mem_append_right _ (List.mem_append_right _ (List.mem_append_left _ h)))
def vY : List (Nat × Nat) := vY1 ++ (vY2 ++ (vY3 ++ (vY4)))
theorem vY_in : ∀ q ∈ vY, wY q ∈ tables_1 := List.forall_mem_append.mpr ⟨vY1_in, List.forall_mem_append.mpr ⟨vY2_in, List.forall_mem_append.mpr ⟨vY3_in, vY4_in⟩⟩⟩
def wX (q : (Nat × Nat) × (Nat × Nat)) : Cond := .methodLinkNest (cn q.1.1) q.1.2 (mt q.2.1).1 "OrderedPeers"
def vX1 : List ((Nat × Nat) × (Nat × Nat)) := [((6, 27), (8, 0)), ((6, 34), (5, 0)), ((1, 17), (15, 0)), ((5, 25), (15, 0))]
set_option maxRecDepth 100000 in
theorem vX1_eq : mk [24, 24, 5, 84] tables_1_1 = vX1.map wX := rfl
theorem vX1_in : ∀ q ∈ vX1, wX q ∈ tables_1 := fun q hq => by
  have h : wX q ∈ tables_1_1 := mk_sub _ [24, 24, 5, 84] _ (by rw [vX1_eq]; exact List.mem_map.mpr ⟨q, hq, rfl⟩)
  exact List.mem_append_left _ h
def vX2 : List ((Nat × Nat) × (Nat × Nat)) := [((2, 30), (14, 0))]
set_option maxRecDepth 100000 in
theorem vX2_eq : mk [4] tables_1_2 = vX2.map wX := rfl
theorem vX2_in : ∀ q ∈ vX2, wX q ∈ tables_1 := fun q hq => by
  have h : wX q ∈ tables_1_2 := mk_sub _ [4] _ (by rw [vX2_eq]; exact List.mem_map.mpr ⟨q, hq, rfl⟩)
  exact List.mem_append_right _ (List.mem_append_left _ h)
def vX : List ((Nat × Nat) × (Nat × Nat)) := vX1 ++ (vX2)
theorem vX_in : ∀ q ∈ vX, wX q ∈ tables_1 := List.forall_mem_append.mpr ⟨vX1_in, vX2_in⟩
def wO (q : Nat) : Cond := .arrayOver (.object (cn (q - 1)))
def vO1 : List (Nat) := [6, 1, 4]
set_option maxRecDepth 100000 in
theorem vO1_eq : mk [19, 1, 7] tables_1_1 = vO1.map wO := rfl
theorem vO1_in : ∀ q ∈ vO1, wO q ∈ tables_1 := fun q hq => by
  have h : wO q ∈ tables_1_1 := mk_sub _ [19, 1, 7] _ (by rw [vO1_eq]; exact List.mem_map.mpr ⟨q, hq, rfl⟩)
  exact List.mem_append_left _ h
def vO : List (Nat) := vO1
theorem vO_in : ∀ q ∈ vO, wO q ∈ tables_1 := vO1_in
def vP1 : List Nat := [42, 41, 43, 44, 48, 50, 49, 51, 78, 57, 58, 59, 67, 69, 70, 74]
set_option maxRecDepth 100000 in
theorem vP1_eq : lw_privs_1 = vP1.map (fun q => ((mt q).1, NN (mt q).2.2.1)) := rfl
def vP2 : List Nat := [75, 76, 77, 81, 79, 80, 68, 97, 100, 99, 98, 93, 105, 106, 107, 104]
set_option maxRecDepth 100000 in
theorem vP2_eq : lw_privs_2 = vP2.map (fun q => ((mt q).1, NN (mt q).2.2.1)) := rfl
def vP3 : List Nat := [133, 108, 119, 127, 112, 113, 132, 124, 125, 137, 143, 148, 149, 120, 128, 121]
set_option maxRecDepth 100000 in
theorem vP3_eq : lw_privs_3 = vP3.map (fun q => ((mt q).1, NN (mt q).2.2.1)) := rfl
def vP4 : List Nat := [117, 129, 115, 126, 130, 131, 114, 122, 118, 123, 116, 151, 162, 160]
set_option maxRecDepth 100000 in
theorem vP4_eq : lw_privs_4 = vP4.map (fun q => ((mt q).1, NN (mt q).2.2.1)) := rfl
def vP : List Nat := vP1 ++ (vP2 ++ (vP3 ++ (vP4)))
theorem vP_eq : lw_privs = vP.map (fun q => ((mt q).1, NN (mt q).2.2.1)) := by
  show lw_privs_1 ++ (lw_privs_2 ++ (lw_privs_3 ++ lw_privs_4)) = (vP1 ++ (vP2 ++ (vP3 ++ vP4))).map _
  rw [vP1_eq, vP2_eq, vP3_eq, vP4_eq]
  simp only [List.map_append]
abbrev fdL := vF
abbrev clL := vM
abbrev csL := vX
abbrev nwL := vC
abbrev ciL := vc
abbrev c2L := vL
