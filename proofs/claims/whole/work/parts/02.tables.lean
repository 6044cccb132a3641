/-! tables of the program, printed by wip/gen/tables.py: methods, fields, calls, regions -/
def cn (c : Nat) : String := match c with
  | 0 => RX0
  | 1 => RX1
  | 2 => RX2
  | 3 => RX3
  | 4 => RX4
  | 5 => RX5
  | 6 => RX6
  | 7 => RX7
  | 8 => RL
  | _ => RJ9
def TT (c : Nat) : u_T := match c with
  | 0 => TX0
  | 1 => TX1
  | 2 => TX2
  | 3 => TX3
  | 4 => TX4
  | 5 => TX5
  | 6 => TX6
  | _ => TX7
def NN (c : Nat) : Nat := match c with
  | 0 => 13
  | 1 => 5
  | 2 => 4
  | 3 => 7
  | 4 => 3
  | 5 => 10
  | 6 => 9
  | _ => 48
/-- name, code, number of its class, locals, what it answers, frames and locals of its room -/
abbrev MT : Type := MethodName × ByteArray × Nat × Nat × Option FieldType × Nat × Nat
def mt0 : MT := (yX0_init, cX0_init, 0, 7, none, 1, 20)
def mtL : List MT := [
  (yX0_init, cX0_init, 0, 7, none, 1, 20),
  (yX0_pass, cX0_pass, 0, 2, none, 0, 0),
  (yX0_note, cX0_note, 0, 2, none, 0, 0),
  (yX0_finish, cX0_finish, 0, 2, none, 0, 0),
  (yX0_lose, cX0_lose, 0, 1, none, 1, 21),
  (yX1_init, cX1_init, 1, 1, none, 2, 40),
  (yX1_isOn, cX1_isOn, 1, 1, (some .boolean), 0, 0),
  (yX1_begin, cX1_begin, 1, 3, none, 0, 0),
  (yX2_init, cX2_init, 2, 1, none, 1, 20),
  (yX2_at, cX2_at, 2, 2, (some (.object "OrderedPeers$Message")), 0, 0),
  (yX2_addAsk, cX2_addAsk, 2, 3, none, 3, 68),
  (yX2_addPlain, cX2_addPlain, 2, 3, none, 3, 68),
  (yX2_add, cX2_add, 2, 9, none, 2, 40),
  (yX2_takeAway, cX2_takeAway, 2, 4, (some (.object "OrderedPeers$Message")), 1, 21),
  (yX3_init, cX3_init, 3, 1, none, 1, 20),
  (yX4_init, cX4_init, 4, 1, none, 1, 20),
  (yX4_below, cX4_below, 4, 3, (some .int), 0, 0),
  (yX4_holds, cX4_holds, 4, 3, (some .boolean), 1, 22),
  (yX4_keyAt, cX4_keyAt, 4, 2, (some .int), 0, 0),
  (yX4_valueAt, cX4_valueAt, 4, 2, (some .long), 0, 0),
  (yX4_set, cX4_set, 4, 6, none, 1, 22),
  (yX4_moveTo, cX4_moveTo, 4, 5, none, 2, 47),
  (yX5_init, cX5_init, 5, 4, none, 2, 40),
  (yX5_isAway, cX5_isAway, 5, 1, (some .boolean), 0, 0),
  (yX5_startsAs, cX5_startsAs, 5, 3, (some .boolean), 0, 0),
  (yX5_isBeyond, cX5_isBeyond, 5, 3, (some .boolean), 0, 0),
  (yX5_hasPlace, cX5_hasPlace, 5, 2, (some .boolean), 0, 0),
  (yX5_next, cX5_next, 5, 3, (some (.object "OrderedPeers$Peer")), 1, 21),
  (yX5_hasSomebody, cX5_hasSomebody, 5, 2, (some .boolean), 2, 43),
  (yX5_makePlace, cX5_makePlace, 5, 2, none, 0, 0),
  (yX5_setNext, cX5_setNext, 5, 4, none, 1, 21),
  (yX5_setPlace, cX5_setPlace, 5, 4, none, 2, 44),
  (yX5_dropPlacesFrom, cX5_dropPlacesFrom, 5, 3, none, 1, 21),
  (yX5_placesHeld, cX5_placesHeld, 5, 3, (some .int), 0, 0),
  (yX5_comeIn, cX5_comeIn, 5, 3, none, 3, 67),
  (yX5_goOut, cX5_goOut, 5, 1, none, 2, 43),
  (yX5_onward, cX5_onward, 5, 5, (some (.object "OrderedPeers$Peer")), 2, 43),
  (yX6_init, cX6_init, 6, 1, none, 3, 60),
  (yX6_peer, cX6_peer, 6, 3, (some .int), 4, 85),
  (yX6_drawn, cX6_drawn, 6, 4, (some .int), 4, 85),
  (yX6_seed, cX6_seed, 6, 2, (some .int), 0, 0),
  (yX6_addPeer, cX6_addPeer, 6, 3, (some .int), 3, 63),
  (yX6_isNamed, cX6_isNamed, 6, 3, (some .boolean), 0, 0),
  (yX6_peerAt, cX6_peerAt, 6, 2, (some (.object "OrderedPeers$Peer")), 0, 0),
  (yX6_howManyIn, cX6_howManyIn, 6, 3, (some .int), 0, 0),
  (yX6_join, cX6_join, 6, 6, (some .int), 4, 90),
  (yX6_leave, cX6_leave, 6, 3, (some .int), 5, 117),
  (yX6_again, cX6_again, 6, 4, (some .int), 5, 117),
  (yX6_linkPastFrom, cX6_linkPastFrom, 6, 6, none, 4, 92),
  (yX6_handOver, cX6_handOver, 6, 3, none, 4, 90),
  (yX6_sendLink, cX6_sendLink, 6, 5, none, 3, 68),
  (yX6_settleChange, cX6_settleChange, 6, 1, none, 4, 91),
  (yX6_find, cX6_find, 6, 3, (some .int), 5, 118),
  (yX6_span, cX6_span, 6, 4, (some .int), 5, 118),
  (yX6_tally, cX6_tally, 6, 4, (some .int), 5, 118),
  (yX6_put, cX6_put, 6, 5, (some .int), 5, 118),
  (yX6_get, cX6_get, 6, 3, (some .int), 5, 118),
  (yX6_startAsk, cX6_startAsk, 6, 9, (some .int), 4, 90),
  (yX6_takeKey, cX6_takeKey, 6, 3, (some .boolean), 0, 0),
  (yX6_askAt, cX6_askAt, 6, 2, (some (.object "OrderedPeers$Ask")), 0, 0),
  (yX6_ask, cX6_ask, 6, 4, (some .int), 1, 21),
  (yX6_passed, cX6_passed, 6, 4, (some .int), 1, 21),
  (yX6_noted, cX6_noted, 6, 4, (some .int), 1, 21),
  (yX6_value, cX6_value, 6, 3, (some .long), 1, 21),
  (yX6_deliver, cX6_deliver, 6, 3, (some .int), 7, 162),
  (yX6_all, cX6_all, 6, 4, (some .int), 7, 162),
  (yX6_message, cX6_message, 6, 4, (some .int), 1, 21),
  (yX6_canBeTaken, cX6_canBeTaken, 6, 2, (some .boolean), 1, 20),
  (yX6_firstToTake, cX6_firstToTake, 6, 2, (some .int), 2, 41),
  (yX6_take, cX6_take, 6, 3, (some .int), 6, 140),
  (yX6_askComes, cX6_askComes, 6, 4, none, 4, 90),
  (yX6_endOrGoAlong, cX6_endOrGoAlong, 6, 2, (some (.object "OrderedPeers$Peer")), 3, 65),
  (yX6_fetch, cX6_fetch, 6, 2, none, 2, 44),
  (yX6_goAlong, cX6_goAlong, 6, 3, (some (.object "OrderedPeers$Peer")), 2, 43),
  (yX6_changeComes, cX6_changeComes, 6, 3, none, 5, 118),
  (yX6_joinComes, cX6_joinComes, 6, 4, none, 4, 93),
  (yX6_sendGive, cX6_sendGive, 6, 3, none, 3, 71),
  (yX6_becomeLinked, cX6_becomeLinked, 6, 3, none, 4, 92),
  (yX6_sendFirstSeek, cX6_sendFirstSeek, 6, 4, none, 3, 68),
  (yX6_seekComes, cX6_seekComes, 6, 7, none, 4, 92),
  (yX6_sendTell, cX6_sendTell, 6, 5, none, 3, 68),
  (yX6_linkComes, cX6_linkComes, 6, 7, none, 3, 64),
  (yX6_told, cX6_told, 6, 4, (some .int), 1, 22),
  (yX6_name, cX6_name, 6, 3, (some .int), 1, 21),
  (yX6_beside, cX6_beside, 6, 5, (some .int), 2, 43),
  (yX6_key, cX6_key, 6, 4, (some .int), 1, 21),
  (yX6_kept, cX6_kept, 6, 4, (some .long), 1, 21),
  (yX6_keeper, cX6_keeper, 6, 6, (some .int), 1, 20),
  (yX6_row, cX6_row, 6, 6, (some .int), 3, 69),
  (yX6_sound, cX6_sound, 6, 1, (some .int), 6, 139),
  (yX6_why, cX6_why, 6, 5, (some .int), 5, 115),
  (yX6_worst, cX6_worst, 6, 4, (some .int), 4, 91),
  (yX6_count, cX6_count, 6, 2, (some .int), 1, 23),
  (yX6_howManyEnded, cX6_howManyEnded, 6, 4, (some .int), 0, 0),
  (yX6_numberOf, cX6_numberOf, 6, 1, (some .int), 0, 0),
  (yX6_isLevel, cX6_isLevel, 6, 1, (some .boolean), 0, 0),
  (yX6_isInRow, cX6_isInRow, 6, 3, (some .boolean), 1, 22),
  (yX6_rankInRow, cX6_rankInRow, 6, 6, (some .int), 2, 44),
  (yX6_nextInRow, cX6_nextInRow, 6, 7, (some (.object "OrderedPeers$Peer")), 2, 44),
  (yX6_isAlone, cX6_isAlone, 6, 3, (some .boolean), 3, 70),
  (yX6_faultAt, cX6_faultAt, 6, 4, (some .int), 4, 92),
  (yX6_passesOfFind, cX6_passesOfFind, 6, 5, (some .int), 3, 67),
  (yX7_init, cX7_init, 7, 1, none, 1, 20),
  (yX7_in, cX7_in, 7, 6, (some .boolean), 0, 0),
  (yX7_isPeer, cX7_isPeer, 7, 2, (some .boolean), 1, 25),
  (yX7_isName, cX7_isName, 7, 4, (some .boolean), 0, 0),
  (yX7_made, cX7_made, 7, 4, (some .int), 1, 23),
  (yX7_noPlaces, cX7_noPlaces, 7, 4, none, 0, 0),
  (yX7_place, cX7_place, 7, 5, none, 0, 0),
  (yX7_peer, cX7_peer, 7, 3, (some .int), 2, 46),
  (yX7_drawn, cX7_drawn, 7, 2, (some .int), 2, 46),
  (yX7_seed, cX7_seed, 7, 2, (some .int), 0, 0),
  (yX7_leftOf, cX7_leftOf, 7, 3, (some .int), 0, 0),
  (yX7_rightOf, cX7_rightOf, 7, 3, (some .int), 0, 0),
  (yX7_areLike, cX7_areLike, 7, 4, (some .boolean), 0, 0),
  (yX7_store, cX7_store, 7, 7, none, 0, 0),
  (yX7_placeOf, cX7_placeOf, 7, 4, (some .int), 0, 0),
  (yX7_remove, cX7_remove, 7, 4, none, 0, 0),
  (yX7_ends, cX7_ends, 7, 3, none, 0, 0),
  (yX7_send, cX7_send, 7, 9, none, 0, 0),
  (yX7_gone, cX7_gone, 7, 3, none, 0, 0),
  (yX7_aims, cX7_aims, 7, 6, (some .int), 1, 22),
  (yX7_comesAsk, cX7_comesAsk, 7, 4, none, 2, 51),
  (yX7_isThere, cX7_isThere, 7, 4, none, 1, 28),
  (yX7_changeMessages, cX7_changeMessages, 7, 3, (some .int), 0, 0),
  (yX7_seeks, cX7_seeks, 7, 5, none, 1, 28),
  (yX7_linked, cX7_linked, 7, 5, none, 2, 52),
  (yX7_unlinks, cX7_unlinks, 7, 6, none, 1, 28),
  (yX7_comesJoin, cX7_comesJoin, 7, 7, none, 2, 47),
  (yX7_unpack, cX7_unpack, 7, 3, none, 1, 26),
  (yX7_comesLink, cX7_comesLink, 7, 8, none, 1, 23),
  (yX7_comesSeek, cX7_comesSeek, 7, 6, none, 1, 28),
  (yX7_looksOver, cX7_looksOver, 7, 1, none, 2, 52),
  (yX7_inMany, cX7_inMany, 7, 3, (some .int), 0, 0),
  (yX7_join, cX7_join, 7, 4, (some .int), 2, 46),
  (yX7_leave, cX7_leave, 7, 4, (some .int), 3, 72),
  (yX7_again, cX7_again, 7, 3, (some .int), 3, 72),
  (yX7_askOf, cX7_askOf, 7, 9, (some .int), 1, 28),
  (yX7_find, cX7_find, 7, 3, (some .int), 2, 56),
  (yX7_span, cX7_span, 7, 4, (some .int), 2, 56),
  (yX7_tally, cX7_tally, 7, 4, (some .int), 2, 56),
  (yX7_put, cX7_put, 7, 5, (some .int), 2, 56),
  (yX7_get, cX7_get, 7, 3, (some .int), 2, 56),
  (yX7_isAsk, cX7_isAsk, 7, 2, (some .boolean), 1, 25),
  (yX7_ask, cX7_ask, 7, 3, (some .int), 2, 46),
  (yX7_passed, cX7_passed, 7, 3, (some .int), 2, 46),
  (yX7_noted, cX7_noted, 7, 3, (some .int), 2, 46),
  (yX7_value, cX7_value, 7, 2, (some .long), 2, 46),
  (yX7_mayCome, cX7_mayCome, 7, 2, (some .boolean), 0, 0),
  (yX7_come, cX7_come, 7, 9, none, 3, 76),
  (yX7_deliver, cX7_deliver, 7, 3, (some .int), 4, 104),
  (yX7_firstThatMay, cX7_firstThatMay, 7, 2, (some .int), 1, 21),
  (yX7_all, cX7_all, 7, 3, (some .int), 4, 104),
  (yX7_message, cX7_message, 7, 3, (some .int), 1, 25),
  (yX7_told, cX7_told, 7, 5, (some .int), 2, 46),
  (yX7_name, cX7_name, 7, 2, (some .int), 2, 46),
  (yX7_beside, cX7_beside, 7, 4, (some .int), 2, 46),
  (yX7_key, cX7_key, 7, 3, (some .int), 2, 46),
  (yX7_kept, cX7_kept, 7, 3, (some .long), 2, 46),
  (yX7_keeper, cX7_keeper, 7, 5, (some .int), 0, 0),
  (yX7_next, cX7_next, 7, 6, (some .int), 1, 23),
  (yX7_row, cX7_row, 7, 7, (some .int), 2, 46),
  (yX7_judge, cX7_judge, 7, 8, none, 2, 48),
  (yX7_sound, cX7_sound, 7, 1, (some .int), 3, 75),
  (yX7_why, cX7_why, 7, 2, (some .int), 3, 75),
  (yX7_worst, cX7_worst, 7, 7, (some .int), 2, 47),
  (yX7_count, cX7_count, 7, 2, (some .int), 1, 22),
  (yJ9_max_7cf53, cJ9_max_7cf53, 9, 2, (some .int), 0, 0),
  (yJ9_min_7cf53, cJ9_min_7cf53, 9, 2, (some .int), 0, 0),
  (yL_law, cL_law, 8, 4, (some .boolean), 8, 185)]
def mt (y : Nat) : MT := mtL.getD y mt0
abbrev iMax : Nat := 167
abbrev iMin : Nat := 168
/-- how a method is called: 0 on an object, 1 static, 2 as a constructor -/
def kdL : List Nat := [2, 0, 0, 0, 0, 2, 0, 0, 2, 0, 0, 0, 0, 0, 2, 2, 0, 0, 0, 0, 0, 0, 2, 0, 0, 0, 0, 0, 0, 0, 0, 0, 0, 0, 0, 0, 0, 2, 0, 0, 0, 0, 0, 0, 0, 0, 0, 0, 0, 0, 0, 0, 0, 0, 0, 0, 0, 0, 0, 0, 0, 0, 0, 0, 0, 0, 0, 0, 0, 0, 0, 1, 1, 1, 0, 0, 0, 0, 0, 0, 0, 0, 0, 0, 0, 0, 0, 0, 0, 0, 0, 0, 0, 0, 1, 1, 1, 0, 0, 0, 0, 1, 2, 1, 0, 0, 0, 0, 0, 0, 0, 0, 0, 0, 0, 0, 0, 0, 0, 0, 0, 0, 0, 0, 0, 0, 0, 0, 0, 0, 0, 0, 0, 0, 0, 0, 0, 0, 0, 0, 0, 0, 0, 0, 0, 0, 0, 0, 0, 0, 0, 0, 0, 0, 0, 0, 0, 0, 0, 0, 0, 0, 0, 0, 0, 0, 0, 1, 1, 1]
def kd (y : Nat) : Nat := kdL.getD y 9
def npL : List Nat := [5, 1, 1, 1, 0, 0, 0, 2, 0, 1, 2, 2, 7, 1, 0, 0, 1, 1, 1, 1, 2, 3, 3, 0, 2, 2, 1, 2, 1, 1, 3, 3, 1, 0, 2, 0, 1, 0, 2, 1, 1, 2, 1, 1, 0, 2, 1, 2, 2, 1, 4, 0, 2, 3, 3, 3, 2, 5, 1, 1, 2, 2, 2, 1, 1, 1, 2, 1, 0, 1, 2, 2, 2, 2, 1, 2, 2, 2, 2, 4, 4, 4, 2, 1, 3, 2, 2, 1, 3, 0, 1, 0, 1, 1, 1, 1, 3, 3, 3, 2, 2, 2, 0, 3, 1, 1, 2, 2, 4, 2, 1, 1, 2, 2, 3, 3, 2, 2, 2, 7, 1, 2, 2, 2, 0, 2, 2, 2, 2, 1, 4, 4, 0, 0, 2, 1, 2, 5, 2, 3, 3, 3, 2, 1, 2, 2, 2, 1, 1, 1, 1, 0, 1, 2, 2, 1, 3, 2, 2, 1, 3, 3, 0, 0, 1, 0, 1, 2, 2, 1]
def np (y : Nat) : Nat := npL.getD y 99
/-- where arrays are made: (method, place of the instruction) to region -/
def naL : List ((Nat × Nat) × Nat) := [((0, 7), 9), ((0, 51), 10), ((8, 8), 11), ((15, 7), 12), ((15, 15), 13), ((22, 12), 14), ((22, 20), 15), ((37, 7), 16), ((37, 17), 17), ((37, 26), 18), ((102, 12), 19), ((102, 20), 20), ((102, 28), 21), ((102, 36), 22), ((102, 45), 23), ((102, 54), 24), ((102, 63), 25), ((102, 71), 26), ((102, 79), 27), ((102, 87), 28), ((102, 96), 29), ((102, 105), 30), ((102, 113), 31), ((102, 122), 32), ((102, 131), 33), ((102, 140), 34), ((102, 149), 35), ((102, 158), 36), ((102, 167), 37), ((102, 176), 38), ((102, 185), 39), ((102, 194), 40), ((102, 203), 41), ((102, 212), 42), ((102, 221), 43), ((102, 230), 44), ((102, 239), 45), ((102, 248), 46), ((102, 257), 47), ((102, 266), 48), ((102, 275), 49), ((102, 283), 50), ((102, 291), 51)]
/-- the elements of an array region: 0 int, 1 boolean, 2 byte, 3 long, t + 4 a reference into region t; none: no array -/
def ekL : List (Option Nat) := [some 0, none, none, none, none, none, none, none, none, some 2, some 2, some 8, some 0, some 3, some 1, some 10, some 10, some 5, some 0, some 0, some 0, some 0, some 0, some 1, some 0, some 0, some 0, some 0, some 0, some 0, some 3, some 0, some 0, some 1, some 0, some 0, some 0, some 0, some 0, some 1, some 0, some 0, some 3, some 0, some 0, some 0, some 0, some 0, some 0, some 0, some 0, some 3]
def ek (r : Nat) : Option Nat := ekL.getD r none
/-- the fields of an object region -/
def fkL : List (List Nat) := [[0, 0, 0, 0, 3, 1, 1, 1, 0, 0, 0, 13, 14], [0, 10, 1, 0, 9], [15, 0, 0, 8], [0, 10, 5, 0, 0, 10, 10], [16, 17, 0], [0, 0, 0, 0, 0, 18, 19, 10, 10, 9], [20, 0, 21, 0, 22, 0, 7, 6, 0], [0, 0, 23, 24, 25, 26, 27, 28, 29, 30, 31, 32, 33, 34, 0, 35, 0, 0, 0, 36, 37, 38, 39, 40, 41, 42, 43, 44, 45, 46, 0, 47, 48, 49, 50, 51, 52, 53, 0, 54, 55, 0, 0, 1, 0, 0, 0, 0]]
def fk (r k : Nat) : Nat := (fkL.getD (r - 1) []).getD k 0
def tk (r k : Nat) : Nat := match ek r with
  | some e => e
  | none => fk r k
def lk {α : Type} (l : List ((Nat × Nat) × α)) (a b : Nat) : Option α := match l with
  | [] => none
  | q :: r => if q.1.1 = a ∧ q.1.2 = b then some q.2 else lk r a b
