/-! a second reading of the document, as pure functions: what the class holds is held beside them -/
def jX7_isIn (a1 : Int32) (a2 : Int32) (a3 : Int32) : Option (Int32) :=
  (if a1 < a2 then chkZ 0 (some 0) else (if a3 < a1 then chkZ 0 (some 0) else chkZ 1 (some 1)))
def jX7_fail (M_thrown : Int32) (a1 : Int32) : Option (Int32 × Int32) :=
  some (0, a1)
def jX7_fx (M_fixed : Nat → Int32) (a1 : Int32) (a2 : Int32) : Option (Int32) :=
  chk 72 ((3 * a1) + a2) (some (rd M_fixed ((3 * a1) + a2)))
def jX7_ba (M_table : Nat → Int32) (a1 : Int32) (a2 : Int32) : Option (Int32) :=
  chk 120 ((5 * a1) + a2) (some (rd M_table ((5 * a1) + a2)))
def jX7_floats (M_table : Nat → Int32) (a1 : Int32) : Option (Int32) :=
  bnd (jX7_ba M_table a1 2) (fun r1 => (if r1 = 0 then chkZ 1 (some 1) else chkZ 0 (some 0)))
def jX7_addBarrel_L87 (M_fixed : Nat → Int32) (M_table : Nat → Int32) (u5 : Int32) (n : Nat) (v6_87 : Int32) (v7_87 : Int32) (v8_87 : Int32) : Option (Int32 × Int32) :=
  match n with
  | 0 => none
  | n + 1 => (if v8_87 < 0 then some (v6_87, v7_87) else (if v7_87 = 0 then bnd (jX7_floats M_table v8_87) (fun r8 => (if r8 = 0 then jX7_addBarrel_L87 M_fixed M_table u5 n v6_87 0 (v8_87 + (-1)) else jX7_addBarrel_L87 M_fixed M_table u5 n v8_87 0 (v8_87 + (-1)))) else bnd (jX7_fx M_fixed v8_87 0) (fun r9 => (if r9 = u5 then bnd (jX7_floats M_table v8_87) (fun r10 => (if r10 = 0 then jX7_addBarrel_L87 M_fixed M_table u5 n v6_87 0 (v8_87 + (-1)) else jX7_addBarrel_L87 M_fixed M_table u5 n v8_87 0 (v8_87 + (-1)))) else bnd (jX7_floats M_table v8_87) (fun r11 => (if r11 = 0 then jX7_addBarrel_L87 M_fixed M_table u5 n v6_87 1 (v8_87 + (-1)) else jX7_addBarrel_L87 M_fixed M_table u5 n v8_87 1 (v8_87 + (-1))))))))
def jX7_addBarrel (M_thrown : Int32) (M_barrels : Int32) (M_fixed : Nat → Int32) (M_table : Nat → Int32) (a1 : Int32) (a2 : Int32) (a3 : Int32) (a4 : Int32) : Option (Int32 × Int32 × Int32 × (Nat → Int32) × (Nat → Int32)) :=
  bnd (jX7_isIn a1 0 7) (fun r1 => (if r1 = 0 then bnd (jX7_fail 0 1) (fun r2 => some (r2.1, r2.2, M_barrels, M_fixed, M_table)) else bnd (jX7_isIn a2 0 7) (fun r3 => (if r3 = 0 then bnd (jX7_fail 0 1) (fun r4 => some (r4.1, r4.2, M_barrels, M_fixed, M_table)) else bnd (jX7_isIn a3 1 40) (fun r5 => (if r5 = 0 then bnd (jX7_fail 0 1) (fun r6 => some (r6.1, r6.2, M_barrels, M_fixed, M_table)) else bnd (jX7_isIn a4 0 9) (fun r7 => (if r7 = 0 then bnd (jX7_fail 0 1) (fun r16 => some (r16.1, r16.2, M_barrels, M_fixed, M_table)) else jn (fun (x77 : Int32) => bnd (jX7_addBarrel_L87 M_fixed M_table (a1 + (8 * a2)) FU (-1) x77 (M_barrels - 1)) (fun r12 => (if r12.2 = 0 then bnd (jX7_fail 0 2) (fun r15 => some (r15.1, r15.2, M_barrels, M_fixed, M_table)) else chk 3 0 (chk 3 1 (chk 3 2 (chkP (CPOK 3 72 0 (3 * M_barrels) 3) (chk 5 0 (chk 5 1 (chk 5 2 (jn (fun (x216 : Int32) => chk 5 3 (jn (fun (x237 : Int32) => chk 5 4 (chkP (CPOK 5 120 0 (5 * M_barrels) 5) (some ((M_barrels + 1) - 1, 0, M_barrels + 1, cpy (wr (wr (wr (fun _ => 0) 0 (a1 + (8 * a2))) 1 a3) 2 a4) M_fixed 0 (3 * M_barrels) 3, cpy (wr (wr (wr (wr (wr (fun _ => 0) 0 0) 1 0) 2 0) 3 x216) 4 x237) M_table 0 (5 * M_barrels) 5)))) (fun k237 => if r12.1 = (-1) then k237 10 else bnd (jX7_ba M_table r12.1 4) (fun r13 => k237 r13)))) (fun k216 => if r12.1 = (-1) then k216 0 else bnd (jX7_ba M_table r12.1 3) (fun r14 => k216 r14)))))))))))) (fun k77 => if 24 ≤ M_barrels then k77 0 else k77 1)))))))))
def jX7_isBarrel (M_barrels : Int32) (a1 : Int32) : Option (Int32) :=
  bnd (jX7_isIn a1 0 (M_barrels - 1)) (fun r1 => chkZ r1 (some r1))
def jX7_addCastaway (M_thrown : Int32) (M_barrels : Int32) (M_crew : Int32) (M_table : Nat → Int32) (M_people : Nat → Int32) (a1 : Int32) : Option (Int32 × Int32 × Int32 × (Nat → Int32)) :=
  bnd (jX7_isBarrel M_barrels a1) (fun r1 => (if r1 = 0 then bnd (jX7_fail 0 1) (fun r5 => some (r5.1, r5.2, M_crew, M_people)) else bnd (jX7_floats M_table a1) (fun r2 => (if r2 = 0 then bnd (jX7_fail 0 2) (fun r3 => some (r3.1, r3.2, M_crew, M_people)) else (if M_crew = 8 then bnd (jX7_fail 0 2) (fun r4 => some (r4.1, r4.2, M_crew, M_people)) else chk 16 (2 * M_crew) (some ((M_crew + 1) - 1, 0, M_crew + 1, wr M_people (2 * M_crew) a1)))))))
def jX7_addWater (M_thrown : Int32) (M_waters : Int32) (M_waterTable : Nat → Int32) (a1 : Int32) (a2 : Int32) (a3 : Int32) (a4 : Int32) (a5 : Int32) (a6 : Int32) (a7 : Int32) : Option (Int32 × Int32 × Int32 × (Nat → Int32)) :=
  bnd (jX7_isIn a1 0 29) (fun r1 => (if r1 = 0 then bnd (jX7_fail 0 1) (fun r2 => some (r2.1, r2.2, M_waters, M_waterTable)) else bnd (jX7_isIn a2 0 19) (fun r3 => (if r3 = 0 then bnd (jX7_fail 0 1) (fun r4 => some (r4.1, r4.2, M_waters, M_waterTable)) else bnd (jX7_isIn a3 1 (30 - a1)) (fun r5 => (if r5 = 0 then bnd (jX7_fail 0 1) (fun r6 => some (r6.1, r6.2, M_waters, M_waterTable)) else bnd (jX7_isIn a4 1 (20 - a2)) (fun r7 => (if r7 = 0 then bnd (jX7_fail 0 1) (fun r8 => some (r8.1, r8.2, M_waters, M_waterTable)) else bnd (jX7_isIn a5 (-2) 2) (fun r9 => (if r9 = 0 then bnd (jX7_fail 0 1) (fun r10 => some (r10.1, r10.2, M_waters, M_waterTable)) else bnd (jX7_isIn a6 (-2) 2) (fun r11 => (if r11 = 0 then bnd (jX7_fail 0 1) (fun r12 => some (r12.1, r12.2, M_waters, M_waterTable)) else bnd (jX7_isIn a7 0 20) (fun r13 => (if r13 = 0 then bnd (jX7_fail 0 1) (fun r15 => some (r15.1, r15.2, M_waters, M_waterTable)) else (if M_waters = 8 then bnd (jX7_fail 0 2) (fun r14 => some (r14.1, r14.2, M_waters, M_waterTable)) else chk 7 0 (chk 7 1 (chk 7 2 (chk 7 3 (chk 7 4 (chk 7 5 (chk 7 6 (chkP (CPOK 7 56 0 (7 * M_waters) 7) (some ((M_waters + 1) - 1, 0, M_waters + 1, cpy (wr (wr (wr (wr (wr (wr (wr (fun _ => 0) 0 a1) 1 a2) 2 a3) 3 a4) 4 a5) 5 a6) 6 a7) M_waterTable 0 (7 * M_waters) 7))))))))))))))))))))))))
def jX7_areBeside (M_fixed : Nat → Int32) (a1 : Int32) (a2 : Int32) : Option (Int32) :=
  bnd (jX7_fx M_fixed a1 0) (fun r1 => bnd (jX7_fx M_fixed a2 0) (fun r2 => bnd (jX7_fx M_fixed a1 0) (fun r3 => bnd (jX7_fx M_fixed a2 0) (fun r4 => (if (mabs ((r1 - r1 / 8 * 8) - (r2 - r2 / 8 * 8))) + (mabs ((r3 / 8) - (r4 / 8))) = 1 then chkZ 1 (some 1) else chkZ 0 (some 0))))))
def jX7_isPerson (M_crew : Int32) (a1 : Int32) : Option (Int32) :=
  bnd (jX7_isIn a1 0 (M_crew - 1)) (fun r1 => chkZ r1 (some r1))
def jX7_set (M_table : Nat → Int32) (a1 : Int32) (a2 : Int32) (a3 : Int32) : Option ((Nat → Int32)) :=
  chk 120 ((5 * a1) + a2) (some (wr M_table ((5 * a1) + a2) a3))
def jX7_bail (M_thrown : Int32) (M_crew : Int32) (M_table : Nat → Int32) (M_people : Nat → Int32) (a1 : Int32) : Option (Int32 × Int32 × (Nat → Int32)) :=
  bnd (jX7_isPerson M_crew a1) (fun r1 => (if r1 = 0 then bnd (jX7_fail 0 1) (fun r6 => some (r6.1, r6.2, M_table)) else chk 16 (2 * a1) ((if rd M_people (2 * a1) = (-1) then bnd (jX7_fail 0 2) (fun r5 => some (r5.1, r5.2, M_table)) else bnd (jX7_ba M_table (rd M_people (2 * a1)) 0) (fun r2 => bnd (jX7_set M_table (rd M_people (2 * a1)) 0 (mmax 0 (r2 - 25))) (fun r3 => bnd (jX7_ba r3 (rd M_people (2 * a1)) 0) (fun r4 => some (r4, 0, r3))))))))
def jX7_pair (a1 : Int32) (a2 : Int32) : Option (Int32) :=
  some ((24 * (mmin a1 a2)) + (mmax a1 a2))
def jX7_isTied (M_strength : Nat → Int32) (a1 : Int32) (a2 : Int32) : Option (Int32) :=
  bnd (jX7_pair a1 a2) (fun r1 => chk 576 r1 ((if rd M_strength r1 ≤ 0 then chkZ 0 (some 0) else chkZ 1 (some 1))))
def jX7_name_L2 (M_barrels : Int32) (M_table : Nat → Int32) (n : Nat) (M_pieces_2 : Nat → Int32) (v1_2 : Int32) : Option ((Nat → Int32)) :=
  match n with
  | 0 => none
  | n + 1 => (if M_barrels ≤ v1_2 then some M_pieces_2 else bnd (jX7_floats M_table v1_2) (fun r1 => (if r1 = 0 then chk 24 v1_2 (jX7_name_L2 M_barrels M_table n (wr M_pieces_2 v1_2 (-1)) (v1_2 + 1)) else chk 24 v1_2 (jX7_name_L2 M_barrels M_table n (wr M_pieces_2 v1_2 v1_2) (v1_2 + 1)))))
def jX7_name_L57 (M_barrels : Int32) (M_strength : Nat → Int32) (u2 : Int32) (n : Nat) (M_pieces_57 : Nat → Int32) (v1_57 : Int32) (v3_57 : Int32) : Option ((Nat → Int32) × Int32) :=
  match n with
  | 0 => none
  | n + 1 => (if M_barrels ≤ v3_57 then some (M_pieces_57, v1_57) else bnd (jX7_isTied M_strength u2 v3_57) (fun r3 => (if r3 = 0 then jX7_name_L57 M_barrels M_strength u2 n M_pieces_57 v1_57 (v3_57 + 1) else chk 24 u2 (chk 24 v3_57 ((if rd M_pieces_57 u2 = rd M_pieces_57 v3_57 then jX7_name_L57 M_barrels M_strength u2 n M_pieces_57 v1_57 (v3_57 + 1) else chk 24 u2 (chk 24 v3_57 (chk 24 u2 (chk 24 u2 (chk 24 v3_57 (jX7_name_L57 M_barrels M_strength u2 n (wr (wr M_pieces_57 u2 (mmin (rd M_pieces_57 u2) (rd M_pieces_57 v3_57))) v3_57 (rd (wr M_pieces_57 u2 (mmin (rd M_pieces_57 u2) (rd M_pieces_57 v3_57))) u2)) 1 (v3_57 + 1))))))))))))
def jX7_name_L45 (M_barrels : Int32) (M_strength : Nat → Int32) (n : Nat) (M_pieces_45 : Nat → Int32) (v1_45 : Int32) (v2_45 : Int32) : Option ((Nat → Int32) × Int32) :=
  match n with
  | 0 => none
  | n + 1 => (if M_barrels ≤ v2_45 then some (M_pieces_45, v1_45) else bnd (jX7_name_L57 M_barrels M_strength v2_45 FU M_pieces_45 v1_45 (v2_45 + 1)) (fun r4 => jX7_name_L45 M_barrels M_strength n r4.1 r4.2 (v2_45 + 1)))
def jX7_name_L37 (M_barrels : Int32) (M_strength : Nat → Int32) (n : Nat) (M_pieces_37 : Nat → Int32) (v1_37 : Int32) : Option ((Nat → Int32)) :=
  match n with
  | 0 => none
  | n + 1 => (if v1_37 = 0 then some M_pieces_37 else bnd (jX7_name_L45 M_barrels M_strength FU M_pieces_37 0 0) (fun r5 => jX7_name_L37 M_barrels M_strength n r5.1 r5.2))
def jX7_name (M_barrels : Int32) (M_table : Nat → Int32) (M_strength : Nat → Int32) (M_pieces : Nat → Int32) : Option ((Nat → Int32)) :=
  bnd (jX7_name_L2 M_barrels M_table FU M_pieces 0) (fun r2 => bnd (jX7_name_L37 M_barrels M_strength FU r2 1) (fun r6 => some r6))
def jX7_tiesOf_L4 (M_barrels : Int32) (M_strength : Nat → Int32) (u1 : Int32) (n : Nat) (v2_4 : Int32) (v3_4 : Int32) : Option (Int32) :=
  match n with
  | 0 => none
  | n + 1 => (if M_barrels ≤ v3_4 then some v2_4 else (if v3_4 = u1 then jX7_tiesOf_L4 M_barrels M_strength u1 n (v2_4 + 0) (v3_4 + 1) else bnd (jX7_isTied M_strength v3_4 u1) (fun r1 => (if r1 = 0 then jX7_tiesOf_L4 M_barrels M_strength u1 n (v2_4 + 0) (v3_4 + 1) else jX7_tiesOf_L4 M_barrels M_strength u1 n (v2_4 + 1) (v3_4 + 1)))))
def jX7_tiesOf (M_barrels : Int32) (M_strength : Nat → Int32) (a1 : Int32) : Option (Int32) :=
  bnd (jX7_tiesOf_L4 M_barrels M_strength a1 FU 0 0) (fun r2 => some r2)
def jX7_lifts (M_fixed : Nat → Int32) (M_table : Nat → Int32) (a1 : Int32) : Option (Int32) :=
  bnd (jX7_fx M_fixed a1 1) (fun r1 => bnd (jX7_ba M_table a1 0) (fun r2 => some ((r1 * (100 - r2)) / 100)))
def jX7_crewOn_L4 (M_crew : Int32) (M_people : Nat → Int32) (u1 : Int32) (n : Nat) (v2_4 : Int32) (v3_4 : Int32) : Option (Int32) :=
  match n with
  | 0 => none
  | n + 1 => (if M_crew ≤ v3_4 then some v2_4 else chk 16 (2 * v3_4) ((if rd M_people (2 * v3_4) = u1 then jX7_crewOn_L4 M_crew M_people u1 n (v2_4 + 1) (v3_4 + 1) else jX7_crewOn_L4 M_crew M_people u1 n (v2_4 + 0) (v3_4 + 1))))
def jX7_crewOn (M_crew : Int32) (M_people : Nat → Int32) (a1 : Int32) : Option (Int32) :=
  bnd (jX7_crewOn_L4 M_crew M_people a1 FU 0 0) (fun r1 => some r1)
def jX7_loadOf (M_crew : Int32) (M_table : Nat → Int32) (M_people : Nat → Int32) (a1 : Int32) : Option (Int32) :=
  bnd (jX7_ba M_table a1 1) (fun r1 => bnd (jX7_crewOn M_crew M_people a1) (fun r2 => some (r1 + (7 * r2))))
def jX7_barrelTold (M_barrels : Int32) (M_crew : Int32) (M_fixed : Nat → Int32) (M_table : Nat → Int32) (M_strength : Nat → Int32) (M_people : Nat → Int32) (M_pieces : Nat → Int32) (a1 : Int32) (a2 : Int32) : Option (Int32 × (Nat → Int32)) :=
  (if a2 = 0 then bnd (jX7_fx M_fixed a1 0) (fun r1 => some (r1 - r1 / 8 * 8, M_pieces)) else (if a2 = 1 then bnd (jX7_fx M_fixed a1 0) (fun r2 => some (r2 / 8, M_pieces)) else (if a2 = 2 then bnd (jX7_fx M_fixed a1 (a2 - 1)) (fun r3 => some (r3, M_pieces)) else (if a2 = 3 then bnd (jX7_fx M_fixed a1 (a2 - 1)) (fun r4 => some (r4, M_pieces)) else (if a2 = 4 then bnd (jX7_ba M_table a1 (a2 - 4)) (fun r5 => some (r5, M_pieces)) else (if a2 = 5 then bnd (jX7_ba M_table a1 (a2 - 4)) (fun r6 => some (r6, M_pieces)) else (if a2 = 6 then bnd (jX7_ba M_table a1 (a2 - 4)) (fun r7 => some (r7, M_pieces)) else (if a2 = 7 then bnd (jX7_name M_barrels M_table M_strength M_pieces) (fun r8 => chk 24 a1 (some (rd r8 a1, r8))) else (if a2 = 8 then bnd (jX7_ba M_table a1 (a2 - 5)) (fun r9 => some (r9, M_pieces)) else (if a2 = 9 then bnd (jX7_ba M_table a1 (a2 - 5)) (fun r10 => some (r10, M_pieces)) else (if a2 = 10 then bnd (jX7_tiesOf M_barrels M_strength a1) (fun r11 => some (r11, M_pieces)) else (if a2 = 11 then bnd (jX7_lifts M_fixed M_table a1) (fun r12 => some (r12, M_pieces)) else bnd (jX7_loadOf M_crew M_table M_people a1) (fun r13 => some (r13, M_pieces))))))))))))))
def jX7_barrel (M_thrown : Int32) (M_barrels : Int32) (M_crew : Int32) (M_fixed : Nat → Int32) (M_table : Nat → Int32) (M_strength : Nat → Int32) (M_people : Nat → Int32) (M_pieces : Nat → Int32) (a1 : Int32) (a2 : Int32) : Option (Int32 × Int32 × (Nat → Int32)) :=
  bnd (jX7_isBarrel M_barrels a1) (fun r1 => (if r1 = 0 then bnd (jX7_fail 0 1) (fun r2 => some (r2.1, r2.2, M_pieces)) else bnd (jX7_isIn a2 0 12) (fun r3 => (if r3 = 0 then bnd (jX7_fail 0 1) (fun r4 => some (r4.1, r4.2, M_pieces)) else bnd (jX7_barrelTold M_barrels M_crew M_fixed M_table M_strength M_people M_pieces a1 a2) (fun r5 => some (r5.1, 0, r5.2))))))
def jX7_castaway (M_thrown : Int32) (M_crew : Int32) (M_people : Nat → Int32) (a1 : Int32) (a2 : Int32) : Option (Int32 × Int32) :=
  bnd (jX7_isPerson M_crew a1) (fun r1 => (if r1 = 0 then bnd (jX7_fail 0 1) (fun r2 => some (r2.1, r2.2)) else bnd (jX7_isIn a2 0 1) (fun r3 => (if r3 = 0 then bnd (jX7_fail 0 1) (fun r4 => some (r4.1, r4.2)) else chk 16 ((2 * a1) + a2) (some (rd M_people ((2 * a1) + a2), 0))))))
def jX7_withState_L4 (M_barrels : Int32) (M_table : Nat → Int32) (u1 : Int32) (n : Nat) (v2_4 : Int32) (v3_4 : Int32) : Option (Int32) :=
  match n with
  | 0 => none
  | n + 1 => (if M_barrels ≤ v3_4 then some v2_4 else bnd (jX7_ba M_table v3_4 2) (fun r1 => (if r1 = u1 then jX7_withState_L4 M_barrels M_table u1 n (v2_4 + 1) (v3_4 + 1) else jX7_withState_L4 M_barrels M_table u1 n (v2_4 + 0) (v3_4 + 1))))
def jX7_withState (M_barrels : Int32) (M_table : Nat → Int32) (a1 : Int32) : Option (Int32) :=
  bnd (jX7_withState_L4 M_barrels M_table a1 FU 0 0) (fun r2 => some r2)
def jX7_crewWith_L4 (M_crew : Int32) (M_people : Nat → Int32) (u1 : Int32) (n : Nat) (v2_4 : Int32) (v3_4 : Int32) : Option (Int32) :=
  match n with
  | 0 => none
  | n + 1 => (if M_crew ≤ v3_4 then some v2_4 else chk 16 ((2 * v3_4) + 1) ((if rd M_people ((2 * v3_4) + 1) = u1 then jX7_crewWith_L4 M_crew M_people u1 n (v2_4 + 1) (v3_4 + 1) else jX7_crewWith_L4 M_crew M_people u1 n (v2_4 + 0) (v3_4 + 1))))
def jX7_crewWith (M_crew : Int32) (M_people : Nat → Int32) (a1 : Int32) : Option (Int32) :=
  bnd (jX7_crewWith_L4 M_crew M_people a1 FU 0 0) (fun r1 => some r1)
def jX7_counted_L103 (M_barrels : Int32) (M_strength : Nat → Int32) (n : Nat) (v2_103 : Int32) (v3_103 : Int32) : Option (Int32) :=
  match n with
  | 0 => none
  | n + 1 => (if M_barrels ≤ v3_103 then some v2_103 else bnd (jX7_tiesOf M_barrels M_strength v3_103) (fun r5 => jX7_counted_L103 M_barrels M_strength n (v2_103 + r5) (v3_103 + 1)))
def jX7_counted_L135 (M_barrels : Int32) (M_pieces : Nat → Int32) (n : Nat) (v2_135 : Int32) (v3_135 : Int32) : Option (Int32) :=
  match n with
  | 0 => none
  | n + 1 => (if M_barrels ≤ v3_135 then some v2_135 else chk 24 v3_135 ((if rd M_pieces v3_135 = v3_135 then jX7_counted_L135 M_barrels M_pieces n (v2_135 + 1) (v3_135 + 1) else jX7_counted_L135 M_barrels M_pieces n (v2_135 + 0) (v3_135 + 1))))
def jX7_counted_L185 (M_barrels : Int32) (M_table : Nat → Int32) (n : Nat) (v2_185 : Int32) (v3_185 : Int32) : Option (Int32) :=
  match n with
  | 0 => none
  | n + 1 => (if M_barrels ≤ v3_185 then some v2_185 else bnd (jX7_ba M_table v3_185 2) (fun r9 => (if r9 = 2 then bnd (jX7_ba M_table v3_185 1) (fun r10 => jX7_counted_L185 M_barrels M_table n (v2_185 + r10) (v3_185 + 1)) else jX7_counted_L185 M_barrels M_table n (v2_185 + 0) (v3_185 + 1))))
def jX7_counted (M_barrels : Int32) (M_crew : Int32) (M_table : Nat → Int32) (M_strength : Nat → Int32) (M_people : Nat → Int32) (M_numbers : Nat → Int32) (M_pieces : Nat → Int32) (a1 : Int32) : Option (Int32 × (Nat → Int32)) :=
  (if a1 = 0 then chk 3 0 (some (rd M_numbers 0, M_pieces)) else (if a1 = 1 then some (M_barrels, M_pieces) else (if a1 = 2 then bnd (jX7_withState M_barrels M_table 0) (fun r1 => some (r1, M_pieces)) else (if a1 = 3 then bnd (jX7_withState M_barrels M_table 2) (fun r2 => some (r2, M_pieces)) else (if a1 = 4 then some (M_crew, M_pieces) else (if a1 = 5 then bnd (jX7_crewWith M_crew M_people 0) (fun r3 => some (r3, M_pieces)) else (if a1 = 6 then bnd (jX7_crewWith M_crew M_people 2) (fun r4 => some (r4, M_pieces)) else (if a1 = 7 then bnd (jX7_counted_L103 M_barrels M_strength FU 0 0) (fun r6 => some (r6 / 2, M_pieces)) else (if a1 = 8 then bnd (jX7_name M_barrels M_table M_strength M_pieces) (fun r7 => bnd (jX7_counted_L135 M_barrels r7 FU 0 0) (fun r8 => some (r8, r7))) else (if a1 = 9 then chk 3 1 (some (rd M_numbers 1, M_pieces)) else (if a1 = 10 then chk 3 2 (some (rd M_numbers 2, M_pieces)) else bnd (jX7_counted_L185 M_barrels M_table FU 0 0) (fun r11 => some (r11, M_pieces)))))))))))))
def jX7_count (M_thrown : Int32) (M_barrels : Int32) (M_crew : Int32) (M_table : Nat → Int32) (M_strength : Nat → Int32) (M_people : Nat → Int32) (M_numbers : Nat → Int32) (M_pieces : Nat → Int32) (a1 : Int32) : Option (Int32 × Int32 × (Nat → Int32)) :=
  bnd (jX7_isIn a1 0 11) (fun r1 => (if r1 = 0 then bnd (jX7_fail 0 1) (fun r2 => some (r2.1, r2.2, M_pieces)) else bnd (jX7_counted M_barrels M_crew M_table M_strength M_people M_numbers M_pieces a1) (fun r3 => some (r3.1, 0, r3.2))))
def jX7_untie (M_strength : Nat → Int32) (M_wear : Nat → Int32) (a1 : Int32) (a2 : Int32) : Option ((Nat → Int32) × (Nat → Int32)) :=
  bnd (jX7_pair a1 a2) (fun r1 => chk 576 r1 (bnd (jX7_pair a1 a2) (fun r2 => chk 576 r2 (some (wr M_strength r1 0, wr M_wear r2 0)))))
def jX7_cut (M_thrown : Int32) (M_barrels : Int32) (M_strength : Nat → Int32) (M_wear : Nat → Int32) (M_numbers : Nat → Int32) (a1 : Int32) (a2 : Int32) : Option (Int32 × Int32 × (Nat → Int32) × (Nat → Int32) × (Nat → Int32)) :=
  bnd (jX7_isBarrel M_barrels a1) (fun r1 => (if r1 = 0 then bnd (jX7_fail 0 1) (fun r2 => some (r2.1, r2.2, M_strength, M_wear, M_numbers)) else bnd (jX7_isBarrel M_barrels a2) (fun r3 => (if r3 = 0 then bnd (jX7_fail 0 1) (fun r7 => some (r7.1, r7.2, M_strength, M_wear, M_numbers)) else bnd (jX7_isTied M_strength a1 a2) (fun r4 => (if r4 = 0 then bnd (jX7_fail 0 2) (fun r6 => some (r6.1, r6.2, M_strength, M_wear, M_numbers)) else bnd (jX7_untie M_strength M_wear a1 a2) (fun r5 => chk 3 1 (chk 3 1 (chk 3 1 (some (rd (wr M_numbers 1 (mmin 40 ((rd M_numbers 1) + 1))) 1, 0, r5.1, r5.2, wr M_numbers 1 (mmin 40 ((rd M_numbers 1) + 1)))))))))))))
def jX7_digest_L11 (M_barrels : Int32) (M_crew : Int32) (M_table : Nat → Int32) (M_strength : Nat → Int32) (M_people : Nat → Int32) (M_numbers : Nat → Int32) (n : Nat) (M_pieces_11 : Nat → Int32) (v1_11 : Int64) (v3_11 : Int32) : Option ((Nat → Int32) × Int64) :=
  match n with
  | 0 => none
  | n + 1 => (if 12 ≤ v3_11 then some (M_pieces_11, v1_11) else bnd (jX7_counted M_barrels M_crew M_table M_strength M_people M_numbers M_pieces_11 v3_11) (fun r1 => jX7_digest_L11 M_barrels M_crew M_table M_strength M_people M_numbers n r1.2 ((v1_11 * (31 : Int64)) + r1.1.toInt64) (v3_11 + 1)))
def jX7_digest_L49 (M_barrels : Int32) (M_crew : Int32) (M_fixed : Nat → Int32) (M_table : Nat → Int32) (M_strength : Nat → Int32) (M_people : Nat → Int32) (u3 : Int32) (n : Nat) (M_pieces_49 : Nat → Int32) (v1_49 : Int64) (v4_49 : Int32) : Option ((Nat → Int32) × Int64) :=
  match n with
  | 0 => none
  | n + 1 => (if 13 ≤ v4_49 then some (M_pieces_49, v1_49) else bnd (jX7_barrelTold M_barrels M_crew M_fixed M_table M_strength M_people M_pieces_49 u3 v4_49) (fun r3 => jX7_digest_L49 M_barrels M_crew M_fixed M_table M_strength M_people u3 n r3.2 ((v1_49 * (31 : Int64)) + r3.1.toInt64) (v4_49 + 1)))
def jX7_digest_L38 (M_barrels : Int32) (M_crew : Int32) (M_fixed : Nat → Int32) (M_table : Nat → Int32) (M_strength : Nat → Int32) (M_people : Nat → Int32) (n : Nat) (M_pieces_38 : Nat → Int32) (v1_38 : Int64) (v3_38 : Int32) : Option ((Nat → Int32) × Int64) :=
  match n with
  | 0 => none
  | n + 1 => (if M_barrels ≤ v3_38 then some (M_pieces_38, v1_38) else bnd (jX7_digest_L49 M_barrels M_crew M_fixed M_table M_strength M_people v3_38 FU M_pieces_38 v1_38 0) (fun r4 => jX7_digest_L38 M_barrels M_crew M_fixed M_table M_strength M_people n r4.1 r4.2 (v3_38 + 1)))
def jX7_digest_L85 (M_strength : Nat → Int32) (M_wear : Nat → Int32) (n : Nat) (v1_85 : Int64) (v3_85 : Int32) : Option (Int64) :=
  match n with
  | 0 => none
  | n + 1 => (if 576 ≤ v3_85 then some v1_85 else chk 576 v3_85 ((if rd M_strength v3_85 ≤ 0 then jX7_digest_L85 M_strength M_wear n v1_85 (v3_85 + 1) else chk 576 v3_85 (chk 576 v3_85 (jX7_digest_L85 M_strength M_wear n ((((((((v1_85 * (31 : Int64)) + ((v3_85 / 24).toInt64)) * (31 : Int64)) + ((v3_85 - v3_85 / 24 * 24).toInt64)) * (31 : Int64)) + ((rd M_strength v3_85).toInt64)) * (31 : Int64)) + ((rd M_wear v3_85).toInt64)) (v3_85 + 1))))))
def jX7_digest_L166 (M_people : Nat → Int32) (u3 : Int32) (n : Nat) (v1_166 : Int64) (v4_166 : Int32) : Option (Int64) :=
  match n with
  | 0 => none
  | n + 1 => (if 2 ≤ v4_166 then some v1_166 else chk 16 ((2 * u3) + v4_166) (jX7_digest_L166 M_people u3 n ((v1_166 * (31 : Int64)) + ((rd M_people ((2 * u3) + v4_166)).toInt64)) (v4_166 + 1)))
def jX7_digest_L155 (M_crew : Int32) (M_people : Nat → Int32) (n : Nat) (v1_155 : Int64) (v3_155 : Int32) : Option (Int64) :=
  match n with
  | 0 => none
  | n + 1 => (if M_crew ≤ v3_155 then some v1_155 else bnd (jX7_digest_L166 M_people v3_155 FU v1_155 0) (fun r7 => jX7_digest_L155 M_crew M_people n r7 (v3_155 + 1)))
def jX7_digest (M_thrown : Int32) (M_barrels : Int32) (M_crew : Int32) (M_fixed : Nat → Int32) (M_table : Nat → Int32) (M_strength : Nat → Int32) (M_wear : Nat → Int32) (M_people : Nat → Int32) (M_numbers : Nat → Int32) (M_pieces : Nat → Int32) : Option (Int64 × Int32 × (Nat → Int32)) :=
  bnd (jX7_digest_L11 M_barrels M_crew M_table M_strength M_people M_numbers FU M_pieces (571 : Int64) 0) (fun r2 => bnd (jX7_digest_L38 M_barrels M_crew M_fixed M_table M_strength M_people FU r2.1 r2.2 0) (fun r5 => bnd (jX7_digest_L85 M_strength M_wear FU r5.2 0) (fun r6 => bnd (jX7_digest_L155 M_crew M_people FU r6 0) (fun r8 => some (r8, 0, r5.1)))))
def jX7_end_L45 (M_barrels : Int32) (u3 : Int32) (n : Nat) (M_strength_45 : Nat → Int32) (M_wear_45 : Nat → Int32) (v4_45 : Int32) : Option ((Nat → Int32) × (Nat → Int32)) :=
  match n with
  | 0 => none
  | n + 1 => (if M_barrels ≤ v4_45 then some (M_strength_45, M_wear_45) else (if v4_45 = u3 then jX7_end_L45 M_barrels u3 n M_strength_45 M_wear_45 (v4_45 + 1) else bnd (jX7_untie M_strength_45 M_wear_45 u3 v4_45) (fun r2 => jX7_end_L45 M_barrels u3 n r2.1 r2.2 (v4_45 + 1))))
def jX7_end_L76 (M_crew : Int32) (u2 : Int32) (u3 : Int32) (n : Nat) (M_people_76 : Nat → Int32) (v4_76 : Int32) : Option ((Nat → Int32)) :=
  match n with
  | 0 => none
  | n + 1 => (if M_crew ≤ v4_76 then some M_people_76 else chk 16 (2 * v4_76) ((if rd M_people_76 (2 * v4_76) = u3 then chk 16 (2 * v4_76) (chk 16 ((2 * v4_76) + 1) (jX7_end_L76 M_crew u2 u3 n (wr (wr M_people_76 (2 * v4_76) (-1)) ((2 * v4_76) + 1) u2) (v4_76 + 1))) else jX7_end_L76 M_crew u2 u3 n M_people_76 (v4_76 + 1))))
def jX7_end_L2 (M_barrels : Int32) (M_crew : Int32) (M_pieces : Nat → Int32) (u1 : Int32) (u2 : Int32) (n : Nat) (M_table_2 : Nat → Int32) (M_strength_2 : Nat → Int32) (M_wear_2 : Nat → Int32) (M_people_2 : Nat → Int32) (v3_2 : Int32) : Option ((Nat → Int32) × (Nat → Int32) × (Nat → Int32) × (Nat → Int32)) :=
  match n with
  | 0 => none
  | n + 1 => (if M_barrels ≤ v3_2 then some (M_table_2, M_strength_2, M_wear_2, M_people_2) else chk 24 v3_2 ((if rd M_pieces v3_2 = u1 then bnd (jX7_set M_table_2 v3_2 2 u2) (fun r1 => jn (fun (x42 : (Nat → Int32)) => bnd (jX7_end_L45 M_barrels v3_2 FU M_strength_2 M_wear_2 0) (fun r3 => bnd (jX7_end_L76 M_crew u2 v3_2 FU M_people_2 0) (fun r4 => jX7_end_L2 M_barrels M_crew M_pieces u1 u2 n x42 r3.1 r3.2 r4 (v3_2 + 1)))) (fun k42 => if u2 = 1 then bnd (jX7_set r1 v3_2 1 0) (fun r5 => k42 r5) else k42 r1)) else jX7_end_L2 M_barrels M_crew M_pieces u1 u2 n M_table_2 M_strength_2 M_wear_2 M_people_2 (v3_2 + 1))))
def jX7_end (M_barrels : Int32) (M_crew : Int32) (M_table : Nat → Int32) (M_strength : Nat → Int32) (M_wear : Nat → Int32) (M_people : Nat → Int32) (M_pieces : Nat → Int32) (a1 : Int32) (a2 : Int32) : Option ((Nat → Int32) × (Nat → Int32) × (Nat → Int32) × (Nat → Int32)) :=
  bnd (jX7_end_L2 M_barrels M_crew M_pieces a1 a2 FU M_table M_strength M_wear M_people 0) (fun r6 => some (r6.1, r6.2.1, r6.2.2.1, r6.2.2.2))
def jX7_ways_L5  (n : Nat) (M_used_5 : Nat → Int32) (v4_5 : Int32) : Option ((Nat → Int32)) :=
  match n with
  | 0 => none
  | n + 1 => (if 576 ≤ v4_5 then some M_used_5 else chk 576 v4_5 (chkZ 0 (jX7_ways_L5 n (wr M_used_5 v4_5 0) (v4_5 + 1))))
def jX7_ways_L30  (n : Nat) (M_from_30 : Nat → Int32) (v4_30 : Int32) : Option ((Nat → Int32)) :=
  match n with
  | 0 => none
  | n + 1 => (if 24 ≤ v4_30 then some M_from_30 else chk 24 v4_30 (jX7_ways_L30 n (wr M_from_30 v4_30 (-1)) (v4_30 + 1)))
def jX7_ways_L100 (M_barrels : Int32) (M_strength : Nat → Int32) (M_used : Nat → Int32) (u6 : Int32) (n : Nat) (M_from_100 : Nat → Int32) (M_line_100 : Nat → Int32) (v4_100 : Int32) (v7_100 : Int32) : Option ((Nat → Int32) × (Nat → Int32) × Int32) :=
  match n with
  | 0 => none
  | n + 1 => (if M_barrels ≤ v7_100 then some (M_from_100, M_line_100, v4_100) else (if v7_100 = u6 then jX7_ways_L100 M_barrels M_strength M_used u6 n M_from_100 M_line_100 v4_100 (v7_100 + 1) else chk 24 v7_100 ((if rd M_from_100 v7_100 = (-1) then bnd (jX7_isTied M_strength u6 v7_100) (fun r3 => (if r3 = 0 then jX7_ways_L100 M_barrels M_strength M_used u6 n M_from_100 M_line_100 v4_100 (v7_100 + 1) else chk 576 ((24 * u6) + v7_100) ((if rd M_used ((24 * u6) + v7_100) = 0 then chk 24 v7_100 (chk 24 v4_100 (jX7_ways_L100 M_barrels M_strength M_used u6 n (wr M_from_100 v7_100 u6) (wr M_line_100 v4_100 v7_100) (v4_100 + 1) (v7_100 + 1))) else jX7_ways_L100 M_barrels M_strength M_used u6 n M_from_100 M_line_100 v4_100 (v7_100 + 1))))) else jX7_ways_L100 M_barrels M_strength M_used u6 n M_from_100 M_line_100 v4_100 (v7_100 + 1)))))
def jX7_ways_L71 (M_barrels : Int32) (M_strength : Nat → Int32) (M_used : Nat → Int32) (u2 : Int32) (n : Nat) (M_from_71 : Nat → Int32) (M_line_71 : Nat → Int32) (v4_71 : Int32) (v5_71 : Int32) : Option ((Nat → Int32) × (Nat → Int32)) :=
  match n with
  | 0 => none
  | n + 1 => (if v4_71 ≤ v5_71 then some (M_from_71, M_line_71) else chk 24 u2 ((if rd M_from_71 u2 = (-1) then chk 24 v5_71 (bnd (jX7_ways_L100 M_barrels M_strength M_used (rd M_line_71 v5_71) FU M_from_71 M_line_71 v4_71 0) (fun r4 => jX7_ways_L71 M_barrels M_strength M_used u2 n r4.1 r4.2.1 r4.2.2 (v5_71 + 1))) else some (M_from_71, M_line_71))))
def jX7_ways_L205 (M_from : Nat → Int32) (u1 : Int32) (n : Nat) (M_used_205 : Nat → Int32) (v5_205 : Int32) : Option ((Nat → Int32)) :=
  match n with
  | 0 => none
  | n + 1 => (if v5_205 = u1 then some M_used_205 else chk 24 v5_205 (chk 576 ((24 * v5_205) + (rd M_from v5_205)) ((if rd M_used_205 ((24 * v5_205) + (rd M_from v5_205)) = 0 then chk 24 v5_205 (chk 576 ((24 * (rd M_from v5_205)) + v5_205) (chkZ 1 (chk 24 v5_205 (jX7_ways_L205 M_from u1 n (wr M_used_205 ((24 * (rd M_from v5_205)) + v5_205) 1) (rd M_from v5_205))))) else chk 24 v5_205 (chk 576 ((24 * v5_205) + (rd M_from v5_205)) (chkZ 0 (chk 24 v5_205 (jX7_ways_L205 M_from u1 n (wr M_used_205 ((24 * v5_205) + (rd M_from v5_205)) 0) (rd M_from v5_205)))))))))
def jX7_ways_L27 (M_barrels : Int32) (M_strength : Nat → Int32) (u1 : Int32) (u2 : Int32) (n : Nat) (M_used_27 : Nat → Int32) (M_from_27 : Nat → Int32) (M_line_27 : Nat → Int32) (v3_27 : Int32) : Option ((Nat → Int32) × (Nat → Int32) × (Nat → Int32) × Int32) :=
  match n with
  | 0 => none
  | n + 1 => bnd (jX7_ways_L30  FU M_from_27 0) (fun r2 => chk 24 u1 (chk 24 0 (bnd (jX7_ways_L71 M_barrels M_strength M_used_27 u2 FU (wr r2 u1 u1) (wr M_line_27 0 u1) 1 0) (fun r5 => chk 24 u2 ((if rd r5.1 u2 = (-1) then some (M_used_27, r5.1, r5.2, v3_27) else bnd (jX7_ways_L205 r5.1 u1 FU M_used_27 u2) (fun r6 => jX7_ways_L27 M_barrels M_strength u1 u2 n r6 r5.1 r5.2 (v3_27 + 1))))))))
def jX7_ways (M_barrels : Int32) (M_strength : Nat → Int32) (M_used : Nat → Int32) (M_from : Nat → Int32) (M_line : Nat → Int32) (a1 : Int32) (a2 : Int32) : Option (Int32 × (Nat → Int32) × (Nat → Int32) × (Nat → Int32)) :=
  bnd (jX7_ways_L5  FU M_used 0) (fun r1 => bnd (jX7_ways_L27 M_barrels M_strength a1 a2 FU r1 M_from M_line 0) (fun r7 => some (r7.2.2.2, r7.1, r7.2.1, r7.2.2.1)))
def jX7_firm (M_thrown : Int32) (M_barrels : Int32) (M_strength : Nat → Int32) (M_used : Nat → Int32) (M_from : Nat → Int32) (M_line : Nat → Int32) (a1 : Int32) (a2 : Int32) : Option (Int32 × Int32 × (Nat → Int32) × (Nat → Int32) × (Nat → Int32)) :=
  bnd (jX7_isBarrel M_barrels a1) (fun r1 => (if r1 = 0 then bnd (jX7_fail 0 1) (fun r2 => some (r2.1, r2.2, M_used, M_from, M_line)) else bnd (jX7_isBarrel M_barrels a2) (fun r3 => (if r3 = 0 then bnd (jX7_fail 0 1) (fun r5 => some (r5.1, r5.2, M_used, M_from, M_line)) else (if a1 = a2 then some ((-1), 0, M_used, M_from, M_line) else bnd (jX7_ways M_barrels M_strength M_used M_from M_line a1 a2) (fun r4 => some (r4.1, 0, r4.2.1, r4.2.2.1, r4.2.2.2)))))))
def jX7_go (M_thrown : Int32) (M_barrels : Int32) (M_crew : Int32) (M_strength : Nat → Int32) (M_people : Nat → Int32) (a1 : Int32) (a2 : Int32) : Option (Int32 × Int32 × (Nat → Int32)) :=
  bnd (jX7_isPerson M_crew a1) (fun r1 => (if r1 = 0 then bnd (jX7_fail 0 1) (fun r2 => some (r2.1, r2.2, M_people)) else bnd (jX7_isBarrel M_barrels a2) (fun r3 => (if r3 = 0 then bnd (jX7_fail 0 1) (fun r9 => some (r9.1, r9.2, M_people)) else chk 16 (2 * a1) ((if rd M_people (2 * a1) = (-1) then bnd (jX7_fail 0 2) (fun r4 => some (r4.1, r4.2, M_people)) else (if rd M_people (2 * a1) = a2 then bnd (jX7_fail 0 2) (fun r5 => some (r5.1, r5.2, M_people)) else bnd (jX7_isTied M_strength (rd M_people (2 * a1)) a2) (fun r6 => (if r6 = 0 then bnd (jX7_fail 0 2) (fun r8 => some (r8.1, r8.2, M_people)) else chk 16 (2 * a1) (bnd (jX7_crewOn M_crew (wr M_people (2 * a1) a2) a2) (fun r7 => some (r7, 0, wr M_people (2 * a1) a2))))))))))))
def jX7_isReached_L3 (u1 : Int32) (n : Nat) (M_is_3 : Nat → Int32) (v5_3 : Int32) : Option ((Nat → Int32)) :=
  match n with
  | 0 => none
  | n + 1 => (if 24 ≤ v5_3 then some M_is_3 else (if v5_3 = u1 then chk 24 v5_3 (chkZ 1 (jX7_isReached_L3 u1 n (wr M_is_3 v5_3 1) (v5_3 + 1))) else chk 24 v5_3 (chkZ 0 (jX7_isReached_L3 u1 n (wr M_is_3 v5_3 0) (v5_3 + 1)))))
def jX7_isReached_L60 (M_barrels : Int32) (M_strength : Nat → Int32) (M_wear : Nat → Int32) (u3 : Int32) (u4 : Int32) (u6 : Int32) (n : Nat) (M_is_60 : Nat → Int32) (v5_60 : Int32) (v7_60 : Int32) : Option ((Nat → Int32) × Int32) :=
  match n with
  | 0 => none
  | n + 1 => (if M_barrels ≤ v7_60 then some (M_is_60, v5_60) else chk 24 u6 ((if rd M_is_60 u6 = 0 then some (M_is_60, v5_60) else bnd (jX7_pair u6 v7_60) (fun r2 => (if v7_60 = u6 then jX7_isReached_L60 M_barrels M_strength M_wear u3 u4 u6 n M_is_60 v5_60 (v7_60 + 1) else chk 24 v7_60 ((if rd M_is_60 v7_60 = 0 then bnd (jX7_isTied M_strength u6 v7_60) (fun r3 => (if r3 = 0 then jX7_isReached_L60 M_barrels M_strength M_wear u3 u4 u6 n M_is_60 v5_60 (v7_60 + 1) else (if r2 = u4 then jX7_isReached_L60 M_barrels M_strength M_wear u3 u4 u6 n M_is_60 v5_60 (v7_60 + 1) else chk 576 r2 (chk 576 r2 ((if u3 ≤ (rd M_strength r2) - (rd M_wear r2) then chk 24 v7_60 (chkZ 1 (jX7_isReached_L60 M_barrels M_strength M_wear u3 u4 u6 n (wr M_is_60 v7_60 1) 1 (v7_60 + 1))) else jX7_isReached_L60 M_barrels M_strength M_wear u3 u4 u6 n M_is_60 v5_60 (v7_60 + 1))))))) else jX7_isReached_L60 M_barrels M_strength M_wear u3 u4 u6 n M_is_60 v5_60 (v7_60 + 1))))))))
def jX7_isReached_L48 (M_barrels : Int32) (M_strength : Nat → Int32) (M_wear : Nat → Int32) (u3 : Int32) (u4 : Int32) (n : Nat) (M_is_48 : Nat → Int32) (v5_48 : Int32) (v6_48 : Int32) : Option ((Nat → Int32) × Int32) :=
  match n with
  | 0 => none
  | n + 1 => (if M_barrels ≤ v6_48 then some (M_is_48, v5_48) else bnd (jX7_isReached_L60 M_barrels M_strength M_wear u3 u4 v6_48 FU M_is_48 v5_48 0) (fun r4 => jX7_isReached_L48 M_barrels M_strength M_wear u3 u4 n r4.1 r4.2 (v6_48 + 1)))
def jX7_isReached_L37 (M_barrels : Int32) (M_strength : Nat → Int32) (M_wear : Nat → Int32) (u3 : Int32) (u4 : Int32) (n : Nat) (M_is_37 : Nat → Int32) (v5_37 : Int32) : Option ((Nat → Int32)) :=
  match n with
  | 0 => none
  | n + 1 => (if v5_37 = 0 then some M_is_37 else bnd (jX7_isReached_L48 M_barrels M_strength M_wear u3 u4 FU M_is_37 0 0) (fun r5 => jX7_isReached_L37 M_barrels M_strength M_wear u3 u4 n r5.1 r5.2))
def jX7_isReached (M_barrels : Int32) (M_strength : Nat → Int32) (M_wear : Nat → Int32) (M_is : Nat → Int32) (a1 : Int32) (a2 : Int32) (a3 : Int32) (a4 : Int32) : Option (Int32 × (Nat → Int32)) :=
  bnd (jX7_isReached_L3 a1 FU M_is 0) (fun r1 => bnd (jX7_isReached_L37 M_barrels M_strength M_wear a3 a4 FU r1 1) (fun r6 => chk 24 a2 (chkZ (rd r6 a2) (some (rd r6 a2, r6)))))
def jX7_hold_L29 (M_barrels : Int32) (M_strength : Nat → Int32) (M_wear : Nat → Int32) (u1 : Int32) (u2 : Int32) (n : Nat) (M_is_29 : Nat → Int32) (v3_29 : Int32) : Option ((Nat → Int32) × Int32) :=
  match n with
  | 0 => none
  | n + 1 => (if u1 = u2 then some (M_is_29, v3_29) else (if 50 ≤ v3_29 then some (M_is_29, v3_29) else bnd (jX7_isReached M_barrels M_strength M_wear M_is_29 u1 u2 (v3_29 + 1) (-1)) (fun r4 => (if r4.1 = 0 then some (r4.2, v3_29) else jX7_hold_L29 M_barrels M_strength M_wear u1 u2 n r4.2 (v3_29 + 1)))))
def jX7_hold (M_thrown : Int32) (M_barrels : Int32) (M_strength : Nat → Int32) (M_wear : Nat → Int32) (M_is : Nat → Int32) (a1 : Int32) (a2 : Int32) : Option (Int32 × Int32 × (Nat → Int32)) :=
  bnd (jX7_isBarrel M_barrels a1) (fun r1 => (if r1 = 0 then bnd (jX7_fail 0 1) (fun r2 => some (r2.1, r2.2, M_is)) else bnd (jX7_isBarrel M_barrels a2) (fun r3 => (if r3 = 0 then bnd (jX7_fail 0 1) (fun r6 => some (r6.1, r6.2, M_is)) else bnd (jX7_hold_L29 M_barrels M_strength M_wear a1 a2 FU M_is 0) (fun r5 => some (r5.2, 0, r5.1))))))
def jX7_sumIn_L5 (M_barrels : Int32) (M_crew : Int32) (M_fixed : Nat → Int32) (M_table : Nat → Int32) (M_people : Nat → Int32) (M_pieces : Nat → Int32) (u1 : Int32) (u2 : Int32) (n : Nat) (v3_5 : Int32) (v4_5 : Int32) : Option (Int32) :=
  match n with
  | 0 => none
  | n + 1 => (if M_barrels ≤ v4_5 then some v3_5 else chk 24 v4_5 ((if rd M_pieces v4_5 = u1 then (if u2 = 0 then jX7_sumIn_L5 M_barrels M_crew M_fixed M_table M_people M_pieces u1 u2 n (v3_5 + 1) (v4_5 + 1) else (if u2 = 1 then bnd (jX7_lifts M_fixed M_table v4_5) (fun r3 => jX7_sumIn_L5 M_barrels M_crew M_fixed M_table M_people M_pieces u1 u2 n (v3_5 + r3) (v4_5 + 1)) else (if u2 = 2 then bnd (jX7_loadOf M_crew M_table M_people v4_5) (fun r2 => jX7_sumIn_L5 M_barrels M_crew M_fixed M_table M_people M_pieces u1 u2 n (v3_5 + r2) (v4_5 + 1)) else bnd (jX7_crewOn M_crew M_people v4_5) (fun r1 => jX7_sumIn_L5 M_barrels M_crew M_fixed M_table M_people M_pieces u1 u2 n (v3_5 + r1) (v4_5 + 1))))) else jX7_sumIn_L5 M_barrels M_crew M_fixed M_table M_people M_pieces u1 u2 n v3_5 (v4_5 + 1))))
def jX7_sumIn (M_barrels : Int32) (M_crew : Int32) (M_fixed : Nat → Int32) (M_table : Nat → Int32) (M_people : Nat → Int32) (M_pieces : Nat → Int32) (a1 : Int32) (a2 : Int32) : Option (Int32) :=
  bnd (jX7_sumIn_L5 M_barrels M_crew M_fixed M_table M_people M_pieces a1 a2 FU 0 0) (fun r4 => some r4)
def jX7_waterAt_L7 (M_waterTable : Nat → Int32) (u1 : Int32) (u2 : Int32) (n : Nat) (v3_7 : Int32) : Option ((Int32) ⊕ (Unit)) :=
  match n with
  | 0 => none
  | n + 1 => (if v3_7 < 0 then some (Sum.inr ()) else chk 56 (7 * v3_7) (chk 56 ((7 * v3_7) + 2) (bnd (jX7_isIn (u1 - (rd M_waterTable (7 * v3_7))) 0 ((rd M_waterTable ((7 * v3_7) + 2)) - 1)) (fun r1 => (if r1 = 0 then jX7_waterAt_L7 M_waterTable u1 u2 n (v3_7 + (-1)) else chk 56 ((7 * v3_7) + 1) (chk 56 ((7 * v3_7) + 3) (bnd (jX7_isIn (u2 - (rd M_waterTable ((7 * v3_7) + 1))) 0 ((rd M_waterTable ((7 * v3_7) + 3)) - 1)) (fun r2 => (if r2 = 0 then jX7_waterAt_L7 M_waterTable u1 u2 n (v3_7 + (-1)) else some (Sum.inl v3_7))))))))))
def jX7_waterAt (M_waters : Int32) (M_waterTable : Nat → Int32) (a1 : Int32) (a2 : Int32) : Option (Int32) :=
  bnd (jX7_waterAt_L7 M_waterTable a1 a2 FU (M_waters - 1)) (fun r3 => sel r3 (fun r3_0 => some r3_0) (fun r3_1 => some (-1)))
def jX7_seaTold (M_waters : Int32) (M_waterTable : Nat → Int32) (a1 : Int32) (a2 : Int32) (a3 : Int32) : Option (Int32) :=
  bnd (jX7_waterAt M_waters M_waterTable a1 a2) (fun r1 => (if r1 = (-1) then some 0 else bnd (jX7_waterAt M_waters M_waterTable a1 a2) (fun r2 => chk 56 (((7 * r2) + 4) + a3) (some (rd M_waterTable (((7 * r2) + 4) + a3))))))
def jX7_stress (M_waters : Int32) (M_crew : Int32) (M_waterTable : Nat → Int32) (M_table : Nat → Int32) (M_people : Nat → Int32) (a1 : Int32) (a2 : Int32) : Option (Int32) :=
  bnd (jX7_ba M_table a1 3) (fun r1 => bnd (jX7_ba M_table a1 4) (fun r2 => bnd (jX7_seaTold M_waters M_waterTable r1 r2 2) (fun r3 => bnd (jX7_loadOf M_crew M_table M_people a1) (fun r4 => bnd (jX7_loadOf M_crew M_table M_people a2) (fun r5 => some (r3 + ((mabs (r4 - r5)) / 2)))))))
def jX7_hourOn_L4 (M_barrels : Int32) (M_fixed : Nat → Int32) (n : Nat) (M_table_4 : Nat → Int32) (v2_4 : Int32) : Option ((Nat → Int32)) :=
  match n with
  | 0 => none
  | n + 1 => (if M_barrels ≤ v2_4 then some M_table_4 else bnd (jX7_floats M_table_4 v2_4) (fun r1 => (if r1 = 0 then jX7_hourOn_L4 M_barrels M_fixed n M_table_4 (v2_4 + 1) else bnd (jX7_ba M_table_4 v2_4 0) (fun r2 => bnd (jX7_fx M_fixed v2_4 2) (fun r3 => bnd (jX7_set M_table_4 v2_4 0 (mmin 100 (r2 + r3))) (fun r4 => jX7_hourOn_L4 M_barrels M_fixed n r4 (v2_4 + 1)))))))
def jX7_hourOn_L56 (M_barrels : Int32) (M_crew : Int32) (M_fixed : Nat → Int32) (M_pieces : Nat → Int32) (n : Nat) (M_table_56 : Nat → Int32) (M_strength_56 : Nat → Int32) (M_wear_56 : Nat → Int32) (M_people_56 : Nat → Int32) (v2_56 : Int32) : Option ((Nat → Int32) × (Nat → Int32) × (Nat → Int32) × (Nat → Int32)) :=
  match n with
  | 0 => none
  | n + 1 => (if M_barrels ≤ v2_56 then some (M_table_56, M_strength_56, M_wear_56, M_people_56) else chk 24 v2_56 ((if rd M_pieces v2_56 = v2_56 then bnd (jX7_sumIn M_barrels M_crew M_fixed M_table_56 M_people_56 M_pieces v2_56 2) (fun r7 => bnd (jX7_sumIn M_barrels M_crew M_fixed M_table_56 M_people_56 M_pieces v2_56 1) (fun r8 => (if r7 ≤ r8 then jX7_hourOn_L56 M_barrels M_crew M_fixed M_pieces n M_table_56 M_strength_56 M_wear_56 M_people_56 (v2_56 + 1) else bnd (jX7_end M_barrels M_crew M_table_56 M_strength_56 M_wear_56 M_people_56 M_pieces v2_56 1) (fun r9 => jX7_hourOn_L56 M_barrels M_crew M_fixed M_pieces n r9.1 r9.2.1 r9.2.2.1 r9.2.2.2 (v2_56 + 1))))) else jX7_hourOn_L56 M_barrels M_crew M_fixed M_pieces n M_table_56 M_strength_56 M_wear_56 M_people_56 (v2_56 + 1))))
def jX7_hourOn_L115 (M_waters : Int32) (M_barrels : Int32) (M_crew : Int32) (M_waterTable : Nat → Int32) (M_table : Nat → Int32) (M_people : Nat → Int32) (u2 : Int32) (n : Nat) (M_strength_115 : Nat → Int32) (M_wear_115 : Nat → Int32) (v1_115 : Int32) (v3_115 : Int32) : Option ((Nat → Int32) × (Nat → Int32) × Int32) :=
  match n with
  | 0 => none
  | n + 1 => (if M_barrels ≤ v3_115 then some (M_strength_115, M_wear_115, v1_115) else bnd (jX7_isTied M_strength_115 u2 v3_115) (fun r11 => (if r11 = 0 then jX7_hourOn_L115 M_waters M_barrels M_crew M_waterTable M_table M_people u2 n M_strength_115 M_wear_115 v1_115 (v3_115 + 1) else bnd (jX7_stress M_waters M_crew M_waterTable M_table M_people u2 v3_115) (fun r12 => bnd (jX7_pair u2 v3_115) (fun r13 => chk 576 r13 (bnd (jX7_pair u2 v3_115) (fun r14 => chk 576 r14 ((if r12 ≤ (rd M_strength_115 r13) - (rd M_wear_115 r14) then bnd (jX7_pair u2 v3_115) (fun r15 => chk 576 r15 (chk 576 r15 (jX7_hourOn_L115 M_waters M_barrels M_crew M_waterTable M_table M_people u2 n M_strength_115 (wr M_wear_115 r15 ((rd M_wear_115 r15) + (r12 / 4))) v1_115 (v3_115 + 1)))) else bnd (jX7_untie M_strength_115 M_wear_115 u2 v3_115) (fun r16 => jX7_hourOn_L115 M_waters M_barrels M_crew M_waterTable M_table M_people u2 n r16.1 r16.2 (v1_115 + 1) (v3_115 + 1)))))))))))
def jX7_hourOn_L103 (M_waters : Int32) (M_barrels : Int32) (M_crew : Int32) (M_waterTable : Nat → Int32) (M_table : Nat → Int32) (M_people : Nat → Int32) (n : Nat) (M_strength_103 : Nat → Int32) (M_wear_103 : Nat → Int32) (v1_103 : Int32) (v2_103 : Int32) : Option ((Nat → Int32) × (Nat → Int32) × Int32) :=
  match n with
  | 0 => none
  | n + 1 => (if M_barrels ≤ v2_103 then some (M_strength_103, M_wear_103, v1_103) else bnd (jX7_hourOn_L115 M_waters M_barrels M_crew M_waterTable M_table M_people v2_103 FU M_strength_103 M_wear_103 v1_103 (v2_103 + 1)) (fun r17 => jX7_hourOn_L103 M_waters M_barrels M_crew M_waterTable M_table M_people n r17.1 r17.2.1 r17.2.2 (v2_103 + 1)))
def jX7_hourOn_L351 (M_barrels : Int32) (M_pieces : Nat → Int32) (u2 : Int32) (u6 : Int32) (u7 : Int32) (n : Nat) (M_table_351 : Nat → Int32) (v8_351 : Int32) : Option ((Nat → Int32)) :=
  match n with
  | 0 => none
  | n + 1 => (if M_barrels ≤ v8_351 then some M_table_351 else chk 24 v8_351 ((if rd M_pieces v8_351 = u2 then bnd (jX7_set M_table_351 v8_351 3 u6) (fun r26 => bnd (jX7_set r26 v8_351 4 u7) (fun r27 => jX7_hourOn_L351 M_barrels M_pieces u2 u6 u7 n r27 (v8_351 + 1))) else jX7_hourOn_L351 M_barrels M_pieces u2 u6 u7 n M_table_351 (v8_351 + 1))))
def jX7_hourOn_L216 (M_waters : Int32) (M_windX : Int32) (M_windY : Int32) (M_barrels : Int32) (M_crew : Int32) (M_waterTable : Nat → Int32) (M_fixed : Nat → Int32) (M_people : Nat → Int32) (M_pieces : Nat → Int32) (n : Nat) (M_table_216 : Nat → Int32) (v2_216 : Int32) : Option ((Nat → Int32)) :=
  match n with
  | 0 => none
  | n + 1 => (if M_barrels ≤ v2_216 then some M_table_216 else chk 24 v2_216 ((if rd M_pieces v2_216 = v2_216 then bnd (jX7_sumIn M_barrels M_crew M_fixed M_table_216 M_people M_pieces v2_216 2) (fun r20 => bnd (jX7_sumIn M_barrels M_crew M_fixed M_table_216 M_people M_pieces v2_216 1) (fun r21 => jn (fun (x259 : Int32) => bnd (jX7_ba M_table_216 v2_216 3) (fun r22 => bnd (jX7_ba M_table_216 v2_216 4) (fun r23 => bnd (jX7_seaTold M_waters M_waterTable r22 r23 0) (fun r24 => jn (fun (x303 : Int32) => bnd (jX7_seaTold M_waters M_waterTable r22 r23 1) (fun r25 => jn (fun (x339 : Int32) => bnd (jX7_hourOn_L351 M_barrels M_pieces v2_216 (mmax 0 (mmin 29 ((r22 + r24) + x303))) (mmax 0 (mmin 19 ((r23 + r25) + x339))) FU M_table_216 0) (fun r28 => jX7_hourOn_L216 M_waters M_windX M_windY M_barrels M_crew M_waterTable M_fixed M_people M_pieces n r28 (v2_216 + 1))) (fun k339 => if x259 = 0 then k339 0 else k339 M_windY))) (fun k303 => if x259 = 0 then k303 0 else k303 M_windX))))) (fun k259 => if r21 ≤ 2 * r20 then k259 0 else k259 1))) else jX7_hourOn_L216 M_waters M_windX M_windY M_barrels M_crew M_waterTable M_fixed M_people M_pieces n M_table_216 (v2_216 + 1))))
def jX7_hourOn_L406 (M_barrels : Int32) (M_crew : Int32) (M_pieces : Nat → Int32) (n : Nat) (M_table_406 : Nat → Int32) (M_strength_406 : Nat → Int32) (M_wear_406 : Nat → Int32) (M_people_406 : Nat → Int32) (v2_406 : Int32) : Option ((Nat → Int32) × (Nat → Int32) × (Nat → Int32) × (Nat → Int32)) :=
  match n with
  | 0 => none
  | n + 1 => (if M_barrels ≤ v2_406 then some (M_table_406, M_strength_406, M_wear_406, M_people_406) else chk 24 v2_406 ((if rd M_pieces v2_406 = v2_406 then bnd (jX7_ba M_table_406 v2_406 3) (fun r30 => (if r30 = 29 then bnd (jX7_end M_barrels M_crew M_table_406 M_strength_406 M_wear_406 M_people_406 M_pieces v2_406 2) (fun r31 => jX7_hourOn_L406 M_barrels M_crew M_pieces n r31.1 r31.2.1 r31.2.2.1 r31.2.2.2 (v2_406 + 1)) else jX7_hourOn_L406 M_barrels M_crew M_pieces n M_table_406 M_strength_406 M_wear_406 M_people_406 (v2_406 + 1))) else jX7_hourOn_L406 M_barrels M_crew M_pieces n M_table_406 M_strength_406 M_wear_406 M_people_406 (v2_406 + 1))))
def jX7_hourOn (M_waters : Int32) (M_windX : Int32) (M_windY : Int32) (M_barrels : Int32) (M_crew : Int32) (M_waterTable : Nat → Int32) (M_fixed : Nat → Int32) (M_table : Nat → Int32) (M_strength : Nat → Int32) (M_wear : Nat → Int32) (M_people : Nat → Int32) (M_numbers : Nat → Int32) (M_pieces : Nat → Int32) : Option (Int32 × (Nat → Int32) × (Nat → Int32) × (Nat → Int32) × (Nat → Int32) × (Nat → Int32) × (Nat → Int32)) :=
  bnd (jX7_hourOn_L4 M_barrels M_fixed FU M_table 0) (fun r5 => bnd (jX7_name M_barrels r5 M_strength M_pieces) (fun r6 => bnd (jX7_hourOn_L56 M_barrels M_crew M_fixed r6 FU r5 M_strength M_wear M_people 0) (fun r10 => bnd (jX7_hourOn_L103 M_waters M_barrels M_crew M_waterTable r10.1 r10.2.2.2 FU r10.2.1 r10.2.2.1 0 0) (fun r18 => bnd (jX7_name M_barrels r10.1 r18.1 r6) (fun r19 => bnd (jX7_hourOn_L216 M_waters M_windX M_windY M_barrels M_crew M_waterTable M_fixed r10.2.2.2 r19 FU r10.1 0) (fun r29 => bnd (jX7_hourOn_L406 M_barrels M_crew r19 FU r29 r18.1 r18.2.1 r10.2.2.2 0) (fun r32 => chk 3 0 (chk 3 0 (chk 3 2 (chk 3 2 (some (r18.2.2, r32.1, r32.2.1, r32.2.2.1, r32.2.2.2, wr (wr M_numbers 0 ((rd M_numbers 0) + 1)) 2 ((rd (wr M_numbers 0 ((rd M_numbers 0) + 1)) 2) + r18.2.2), r19))))))))))))
def jX7_lashing (M_thrown : Int32) (M_waters : Int32) (M_barrels : Int32) (M_crew : Int32) (M_waterTable : Nat → Int32) (M_table : Nat → Int32) (M_strength : Nat → Int32) (M_wear : Nat → Int32) (M_people : Nat → Int32) (a1 : Int32) (a2 : Int32) (a3 : Int32) : Option (Int32 × Int32) :=
  bnd (jX7_isBarrel M_barrels a1) (fun r1 => (if r1 = 0 then bnd (jX7_fail 0 1) (fun r2 => some (r2.1, r2.2)) else bnd (jX7_isBarrel M_barrels a2) (fun r3 => (if r3 = 0 then bnd (jX7_fail 0 1) (fun r4 => some (r4.1, r4.2)) else bnd (jX7_isIn a3 0 2) (fun r5 => (if r5 = 0 then bnd (jX7_fail 0 1) (fun r10 => some (r10.1, r10.2)) else bnd (jX7_isTied M_strength a1 a2) (fun r6 => (if r6 = 0 then some (0, 0) else (if a3 = 0 then bnd (jX7_pair a1 a2) (fun r9 => chk 576 r9 (some (rd M_strength r9, 0))) else (if a3 = 1 then bnd (jX7_pair a1 a2) (fun r8 => chk 576 r8 (some (rd M_wear r8, 0))) else bnd (jX7_stress M_waters M_crew M_waterTable M_table M_people a1 a2) (fun r7 => some (r7, 0))))))))))))
def jX7_load (M_thrown : Int32) (M_barrels : Int32) (M_table : Nat → Int32) (a1 : Int32) (a2 : Int32) : Option (Int32 × Int32 × (Nat → Int32)) :=
  bnd (jX7_isBarrel M_barrels a1) (fun r1 => (if r1 = 0 then bnd (jX7_fail 0 1) (fun r8 => some (r8.1, r8.2, M_table)) else bnd (jX7_isIn a2 0 30) (fun r2 => (if r2 = 0 then bnd (jX7_fail 0 2) (fun r7 => some (r7.1, r7.2, M_table)) else bnd (jX7_floats M_table a1) (fun r3 => (if r3 = 0 then bnd (jX7_fail 0 3) (fun r6 => some (r6.1, r6.2, M_table)) else bnd (jX7_ba M_table a1 1) (fun r4 => bnd (jX7_set M_table a1 1 a2) (fun r5 => some (r4, 0, r5)))))))))
def jX7_pass_L25 (M_waters : Int32) (M_windX : Int32) (M_windY : Int32) (M_barrels : Int32) (M_crew : Int32) (M_waterTable : Nat → Int32) (M_fixed : Nat → Int32) (u1 : Int32) (n : Nat) (M_table_25 : Nat → Int32) (M_strength_25 : Nat → Int32) (M_wear_25 : Nat → Int32) (M_people_25 : Nat → Int32) (M_numbers_25 : Nat → Int32) (M_pieces_25 : Nat → Int32) (v2_25 : Int32) (v3_25 : Int32) : Option ((Nat → Int32) × (Nat → Int32) × (Nat → Int32) × (Nat → Int32) × (Nat → Int32) × (Nat → Int32) × Int32) :=
  match n with
  | 0 => none
  | n + 1 => (if u1 ≤ v3_25 then some (M_table_25, M_strength_25, M_wear_25, M_people_25, M_numbers_25, M_pieces_25, v2_25) else bnd (jX7_hourOn M_waters M_windX M_windY M_barrels M_crew M_waterTable M_fixed M_table_25 M_strength_25 M_wear_25 M_people_25 M_numbers_25 M_pieces_25) (fun r2 => jX7_pass_L25 M_waters M_windX M_windY M_barrels M_crew M_waterTable M_fixed u1 n r2.2.1 r2.2.2.1 r2.2.2.2.1 r2.2.2.2.2.1 r2.2.2.2.2.2.1 r2.2.2.2.2.2.2 (v2_25 + r2.1) (v3_25 + 1)))
def jX7_pass (M_thrown : Int32) (M_waters : Int32) (M_windX : Int32) (M_windY : Int32) (M_barrels : Int32) (M_crew : Int32) (M_waterTable : Nat → Int32) (M_fixed : Nat → Int32) (M_table : Nat → Int32) (M_strength : Nat → Int32) (M_wear : Nat → Int32) (M_people : Nat → Int32) (M_numbers : Nat → Int32) (M_pieces : Nat → Int32) (a1 : Int32) : Option (Int32 × Int32 × (Nat → Int32) × (Nat → Int32) × (Nat → Int32) × (Nat → Int32) × (Nat → Int32) × (Nat → Int32)) :=
  bnd (jX7_isIn a1 1 100) (fun r1 => (if r1 = 0 then bnd (jX7_fail 0 1) (fun r4 => some (r4.1, r4.2, M_table, M_strength, M_wear, M_people, M_numbers, M_pieces)) else bnd (jX7_pass_L25 M_waters M_windX M_windY M_barrels M_crew M_waterTable M_fixed a1 FU M_table M_strength M_wear M_people M_numbers M_pieces 0 0) (fun r3 => some (r3.2.2.2.2.2.2, 0, r3.1, r3.2.1, r3.2.2.1, r3.2.2.2.1, r3.2.2.2.2.1, r3.2.2.2.2.2.1))))
def jX7_piece_L81 (M_barrels : Int32) (M_strength : Nat → Int32) (M_wear : Nat → Int32) (M_pieces : Nat → Int32) (u1 : Int32) (u4 : Int32) (n : Nat) (M_is_81 : Nat → Int32) (v3_81 : Int32) (v5_81 : Int32) : Option ((Nat → Int32) × Int32) :=
  match n with
  | 0 => none
  | n + 1 => (if M_barrels ≤ v5_81 then some (M_is_81, v3_81) else chk 24 u4 (chk 24 u1 ((if rd M_pieces u4 = rd M_pieces u1 then bnd (jX7_isTied M_strength u4 v5_81) (fun r5 => (if r5 = 0 then jX7_piece_L81 M_barrels M_strength M_wear M_pieces u1 u4 n M_is_81 v3_81 (v5_81 + 1) else bnd (jX7_pair u4 v5_81) (fun r6 => bnd (jX7_isReached M_barrels M_strength M_wear M_is_81 u4 v5_81 0 r6) (fun r7 => (if r7.1 = 0 then jX7_piece_L81 M_barrels M_strength M_wear M_pieces u1 u4 n r7.2 (v3_81 + 1) (v5_81 + 1) else jX7_piece_L81 M_barrels M_strength M_wear M_pieces u1 u4 n r7.2 v3_81 (v5_81 + 1)))))) else jX7_piece_L81 M_barrels M_strength M_wear M_pieces u1 u4 n M_is_81 v3_81 (v5_81 + 1)))))
def jX7_piece_L66 (M_barrels : Int32) (M_strength : Nat → Int32) (M_wear : Nat → Int32) (M_pieces : Nat → Int32) (u1 : Int32) (n : Nat) (M_is_66 : Nat → Int32) (v3_66 : Int32) (v4_66 : Int32) : Option ((Nat → Int32) × Int32) :=
  match n with
  | 0 => none
  | n + 1 => (if M_barrels ≤ v4_66 then some (M_is_66, v3_66) else bnd (jX7_piece_L81 M_barrels M_strength M_wear M_pieces u1 v4_66 FU M_is_66 v3_66 (v4_66 + 1)) (fun r8 => jX7_piece_L66 M_barrels M_strength M_wear M_pieces u1 n r8.1 r8.2 (v4_66 + 1)))
def jX7_piece (M_thrown : Int32) (M_barrels : Int32) (M_crew : Int32) (M_fixed : Nat → Int32) (M_table : Nat → Int32) (M_strength : Nat → Int32) (M_wear : Nat → Int32) (M_people : Nat → Int32) (M_pieces : Nat → Int32) (M_is : Nat → Int32) (a1 : Int32) (a2 : Int32) : Option (Int32 × Int32 × (Nat → Int32) × (Nat → Int32)) :=
  bnd (jX7_isBarrel M_barrels a1) (fun r1 => (if r1 = 0 then bnd (jX7_fail 0 1) (fun r2 => some (r2.1, r2.2, M_pieces, M_is)) else bnd (jX7_isIn a2 0 4) (fun r3 => (if r3 = 0 then bnd (jX7_fail 0 1) (fun r11 => some (r11.1, r11.2, M_pieces, M_is)) else bnd (jX7_name M_barrels M_table M_strength M_pieces) (fun r4 => chk 24 a1 ((if rd r4 a1 = (-1) then some (0, 0, r4, M_is) else (if 4 ≤ a2 then bnd (jX7_piece_L66 M_barrels M_strength M_wear r4 a1 FU M_is 0 0) (fun r9 => some (r9.2, 0, r4, r9.1)) else chk 24 a1 (bnd (jX7_sumIn M_barrels M_crew M_fixed M_table M_people r4 (rd r4 a1) a2) (fun r10 => some (r10, 0, r4, M_is)))))))))))
def jX7_sea_L73 (M_barrels : Int32) (M_table : Nat → Int32) (u1 : Int32) (u2 : Int32) (n : Nat) (v4_73 : Int32) (v5_73 : Int32) : Option (Int32) :=
  match n with
  | 0 => none
  | n + 1 => (if M_barrels ≤ v5_73 then some v4_73 else bnd (jX7_floats M_table v5_73) (fun r6 => (if r6 = 0 then jX7_sea_L73 M_barrels M_table u1 u2 n (v4_73 + 0) (v5_73 + 1) else bnd (jX7_ba M_table v5_73 3) (fun r7 => (if r7 = u1 then bnd (jX7_ba M_table v5_73 4) (fun r8 => (if r8 = u2 then jX7_sea_L73 M_barrels M_table u1 u2 n (v4_73 + 1) (v5_73 + 1) else jX7_sea_L73 M_barrels M_table u1 u2 n (v4_73 + 0) (v5_73 + 1))) else jX7_sea_L73 M_barrels M_table u1 u2 n (v4_73 + 0) (v5_73 + 1))))))
def jX7_sea (M_thrown : Int32) (M_waters : Int32) (M_barrels : Int32) (M_waterTable : Nat → Int32) (M_table : Nat → Int32) (a1 : Int32) (a2 : Int32) (a3 : Int32) : Option (Int32 × Int32) :=
  bnd (jX7_isIn a1 0 29) (fun r1 => (if r1 = 0 then bnd (jX7_fail 0 1) (fun r2 => some (r2.1, r2.2)) else bnd (jX7_isIn a2 0 19) (fun r3 => (if r3 = 0 then bnd (jX7_fail 0 1) (fun r4 => some (r4.1, r4.2)) else bnd (jX7_isIn a3 0 4) (fun r5 => (if r5 = 0 then bnd (jX7_fail 0 1) (fun r12 => some (r12.1, r12.2)) else (if 4 ≤ a3 then bnd (jX7_sea_L73 M_barrels M_table a1 a2 FU 0 0) (fun r9 => some (r9, 0)) else (if a3 = 3 then bnd (jX7_waterAt M_waters M_waterTable a1 a2) (fun r11 => some (r11, 0)) else bnd (jX7_seaTold M_waters M_waterTable a1 a2 a3) (fun r10 => some (r10, 0))))))))))
def jX7_setWind (M_thrown : Int32) (M_windX : Int32) (M_windY : Int32) (a1 : Int32) (a2 : Int32) : Option (Int32 × Int32 × Int32 × Int32) :=
  bnd (jX7_isIn a1 (-2) 2) (fun r1 => (if r1 = 0 then bnd (jX7_fail 0 1) (fun r2 => some (r2.1, r2.2, M_windX, M_windY)) else bnd (jX7_isIn a2 (-2) 2) (fun r3 => (if r3 = 0 then bnd (jX7_fail 0 1) (fun r4 => some (r4.1, r4.2, M_windX, M_windY)) else some (((5 * (M_windX + 2)) + M_windY) + 2, 0, a1, a2)))))
def jX7_thrown (M_thrown : Int32) : Option (Int32) :=
  some M_thrown
def jX7_tie (M_thrown : Int32) (M_barrels : Int32) (M_fixed : Nat → Int32) (M_table : Nat → Int32) (M_strength : Nat → Int32) (M_wear : Nat → Int32) (M_numbers : Nat → Int32) (a1 : Int32) (a2 : Int32) (a3 : Int32) : Option (Int32 × Int32 × (Nat → Int32) × (Nat → Int32) × (Nat → Int32)) :=
  bnd (jX7_isBarrel M_barrels a1) (fun r1 => (if r1 = 0 then bnd (jX7_fail 0 1) (fun r2 => some (r2.1, r2.2, M_strength, M_wear, M_numbers)) else bnd (jX7_isBarrel M_barrels a2) (fun r3 => (if r3 = 0 then bnd (jX7_fail 0 1) (fun r22 => some (r22.1, r22.2, M_strength, M_wear, M_numbers)) else (if a1 = a2 then bnd (jX7_fail 0 2) (fun r4 => some (r4.1, r4.2, M_strength, M_wear, M_numbers)) else bnd (jX7_isIn a3 1 50) (fun r5 => (if r5 = 0 then bnd (jX7_fail 0 2) (fun r21 => some (r21.1, r21.2, M_strength, M_wear, M_numbers)) else bnd (jX7_floats M_table a1) (fun r6 => (if r6 = 0 then bnd (jX7_fail 0 3) (fun r7 => some (r7.1, r7.2, M_strength, M_wear, M_numbers)) else bnd (jX7_floats M_table a2) (fun r8 => (if r8 = 0 then bnd (jX7_fail 0 3) (fun r9 => some (r9.1, r9.2, M_strength, M_wear, M_numbers)) else bnd (jX7_areBeside M_fixed a1 a2) (fun r10 => (if r10 = 0 then bnd (jX7_fail 0 3) (fun r11 => some (r11.1, r11.2, M_strength, M_wear, M_numbers)) else bnd (jX7_ba M_table a1 3) (fun r12 => bnd (jX7_ba M_table a2 3) (fun r13 => (if r12 = r13 then bnd (jX7_ba M_table a1 4) (fun r15 => bnd (jX7_ba M_table a2 4) (fun r16 => (if r15 = r16 then chk 3 1 ((if rd M_numbers 1 = 0 then bnd (jX7_fail 0 3) (fun r20 => some (r20.1, r20.2, M_strength, M_wear, M_numbers)) else bnd (jX7_pair a1 a2) (fun r18 => chk 576 r18 (bnd (jX7_pair a1 a2) (fun r19 => chk 576 r19 (chk 3 1 (chk 3 1 (chk 3 1 (some (rd (wr M_numbers 1 ((rd M_numbers 1) - 1)) 1, 0, wr M_strength r18 a3, wr M_wear r19 0, wr M_numbers 1 ((rd M_numbers 1) - 1))))))))))) else bnd (jX7_fail 0 3) (fun r17 => some (r17.1, r17.2, M_strength, M_wear, M_numbers))))) else bnd (jX7_fail 0 3) (fun r14 => some (r14.1, r14.2, M_strength, M_wear, M_numbers))))))))))))))))))
def bud {α : Type} (bu : Nat) (k : Nat → Option α) : Option α := match bu with
  | 0 => none
  | b + 1 => k b
theorem bud_s {α : Type} {bu : Nat} {k : Nat → Option α} {r : α} (h : bud bu k = some r) : ∃ b, bu = b + 1 ∧ k b = some r := by
  cases bu with
  | zero => cases h
  | succ b => exact ⟨b, rfl, h⟩
def jX7_look_L8 (M_waters : Int32) (M_windX : Int32) (M_windY : Int32) (M_barrels : Int32) (M_crew : Int32) (M_waterTable : Nat → Int32) (M_fixed : Nat → Int32) (u1 : Int32) (n : Nat) (M_table_8 : Nat → Int32) (M_strength_8 : Nat → Int32) (M_wear_8 : Nat → Int32) (M_people_8 : Nat → Int32) (M_numbers_8 : Nat → Int32) (M_pieces_8 : Nat → Int32) (v4_8 : Int32) : Option ((Nat → Int32) × (Nat → Int32) × (Nat → Int32) × (Nat → Int32) × (Nat → Int32) × (Nat → Int32)) :=
  match n with
  | 0 => none
  | n + 1 => (if u1 ≤ v4_8 then some (M_table_8, M_strength_8, M_wear_8, M_people_8, M_numbers_8, M_pieces_8) else bnd (jX7_hourOn M_waters M_windX M_windY M_barrels M_crew M_waterTable M_fixed M_table_8 M_strength_8 M_wear_8 M_people_8 M_numbers_8 M_pieces_8) (fun r1 => jX7_look_L8 M_waters M_windX M_windY M_barrels M_crew M_waterTable M_fixed u1 n r1.2.1 r1.2.2.1 r1.2.2.2.1 r1.2.2.2.2.1 r1.2.2.2.2.2.1 r1.2.2.2.2.2.2 (v4_8 + 1)))
def jX7_look (M_waters : Int32) (M_windX : Int32) (M_windY : Int32) (M_barrels : Int32) (M_crew : Int32) (M_waterTable : Nat → Int32) (M_fixed : Nat → Int32) (M_table : Nat → Int32) (M_strength : Nat → Int32) (M_wear : Nat → Int32) (M_people : Nat → Int32) (M_numbers : Nat → Int32) (M_pieces : Nat → Int32) (a1 : Int32) (a2 : Int32) : Option (Int32 × (Nat → Int32)) :=
  bnd (jX7_look_L8 M_waters M_windX M_windY M_barrels M_crew M_waterTable M_fixed a1 FU M_table M_strength M_wear M_people M_numbers M_pieces 0) (fun r2 => (if a2 = 0 then bnd (jX7_counted M_barrels M_crew r2.1 r2.2.1 r2.2.2.2.1 r2.2.2.2.2.1 r2.2.2.2.2.2 2) (fun r6 => some (r6.1, r6.2)) else (if a2 = 1 then bnd (jX7_counted M_barrels M_crew r2.1 r2.2.1 r2.2.2.2.1 r2.2.2.2.2.1 r2.2.2.2.2.2 6) (fun r5 => some (r5.1, r5.2)) else (if a2 = 2 then bnd (jX7_counted M_barrels M_crew r2.1 r2.2.1 r2.2.2.2.1 r2.2.2.2.2.1 r2.2.2.2.2.2 8) (fun r4 => some (r4.1, r4.2)) else bnd (jX7_counted M_barrels M_crew r2.1 r2.2.1 r2.2.2.2.1 r2.2.2.2.2.1 r2.2.2.2.2.2 7) (fun r3 => some (r3.1, r3.2))))))
def jX7_foresee (M_thrown : Int32) (M_waters : Int32) (M_windX : Int32) (M_windY : Int32) (M_barrels : Int32) (M_crew : Int32) (M_waterTable : Nat → Int32) (M_fixed : Nat → Int32) (M_table : Nat → Int32) (M_strength : Nat → Int32) (M_wear : Nat → Int32) (M_people : Nat → Int32) (M_numbers : Nat → Int32) (M_pieces : Nat → Int32) (a1 : Int32) (a2 : Int32) : Option (Int32 × Int32 × (Nat → Int32)) :=
  bnd (jX7_isIn a1 1 100) (fun r1 => (if r1 = 0 then bnd (jX7_fail 0 1) (fun r5 => some (r5.1, r5.2, M_pieces)) else bnd (jX7_isIn a2 0 3) (fun r2 => (if r2 = 0 then bnd (jX7_fail 0 2) (fun r3 => some (r3.1, r3.2, M_pieces)) else bnd (jX7_look M_waters M_windX M_windY M_barrels M_crew M_waterTable M_fixed M_table M_strength M_wear M_people M_numbers M_pieces a1 a2) (fun r4 => some (r4.1, 0, r4.2))))))
