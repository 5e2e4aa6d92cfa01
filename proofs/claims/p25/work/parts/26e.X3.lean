abbrev wX3_copyFrom (c : Nat → ClassId) (R : Nat → Nat) (B : Nat → Nat) (K : Nat → Nat) (Q : Nat → Nat) (F : Nat → Nat) (FB : Nat → Nat) (FK : Nat → Nat) (FQ : Nat → Nat) (R_hour : Int32) (R_broken : Int32) (B_number : Int32) (B_column : Nat → Int32) (B_row : Nat → Int32) (B_lift : Nat → Int32) (B_leak : Nat → Int32) (B_water : Nat → Int32) (B_goods : Nat → Int32) (B_people : Nat → Int32) (B_state : Nat → Int32) (B_x : Nat → Int32) (B_y : Nat → Int32) (B_piece : Nat → Int32) (K_number : Int32) (K_seat : Nat → Int32) (K_state : Nat → Int32) (Q_number : Int32) (Q_first : Nat → Int32) (Q_second : Nat → Int32) (Q_strength : Nat → Int32) (Q_wear : Nat → Int32) (F_hour : Int32) (F_broken : Int32) (FB_number : Int32) (FB_column : Nat → Int32) (FB_row : Nat → Int32) (FB_lift : Nat → Int32) (FB_leak : Nat → Int32) (FB_water : Nat → Int32) (FB_goods : Nat → Int32) (FB_people : Nat → Int32) (FB_state : Nat → Int32) (FB_x : Nat → Int32) (FB_y : Nat → Int32) (FB_piece : Nat → Int32) (FK_number : Int32) (FK_seat : Nat → Int32) (FK_state : Nat → Int32) (FQ_number : Int32) (FQ_first : Nat → Int32) (FQ_second : Nat → Int32) (FQ_strength : Nat → Int32) (FQ_wear : Nat → Int32) : va_W := [(R 0, .inr (3, [.ref (B 0), .ref (K 0), .ref (Q 0), .ref (R 1), .ref (R 2), .int R_hour, .int R_broken])), (B 0, .inr (0, [.ref (B 1), .ref (B 2), .ref (B 3), .ref (B 4), .ref (B 5), .ref (B 6), .ref (B 7), .ref (B 8), .ref (B 9), .ref (B 10), .ref (B 11), .int B_number])), aI c (B 1) 24 B_column, aI c (B 2) 24 B_row, aI c (B 3) 24 B_lift, aI c (B 4) 24 B_leak, aI c (B 5) 24 B_water, aI c (B 6) 24 B_goods, aI c (B 7) 24 B_people, aI c (B 8) 24 B_state, aI c (B 9) 24 B_x, aI c (B 10) 24 B_y, aI c (B 11) 24 B_piece, (K 0, .inr (1, [.ref (K 1), .ref (K 2), .int K_number])), aI c (K 1) 8 K_seat, aI c (K 2) 8 K_state, (Q 0, .inr (2, [.ref (Q 1), .ref (Q 2), .ref (Q 3), .ref (Q 4), .int Q_number])), aI c (Q 1) 48 Q_first, aI c (Q 2) 48 Q_second, aI c (Q 3) 48 Q_strength, aI c (Q 4) 48 Q_wear, (F 0, .inr (3, [.ref (FB 0), .ref (FK 0), .ref (FQ 0), .ref (F 1), .ref (F 2), .int F_hour, .int F_broken])), (FB 0, .inr (0, [.ref (FB 1), .ref (FB 2), .ref (FB 3), .ref (FB 4), .ref (FB 5), .ref (FB 6), .ref (FB 7), .ref (FB 8), .ref (FB 9), .ref (FB 10), .ref (FB 11), .int FB_number])), aI c (FB 1) 24 FB_column, aI c (FB 2) 24 FB_row, aI c (FB 3) 24 FB_lift, aI c (FB 4) 24 FB_leak, aI c (FB 5) 24 FB_water, aI c (FB 6) 24 FB_goods, aI c (FB 7) 24 FB_people, aI c (FB 8) 24 FB_state, aI c (FB 9) 24 FB_x, aI c (FB 10) 24 FB_y, aI c (FB 11) 24 FB_piece, (FK 0, .inr (1, [.ref (FK 1), .ref (FK 2), .int FK_number])), aI c (FK 1) 8 FK_seat, aI c (FK 2) 8 FK_state, (FQ 0, .inr (2, [.ref (FQ 1), .ref (FQ 2), .ref (FQ 3), .ref (FQ 4), .int FQ_number])), aI c (FQ 1) 48 FQ_first, aI c (FQ 2) 48 FQ_second, aI c (FQ 3) 48 FQ_strength, aI c (FQ 4) 48 FQ_wear]
abbrev rmX3_copyFrom : Room := { frames := 2, cells := 0, slots := 0, locals := 81 }
theorem yd_X3_copyFrom : yX3_copyFrom.cls = RX3 ∧ yX3_copyFrom.cls ≠ "java/lang/invoke/MethodHandle" ∧ yX3_copyFrom.cls ≠ "java/lang/invoke/VarHandle" ∧ (parseMethodDescriptor yX3_copyFrom.desc).map (fun d => d.parameters.length) = some 1 := by decide +kernel
theorem kwX3_copyFrom_1 : Cond.fieldLink RX3 12 "BarrelRaft$Raft" "barrels" "LBarrelRaft$Barrels;" ∈ wsX3_copyFrom := List.mem_of_getElem? (i := 1) rfl
set_option maxRecDepth 20000 in
theorem kinX3_copyFrom_X3 : ∀ w ∈ u_ws RX3 TX3 7, w ∈ wsX3_copyFrom := by decide +kernel
theorem kwX3_copyFrom_2 : Cond.fieldLink RX3 21 "BarrelRaft$Raft" "castaways" "LBarrelRaft$Castaways;" ∈ wsX3_copyFrom := List.mem_of_getElem? (i := 2) rfl
theorem kwX3_copyFrom_3 : Cond.fieldLink RX3 28 "BarrelRaft$Raft" "lashings" "LBarrelRaft$Lashings;" ∈ wsX3_copyFrom := List.mem_of_getElem? (i := 3) rfl
theorem kwX3_copyFrom_4 : Cond.fieldLink RX3 49 "BarrelRaft$Raft" "hour" "I" ∈ wsX3_copyFrom := List.mem_of_getElem? (i := 4) rfl
theorem kwX3_copyFrom_5 : Cond.fieldLink RX3 53 "BarrelRaft$Raft" "broken" "I" ∈ wsX3_copyFrom := List.mem_of_getElem? (i := 5) rfl
def jX3_copyFrom (R_hour : Int32) (R_broken : Int32) (B_number : Int32) (B_column : Nat → Int32) (B_row : Nat → Int32) (B_lift : Nat → Int32) (B_leak : Nat → Int32) (B_water : Nat → Int32) (B_goods : Nat → Int32) (B_people : Nat → Int32) (B_state : Nat → Int32) (B_x : Nat → Int32) (B_y : Nat → Int32) (B_piece : Nat → Int32) (K_number : Int32) (K_seat : Nat → Int32) (K_state : Nat → Int32) (Q_number : Int32) (Q_first : Nat → Int32) (Q_second : Nat → Int32) (Q_strength : Nat → Int32) (Q_wear : Nat → Int32) (F_hour : Int32) (F_broken : Int32) (FB_number : Int32) (FB_column : Nat → Int32) (FB_row : Nat → Int32) (FB_lift : Nat → Int32) (FB_leak : Nat → Int32) (FB_water : Nat → Int32) (FB_goods : Nat → Int32) (FB_people : Nat → Int32) (FB_state : Nat → Int32) (FB_x : Nat → Int32) (FB_y : Nat → Int32) (FB_piece : Nat → Int32) (FK_number : Int32) (FK_seat : Nat → Int32) (FK_state : Nat → Int32) (FQ_number : Int32) (FQ_first : Nat → Int32) (FQ_second : Nat → Int32) (FQ_strength : Nat → Int32) (FQ_wear : Nat → Int32) : Option (Int32 × Int32 × Int32 × (Nat → Int32) × (Nat → Int32) × (Nat → Int32) × (Nat → Int32) × (Nat → Int32) × (Nat → Int32) × (Nat → Int32) × (Nat → Int32) × (Nat → Int32) × (Nat → Int32) × (Nat → Int32) × Int32 × (Nat → Int32) × (Nat → Int32) × Int32 × (Nat → Int32) × (Nat → Int32) × (Nat → Int32) × (Nat → Int32)) :=
  bnd (jX0_copyFrom B_number B_column B_row B_lift B_leak B_water B_goods B_people B_state B_x B_y B_piece FB_number FB_column FB_row FB_lift FB_leak FB_water FB_goods FB_people FB_state FB_x FB_y FB_piece) (fun r1 => bnd (jX1_copyFrom K_number K_seat K_state FK_number FK_seat FK_state) (fun r2 => bnd (jX2_copyFrom Q_number Q_first Q_second Q_strength Q_wear FQ_number FQ_first FQ_second FQ_strength FQ_wear) (fun r3 => some (F_hour, F_broken, r1.1, r1.2.1, r1.2.2.1, r1.2.2.2.1, r1.2.2.2.2.1, r1.2.2.2.2.2.1, r1.2.2.2.2.2.2.1, r1.2.2.2.2.2.2.2.1, r1.2.2.2.2.2.2.2.2.1, r1.2.2.2.2.2.2.2.2.2.1, r1.2.2.2.2.2.2.2.2.2.2.1, r1.2.2.2.2.2.2.2.2.2.2.2, r2.1, r2.2.1, r2.2.2, r3.1, r3.2.1, r3.2.2.1, r3.2.2.2.1, r3.2.2.2.2))))
set_option maxHeartbeats 4000000 in
set_option maxRecDepth 100000 in
theorem mt_X3_copyFrom (l : Launch) (D : va_G) (c : Nat → ClassId) (R : Nat → Nat) (B : Nat → Nat) (K : Nat → Nat) (Q : Nat → Nat) (F : Nat → Nat) (FB : Nat → Nat) (FK : Nat → Nat) (FQ : Nat → Nat) (R_hour : Int32) (R_broken : Int32) (B_number : Int32) (B_column : Nat → Int32) (B_row : Nat → Int32) (B_lift : Nat → Int32) (B_leak : Nat → Int32) (B_water : Nat → Int32) (B_goods : Nat → Int32) (B_people : Nat → Int32) (B_state : Nat → Int32) (B_x : Nat → Int32) (B_y : Nat → Int32) (B_piece : Nat → Int32) (K_number : Int32) (K_seat : Nat → Int32) (K_state : Nat → Int32) (Q_number : Int32) (Q_first : Nat → Int32) (Q_second : Nat → Int32) (Q_strength : Nat → Int32) (Q_wear : Nat → Int32) (F_hour : Int32) (F_broken : Int32) (FB_number : Int32) (FB_column : Nat → Int32) (FB_row : Nat → Int32) (FB_lift : Nat → Int32) (FB_leak : Nat → Int32) (FB_water : Nat → Int32) (FB_goods : Nat → Int32) (FB_people : Nat → Int32) (FB_state : Nat → Int32) (FB_x : Nat → Int32) (FB_y : Nat → Int32) (FB_piece : Nat → Int32) (FK_number : Int32) (FK_seat : Nat → Int32) (FK_state : Nat → Int32) (FQ_number : Int32) (FQ_first : Nat → Int32) (FQ_second : Nat → Int32) (FQ_strength : Nat → Int32) (FQ_wear : Nat → Int32) (q0 : Int32 × Int32 × Int32 × (Nat → Int32) × (Nat → Int32) × (Nat → Int32) × (Nat → Int32) × (Nat → Int32) × (Nat → Int32) × (Nat → Int32) × (Nat → Int32) × (Nat → Int32) × (Nat → Int32) × (Nat → Int32) × Int32 × (Nat → Int32) × (Nat → Int32) × Int32 × (Nat → Int32) × (Nat → Int32) × (Nat → Int32) × (Nat → Int32)) (h : jX3_copyFrom R_hour R_broken B_number B_column B_row B_lift B_leak B_water B_goods B_people B_state B_x B_y B_piece K_number K_seat K_state Q_number Q_first Q_second Q_strength Q_wear F_hour F_broken FB_number FB_column FB_row FB_lift FB_leak FB_water FB_goods FB_people FB_state FB_x FB_y FB_piece FK_number FK_seat FK_state FQ_number FQ_first FQ_second FQ_strength FQ_wear = some q0) : DTv l yX3_copyFrom wsX3_copyFrom rmX3_copyFrom D c (wX3_copyFrom c R B K Q F FB FK FQ R_hour R_broken B_number B_column B_row B_lift B_leak B_water B_goods B_people B_state B_x B_y B_piece K_number K_seat K_state Q_number Q_first Q_second Q_strength Q_wear F_hour F_broken FB_number FB_column FB_row FB_lift FB_leak FB_water FB_goods FB_people FB_state FB_x FB_y FB_piece FK_number FK_seat FK_state FQ_number FQ_first FQ_second FQ_strength FQ_wear) [.ref (R 0), .ref (F 0)] (wX3_copyFrom c R B K Q F FB FK FQ q0.1 q0.2.1 q0.2.2.1 q0.2.2.2.1 q0.2.2.2.2.1 q0.2.2.2.2.2.1 q0.2.2.2.2.2.2.1 q0.2.2.2.2.2.2.2.1 q0.2.2.2.2.2.2.2.2.1 q0.2.2.2.2.2.2.2.2.2.1 q0.2.2.2.2.2.2.2.2.2.2.1 q0.2.2.2.2.2.2.2.2.2.2.2.1 q0.2.2.2.2.2.2.2.2.2.2.2.2.1 q0.2.2.2.2.2.2.2.2.2.2.2.2.2.1 q0.2.2.2.2.2.2.2.2.2.2.2.2.2.2.1 q0.2.2.2.2.2.2.2.2.2.2.2.2.2.2.2.1 q0.2.2.2.2.2.2.2.2.2.2.2.2.2.2.2.2.1 q0.2.2.2.2.2.2.2.2.2.2.2.2.2.2.2.2.2.1 q0.2.2.2.2.2.2.2.2.2.2.2.2.2.2.2.2.2.2.1 q0.2.2.2.2.2.2.2.2.2.2.2.2.2.2.2.2.2.2.2.1 q0.2.2.2.2.2.2.2.2.2.2.2.2.2.2.2.2.2.2.2.2.1 q0.2.2.2.2.2.2.2.2.2.2.2.2.2.2.2.2.2.2.2.2.2 F_hour F_broken FB_number FB_column FB_row FB_lift FB_leak FB_water FB_goods FB_people FB_state FB_x FB_y FB_piece FK_number FK_seat FK_state FQ_number FQ_first FQ_second FQ_strength FQ_wear) 0 0 := by
  refine DTv_of (cc := cX3_copyFrom) (nL := 2) RX3 rfl (by decide) rfl (Nat.le_of_ble_eq_true rfl) (fun g C ret => ?_)
  unfold jX3_copyFrom at h
  refine vv_lv [0, 1] [(0, .ref (R 0)), (1, .ref (F 0))] rfl ?_
  refine vv_aload_n C dX3_copyFrom_0 rfl 0 rfl 1 rfl ?_
  refine vv_get C (q0 := 0) (ci := 3) (k := 0) kinX3_copyFrom_X3 rfl rfl (by decide) kwX3_copyFrom_1 rfl rfl dX3_copyFrom_1 4 rfl ?_
  refine vv_aload_n C dX3_copyFrom_4 rfl 1 rfl 5 rfl ?_
  refine vv_get C (q0 := 21) (ci := 3) (k := 0) kinX3_copyFrom_X3 rfl rfl (by decide) kwX3_copyFrom_1 rfl rfl dX3_copyFrom_5 8 rfl ?_
  obtain ⟨r1, hr1, h⟩ := bnd_s h
  refine vv_callVv C (fun l => mt_X0_copyFrom l D c B FB B_number B_column B_row B_lift B_leak B_water B_goods B_people B_state B_x B_y B_piece FB_number FB_column FB_row FB_lift FB_leak FB_water FB_goods FB_people FB_state FB_x FB_y FB_piece r1 hr1) gX3_copyFrom_X0_copyFrom rfl rfl rfl yd_X0_copyFrom ⟨Nat.le_of_ble_eq_true rfl, Nat.le_of_ble_eq_true rfl⟩ [1, 2, 3, 4, 5, 6, 7, 8, 9, 10, 11, 12, 22, 23, 24, 25, 26, 27, 28, 29, 30, 31, 32, 33] rfl (by decide) 0 rfl rfl (wX3_copyFrom c R B K Q F FB FK FQ R_hour R_broken r1.1 r1.2.1 r1.2.2.1 r1.2.2.2.1 r1.2.2.2.2.1 r1.2.2.2.2.2.1 r1.2.2.2.2.2.2.1 r1.2.2.2.2.2.2.2.1 r1.2.2.2.2.2.2.2.2.1 r1.2.2.2.2.2.2.2.2.2.1 r1.2.2.2.2.2.2.2.2.2.2.1 r1.2.2.2.2.2.2.2.2.2.2.2 K_number K_seat K_state Q_number Q_first Q_second Q_strength Q_wear F_hour F_broken FB_number FB_column FB_row FB_lift FB_leak FB_water FB_goods FB_people FB_state FB_x FB_y FB_piece FK_number FK_seat FK_state FQ_number FQ_first FQ_second FQ_strength FQ_wear) [(false, 0), (true, 0), (true, 1), (true, 2), (true, 3), (true, 4), (true, 5), (true, 6), (true, 7), (true, 8), (true, 9), (true, 10), (true, 11), (false, 13), (false, 14), (false, 15), (false, 16), (false, 17), (false, 18), (false, 19), (false, 20), (false, 21), (true, 12), (true, 13), (true, 14), (true, 15), (true, 16), (true, 17), (true, 18), (true, 19), (true, 20), (true, 21), (true, 22), (true, 23), (false, 34), (false, 35), (false, 36), (false, 37), (false, 38), (false, 39), (false, 40), (false, 41)] rfl (by decide) rfl rfl [] rfl (Nat.le_of_ble_eq_true rfl) ⟨Nat.le_of_ble_eq_true rfl, Nat.le_of_ble_eq_true rfl⟩ dX3_copyFrom_8 11 0 0 rfl ⟨rfl, rfl⟩ ?_
  refine vv_aload_n C dX3_copyFrom_11 rfl 0 rfl 12 rfl ?_
  refine vv_get C (q0 := 0) (ci := 3) (k := 1) kinX3_copyFrom_X3 rfl rfl (by decide) kwX3_copyFrom_2 rfl rfl dX3_copyFrom_12 15 rfl ?_
  refine vv_aload_n C dX3_copyFrom_15 rfl 1 rfl 16 rfl ?_
  refine vv_get C (q0 := 21) (ci := 3) (k := 1) kinX3_copyFrom_X3 rfl rfl (by decide) kwX3_copyFrom_2 rfl rfl dX3_copyFrom_16 19 rfl ?_
  obtain ⟨r2, hr2, h⟩ := bnd_s h
  refine vv_callVv C (fun l => mt_X1_copyFrom l D c K FK K_number K_seat K_state FK_number FK_seat FK_state r2 hr2) gX3_copyFrom_X1_copyFrom rfl rfl rfl yd_X1_copyFrom ⟨Nat.le_of_ble_eq_true rfl, Nat.le_of_ble_eq_true rfl⟩ [13, 14, 15, 34, 35, 36] rfl (by decide) 0 rfl rfl (wX3_copyFrom c R B K Q F FB FK FQ R_hour R_broken r1.1 r1.2.1 r1.2.2.1 r1.2.2.2.1 r1.2.2.2.2.1 r1.2.2.2.2.2.1 r1.2.2.2.2.2.2.1 r1.2.2.2.2.2.2.2.1 r1.2.2.2.2.2.2.2.2.1 r1.2.2.2.2.2.2.2.2.2.1 r1.2.2.2.2.2.2.2.2.2.2.1 r1.2.2.2.2.2.2.2.2.2.2.2 r2.1 r2.2.1 r2.2.2 Q_number Q_first Q_second Q_strength Q_wear F_hour F_broken FB_number FB_column FB_row FB_lift FB_leak FB_water FB_goods FB_people FB_state FB_x FB_y FB_piece FK_number FK_seat FK_state FQ_number FQ_first FQ_second FQ_strength FQ_wear) [(false, 0), (false, 1), (false, 2), (false, 3), (false, 4), (false, 5), (false, 6), (false, 7), (false, 8), (false, 9), (false, 10), (false, 11), (false, 12), (true, 0), (true, 1), (true, 2), (false, 16), (false, 17), (false, 18), (false, 19), (false, 20), (false, 21), (false, 22), (false, 23), (false, 24), (false, 25), (false, 26), (false, 27), (false, 28), (false, 29), (false, 30), (false, 31), (false, 32), (false, 33), (true, 3), (true, 4), (true, 5), (false, 37), (false, 38), (false, 39), (false, 40), (false, 41)] rfl (by decide) rfl rfl [] rfl (Nat.le_of_ble_eq_true rfl) ⟨Nat.le_of_ble_eq_true rfl, Nat.le_of_ble_eq_true rfl⟩ dX3_copyFrom_19 22 0 0 rfl ⟨rfl, rfl⟩ ?_
  refine vv_aload_n C dX3_copyFrom_22 rfl 0 rfl 23 rfl ?_
  refine vv_get C (q0 := 0) (ci := 3) (k := 2) kinX3_copyFrom_X3 rfl rfl (by decide) kwX3_copyFrom_3 rfl rfl dX3_copyFrom_23 26 rfl ?_
  refine vv_aload_n C dX3_copyFrom_26 rfl 1 rfl 27 rfl ?_
  refine vv_get C (q0 := 21) (ci := 3) (k := 2) kinX3_copyFrom_X3 rfl rfl (by decide) kwX3_copyFrom_3 rfl rfl dX3_copyFrom_27 30 rfl ?_
  obtain ⟨r3, hr3, h⟩ := bnd_s h
  refine vv_callVv C (fun l => mt_X2_copyFrom l D c Q FQ Q_number Q_first Q_second Q_strength Q_wear FQ_number FQ_first FQ_second FQ_strength FQ_wear r3 hr3) gX3_copyFrom_X2_copyFrom rfl rfl rfl yd_X2_copyFrom ⟨Nat.le_of_ble_eq_true rfl, Nat.le_of_ble_eq_true rfl⟩ [16, 17, 18, 19, 20, 37, 38, 39, 40, 41] rfl (by decide) 0 rfl rfl (wX3_copyFrom c R B K Q F FB FK FQ R_hour R_broken r1.1 r1.2.1 r1.2.2.1 r1.2.2.2.1 r1.2.2.2.2.1 r1.2.2.2.2.2.1 r1.2.2.2.2.2.2.1 r1.2.2.2.2.2.2.2.1 r1.2.2.2.2.2.2.2.2.1 r1.2.2.2.2.2.2.2.2.2.1 r1.2.2.2.2.2.2.2.2.2.2.1 r1.2.2.2.2.2.2.2.2.2.2.2 r2.1 r2.2.1 r2.2.2 r3.1 r3.2.1 r3.2.2.1 r3.2.2.2.1 r3.2.2.2.2 F_hour F_broken FB_number FB_column FB_row FB_lift FB_leak FB_water FB_goods FB_people FB_state FB_x FB_y FB_piece FK_number FK_seat FK_state FQ_number FQ_first FQ_second FQ_strength FQ_wear) [(false, 0), (false, 1), (false, 2), (false, 3), (false, 4), (false, 5), (false, 6), (false, 7), (false, 8), (false, 9), (false, 10), (false, 11), (false, 12), (false, 13), (false, 14), (false, 15), (true, 0), (true, 1), (true, 2), (true, 3), (true, 4), (false, 21), (false, 22), (false, 23), (false, 24), (false, 25), (false, 26), (false, 27), (false, 28), (false, 29), (false, 30), (false, 31), (false, 32), (false, 33), (false, 34), (false, 35), (false, 36), (true, 5), (true, 6), (true, 7), (true, 8), (true, 9)] rfl (by decide) rfl rfl [] rfl (Nat.le_of_ble_eq_true rfl) ⟨Nat.le_of_ble_eq_true rfl, Nat.le_of_ble_eq_true rfl⟩ dX3_copyFrom_30 33 0 0 rfl ⟨rfl, rfl⟩ ?_
  refine vv_aload_n C dX3_copyFrom_33 rfl 0 rfl 34 rfl ?_
  refine vv_aload_n C dX3_copyFrom_34 rfl 1 rfl 35 rfl ?_
  refine vv_get C (q0 := 21) (ci := 3) (k := 5) kinX3_copyFrom_X3 rfl rfl (by decide) kwX3_copyFrom_4 rfl rfl dX3_copyFrom_35 38 rfl ?_
  refine vv_put C (q0 := 0) (ci := 3) (k := 5) (ty := .int) (wX3_copyFrom c R B K Q F FB FK FQ F_hour R_broken r1.1 r1.2.1 r1.2.2.1 r1.2.2.2.1 r1.2.2.2.2.1 r1.2.2.2.2.2.1 r1.2.2.2.2.2.2.1 r1.2.2.2.2.2.2.2.1 r1.2.2.2.2.2.2.2.2.1 r1.2.2.2.2.2.2.2.2.2.1 r1.2.2.2.2.2.2.2.2.2.2.1 r1.2.2.2.2.2.2.2.2.2.2.2 r2.1 r2.2.1 r2.2.2 r3.1 r3.2.1 r3.2.2.1 r3.2.2.2.1 r3.2.2.2.2 F_hour F_broken FB_number FB_column FB_row FB_lift FB_leak FB_water FB_goods FB_people FB_state FB_x FB_y FB_piece FK_number FK_seat FK_state FQ_number FQ_first FQ_second FQ_strength FQ_wear) tyX3 tyX3_ok nmX3 kinX3_copyFrom_X3 rfl rfl (by decide) kwX3_copyFrom_4 rfl rfl rfl rfl rfl (Nat.le_of_ble_eq_true rfl) rfl dX3_copyFrom_38 41 rfl ?_
  refine vv_aload_n C dX3_copyFrom_41 rfl 0 rfl 42 rfl ?_
  refine vv_aload_n C dX3_copyFrom_42 rfl 1 rfl 43 rfl ?_
  refine vv_get C (q0 := 21) (ci := 3) (k := 6) kinX3_copyFrom_X3 rfl rfl (by decide) kwX3_copyFrom_5 rfl rfl dX3_copyFrom_43 46 rfl ?_
  refine vv_put C (q0 := 0) (ci := 3) (k := 6) (ty := .int) (wX3_copyFrom c R B K Q F FB FK FQ F_hour F_broken r1.1 r1.2.1 r1.2.2.1 r1.2.2.2.1 r1.2.2.2.2.1 r1.2.2.2.2.2.1 r1.2.2.2.2.2.2.1 r1.2.2.2.2.2.2.2.1 r1.2.2.2.2.2.2.2.2.1 r1.2.2.2.2.2.2.2.2.2.1 r1.2.2.2.2.2.2.2.2.2.2.1 r1.2.2.2.2.2.2.2.2.2.2.2 r2.1 r2.2.1 r2.2.2 r3.1 r3.2.1 r3.2.2.1 r3.2.2.2.1 r3.2.2.2.2 F_hour F_broken FB_number FB_column FB_row FB_lift FB_leak FB_water FB_goods FB_people FB_state FB_x FB_y FB_piece FK_number FK_seat FK_state FQ_number FQ_first FQ_second FQ_strength FQ_wear) tyX3 tyX3_ok nmX3 kinX3_copyFrom_X3 rfl rfl (by decide) kwX3_copyFrom_5 rfl rfl rfl rfl rfl (Nat.le_of_ble_eq_true rfl) rfl dX3_copyFrom_46 49 rfl ?_
  obtain rfl := Option.some.inj h
  exact ret _ _ dX3_copyFrom_49
abbrev wX3_weighPieces (c : Nat → ClassId) (R : Nat → Nat) (B : Nat → Nat) (K : Nat → Nat) (Q : Nat → Nat) (R_hour : Int32) (R_broken : Int32) (R_pieceLift : Nat → Int32) (R_pieceLoad : Nat → Int32) (B_number : Int32) (B_lift : Nat → Int32) (B_water : Nat → Int32) (B_goods : Nat → Int32) (B_people : Nat → Int32) (B_piece : Nat → Int32) : va_W := [(R 0, .inr (3, [.ref (B 0), .ref (K 0), .ref (Q 0), .ref (R 1), .ref (R 2), .int R_hour, .int R_broken])), aI c (R 1) 24 R_pieceLift, aI c (R 2) 24 R_pieceLoad, (B 0, .inr (0, [.ref (B 1), .ref (B 2), .ref (B 3), .ref (B 4), .ref (B 5), .ref (B 6), .ref (B 7), .ref (B 8), .ref (B 9), .ref (B 10), .ref (B 11), .int B_number])), aI c (B 3) 24 B_lift, aI c (B 5) 24 B_water, aI c (B 6) 24 B_goods, aI c (B 7) 24 B_people, aI c (B 11) 24 B_piece]
abbrev rmX3_weighPieces : Room := { frames := 1, cells := 0, slots := 0, locals := 21 }
theorem yd_X3_weighPieces : yX3_weighPieces.cls = RX3 ∧ yX3_weighPieces.cls ≠ "java/lang/invoke/MethodHandle" ∧ yX3_weighPieces.cls ≠ "java/lang/invoke/VarHandle" ∧ (parseMethodDescriptor yX3_weighPieces.desc).map (fun d => d.parameters.length) = some 0 := by decide +kernel
theorem kwX3_weighPieces_1 : Cond.fieldLink RX3 12 "BarrelRaft$Raft" "barrels" "LBarrelRaft$Barrels;" ∈ wsX3_weighPieces := List.mem_of_getElem? (i := 1) rfl
set_option maxRecDepth 20000 in
theorem kinX3_weighPieces_X3 : ∀ w ∈ u_ws RX3 TX3 7, w ∈ wsX3_weighPieces := by decide +kernel
theorem kwX3_weighPieces_2 : Cond.fieldLink RX3 119 "BarrelRaft$Barrels" "number" "I" ∈ wsX3_weighPieces := List.mem_of_getElem? (i := 2) rfl
set_option maxRecDepth 20000 in
theorem kinX3_weighPieces_X0 : ∀ w ∈ u_ws RX0 TX0 12, w ∈ wsX3_weighPieces := by decide +kernel
theorem kwX3_weighPieces_3 : Cond.fieldLink RX3 32 "BarrelRaft$Raft" "pieceLift" "[I" ∈ wsX3_weighPieces := List.mem_of_getElem? (i := 3) rfl
theorem kwX3_weighPieces_4 : Cond.fieldLink RX3 36 "BarrelRaft$Raft" "pieceLoad" "[I" ∈ wsX3_weighPieces := List.mem_of_getElem? (i := 4) rfl
theorem kwX3_weighPieces_5 : Cond.fieldLink RX3 120 "BarrelRaft$Barrels" "piece" "[I" ∈ wsX3_weighPieces := List.mem_of_getElem? (i := 5) rfl
def jX3_weighPieces_L2 (B_number : Int32) (n : Nat) (R_pieceLift_2 : Nat → Int32) (R_pieceLoad_2 : Nat → Int32) (v1_2 : Int32) : Option ((Nat → Int32) × (Nat → Int32)) :=
  match n with
  | 0 => none
  | n + 1 => (if B_number ≤ v1_2 then some (R_pieceLift_2, R_pieceLoad_2) else chk 24 v1_2 (chk 24 v1_2 (jX3_weighPieces_L2 B_number n (wr R_pieceLift_2 v1_2 0) (wr R_pieceLoad_2 v1_2 0) (v1_2 + 1))))
def jX3_weighPieces_L35 (B_number : Int32) (B_lift : Nat → Int32) (B_water : Nat → Int32) (B_goods : Nat → Int32) (B_people : Nat → Int32) (B_piece : Nat → Int32) (n : Nat) (R_pieceLift_35 : Nat → Int32) (R_pieceLoad_35 : Nat → Int32) (v1_35 : Int32) : Option ((Nat → Int32) × (Nat → Int32)) :=
  match n with
  | 0 => none
  | n + 1 => (if B_number ≤ v1_35 then some (R_pieceLift_35, R_pieceLoad_35) else chk 24 v1_35 ((if rd B_piece v1_35 < 0 then jX3_weighPieces_L35 B_number B_lift B_water B_goods B_people B_piece n R_pieceLift_35 R_pieceLoad_35 (v1_35 + 1) else chk 24 (rd B_piece v1_35) (bnd (jX0_liftNow B_lift B_water v1_35) (fun r2 => chk 24 (rd B_piece v1_35) (chk 24 (rd B_piece v1_35) (bnd (jX0_loadOf B_goods B_people v1_35) (fun r3 => chk 24 (rd B_piece v1_35) (jX3_weighPieces_L35 B_number B_lift B_water B_goods B_people B_piece n (wr R_pieceLift_35 (rd B_piece v1_35) ((rd R_pieceLift_35 (rd B_piece v1_35)) + r2)) (wr R_pieceLoad_35 (rd B_piece v1_35) ((rd R_pieceLoad_35 (rd B_piece v1_35)) + r3)) (v1_35 + 1))))))))))
def jX3_weighPieces (R_pieceLift : Nat → Int32) (R_pieceLoad : Nat → Int32) (B_number : Int32) (B_lift : Nat → Int32) (B_water : Nat → Int32) (B_goods : Nat → Int32) (B_people : Nat → Int32) (B_piece : Nat → Int32) : Option ((Nat → Int32) × (Nat → Int32)) :=
  bnd (jX3_weighPieces_L2 B_number FU R_pieceLift R_pieceLoad 0) (fun r1 => bnd (jX3_weighPieces_L35 B_number B_lift B_water B_goods B_people B_piece FU r1.1 r1.2 0) (fun r4 => some (r4.1, r4.2)))
set_option maxHeartbeats 4000000 in
set_option maxRecDepth 100000 in
theorem mt_X3_weighPieces (l : Launch) (D : va_G) (c : Nat → ClassId) (R : Nat → Nat) (B : Nat → Nat) (K : Nat → Nat) (Q : Nat → Nat) (R_hour : Int32) (R_broken : Int32) (R_pieceLift : Nat → Int32) (R_pieceLoad : Nat → Int32) (B_number : Int32) (B_lift : Nat → Int32) (B_water : Nat → Int32) (B_goods : Nat → Int32) (B_people : Nat → Int32) (B_piece : Nat → Int32) (q0 : (Nat → Int32) × (Nat → Int32)) (h : jX3_weighPieces R_pieceLift R_pieceLoad B_number B_lift B_water B_goods B_people B_piece = some q0) : DTv l yX3_weighPieces wsX3_weighPieces rmX3_weighPieces D c (wX3_weighPieces c R B K Q R_hour R_broken R_pieceLift R_pieceLoad B_number B_lift B_water B_goods B_people B_piece) [.ref (R 0)] (wX3_weighPieces c R B K Q R_hour R_broken q0.1 q0.2 B_number B_lift B_water B_goods B_people B_piece) 0 0 := by
  refine DTv_of (cc := cX3_weighPieces) (nL := 3) RX3 rfl (by decide) rfl (Nat.le_of_ble_eq_true rfl) (fun g C ret => ?_)
  unfold jX3_weighPieces at h
  refine vv_lv [0] [(0, .ref (R 0))] rfl ?_
  refine vv_iconst C (v := 0) dX3_weighPieces_0 (by decide) 1 rfl ?_
  refine vv_istore_n C [(1, .int 0), (0, .ref (R 0))] dX3_weighPieces_1 rfl (by decide) rfl 2 rfl ?_
  refine vv_lv [1, 0] [(0, .ref (R 0)), (1, .int 0)] rfl ?_
  have L2 : ∀ (n : Nat) (R_pieceLift_2 : Nat → Int32) (R_pieceLoad_2 : Nat → Int32) (v1_2 : Int32) (q2 : (Nat → Int32) × (Nat → Int32)), jX3_weighPieces_L2 B_number n R_pieceLift_2 R_pieceLoad_2 v1_2 = some q2 → (VV g D 3 0 0 (wX3_weighPieces c R B K Q R_hour R_broken q2.1 q2.2 B_number B_lift B_water B_goods B_people B_piece) [(0, .ref (R 0))] 33 []) → VV g D 3 0 0 (wX3_weighPieces c R B K Q R_hour R_broken R_pieceLift_2 R_pieceLoad_2 B_number B_lift B_water B_goods B_people B_piece) [(0, .ref (R 0)), (1, .int v1_2)] 2 [] := by
    intro n
    induction n with
    | zero =>
      intro R_pieceLift_2 R_pieceLoad_2 v1_2 q2 h _
      rw [jX3_weighPieces_L2] at h
      cases h
    | succ n ih2 =>
      intro R_pieceLift_2 R_pieceLoad_2 v1_2 q2 h kk2
      rw [jX3_weighPieces_L2] at h
      refine vv_iload_n C dX3_weighPieces_2 rfl 1 rfl 3 rfl ?_
      refine vv_aload_n C dX3_weighPieces_3 rfl 0 rfl 4 rfl ?_
      refine vv_get C (q0 := 0) (ci := 3) (k := 0) kinX3_weighPieces_X3 rfl rfl (by decide) kwX3_weighPieces_1 rfl rfl dX3_weighPieces_4 7 rfl ?_
      refine vv_get C (q0 := 3) (ci := 0) (k := 11) kinX3_weighPieces_X0 rfl rfl (by decide) kwX3_weighPieces_2 rfl rfl dX3_weighPieces_7 10 rfl ?_
      refine vv_icmp_ge C 33 13 dX3_weighPieces_10 (by decide) rfl (fun hc => ?_) (fun hc => ?_)
      · replace h := ite_t hc h
        refine vv_lv [0] [(0, .ref (R 0))] rfl ?_
        obtain rfl := Option.some.inj h
        exact kk2
      · replace h := ite_f hc h
        refine vv_aload_n C dX3_weighPieces_13 rfl 0 rfl 14 rfl ?_
        refine vv_get C (q0 := 0) (ci := 3) (k := 3) kinX3_weighPieces_X3 rfl rfl (by decide) kwX3_weighPieces_3 rfl rfl dX3_weighPieces_14 17 rfl ?_
        refine vv_iload_n C dX3_weighPieces_17 rfl 1 rfl 18 rfl ?_
        refine vv_iconst C (v := 0) dX3_weighPieces_18 (by decide) 19 rfl ?_
        obtain ⟨hi, h⟩ := chk_s h
        refine vv_iast C (q0 := 1) (wX3_weighPieces c R B K Q R_hour R_broken (wr R_pieceLift_2 v1_2 0) R_pieceLoad_2 B_number B_lift B_water B_goods B_people B_piece) rfl hi rfl dX3_weighPieces_19 20 rfl ?_
        refine vv_aload_n C dX3_weighPieces_20 rfl 0 rfl 21 rfl ?_
        refine vv_get C (q0 := 0) (ci := 3) (k := 4) kinX3_weighPieces_X3 rfl rfl (by decide) kwX3_weighPieces_4 rfl rfl dX3_weighPieces_21 24 rfl ?_
        refine vv_iload_n C dX3_weighPieces_24 rfl 1 rfl 25 rfl ?_
        refine vv_iconst C (v := 0) dX3_weighPieces_25 (by decide) 26 rfl ?_
        obtain ⟨hi, h⟩ := chk_s h
        refine vv_iast C (q0 := 2) (wX3_weighPieces c R B K Q R_hour R_broken (wr R_pieceLift_2 v1_2 0) (wr R_pieceLoad_2 v1_2 0) B_number B_lift B_water B_goods B_people B_piece) rfl hi rfl dX3_weighPieces_26 27 rfl ?_
        refine vv_iinc C (k := 1) [(1, .int (v1_2 + 1)), (0, .ref (R 0))] dX3_weighPieces_27 rfl rfl (by decide) rfl 30 rfl ?_
        refine vv_goto C 2 dX3_weighPieces_30 (by decide) ?_
        refine vv_lv [1, 0] [(0, .ref (R 0)), (1, .int (v1_2 + 1))] rfl ?_
        exact ih2 (wr R_pieceLift_2 v1_2 0) (wr R_pieceLoad_2 v1_2 0) (v1_2 + 1) _ h kk2
  obtain ⟨r1, hr1, h⟩ := bnd_s h
  refine L2 FU R_pieceLift R_pieceLoad 0 r1 hr1 ?_
  refine vv_iconst C (v := 0) dX3_weighPieces_33 (by decide) 34 rfl ?_
  refine vv_istore_n C [(1, .int 0), (0, .ref (R 0))] dX3_weighPieces_34 rfl (by decide) rfl 35 rfl ?_
  refine vv_lv [1, 0] [(0, .ref (R 0)), (1, .int 0)] rfl ?_
  have L35 : ∀ (n : Nat) (R_pieceLift_35 : Nat → Int32) (R_pieceLoad_35 : Nat → Int32) (v1_35 : Int32) (q35 : (Nat → Int32) × (Nat → Int32)), jX3_weighPieces_L35 B_number B_lift B_water B_goods B_people B_piece n R_pieceLift_35 R_pieceLoad_35 v1_35 = some q35 → (VV g D 3 0 0 (wX3_weighPieces c R B K Q R_hour R_broken q35.1 q35.2 B_number B_lift B_water B_goods B_people B_piece) [] 100 []) → VV g D 3 0 0 (wX3_weighPieces c R B K Q R_hour R_broken R_pieceLift_35 R_pieceLoad_35 B_number B_lift B_water B_goods B_people B_piece) [(0, .ref (R 0)), (1, .int v1_35)] 35 [] := by
    intro n
    induction n with
    | zero =>
      intro R_pieceLift_35 R_pieceLoad_35 v1_35 q35 h _
      rw [jX3_weighPieces_L35] at h
      cases h
    | succ n ih35 =>
      intro R_pieceLift_35 R_pieceLoad_35 v1_35 q35 h kk35
      rw [jX3_weighPieces_L35] at h
      refine vv_iload_n C dX3_weighPieces_35 rfl 1 rfl 36 rfl ?_
      refine vv_aload_n C dX3_weighPieces_36 rfl 0 rfl 37 rfl ?_
      refine vv_get C (q0 := 0) (ci := 3) (k := 0) kinX3_weighPieces_X3 rfl rfl (by decide) kwX3_weighPieces_1 rfl rfl dX3_weighPieces_37 40 rfl ?_
      refine vv_get C (q0 := 3) (ci := 0) (k := 11) kinX3_weighPieces_X0 rfl rfl (by decide) kwX3_weighPieces_2 rfl rfl dX3_weighPieces_40 43 rfl ?_
      refine vv_icmp_ge C 100 46 dX3_weighPieces_43 (by decide) rfl (fun hc => ?_) (fun hc => ?_)
      · replace h := ite_t hc h
        refine vv_lv [] [] rfl ?_
        obtain rfl := Option.some.inj h
        exact kk35
      · replace h := ite_f hc h
        refine vv_aload_n C dX3_weighPieces_46 rfl 0 rfl 47 rfl ?_
        refine vv_get C (q0 := 0) (ci := 3) (k := 0) kinX3_weighPieces_X3 rfl rfl (by decide) kwX3_weighPieces_1 rfl rfl dX3_weighPieces_47 50 rfl ?_
        refine vv_get C (q0 := 3) (ci := 0) (k := 10) kinX3_weighPieces_X0 rfl rfl (by decide) kwX3_weighPieces_5 rfl rfl dX3_weighPieces_50 53 rfl ?_
        refine vv_iload_n C dX3_weighPieces_53 rfl 1 rfl 54 rfl ?_
        obtain ⟨hi, h⟩ := chk_s h
        refine vv_iald C (q0 := 8) rfl hi dX3_weighPieces_54 55 rfl ?_
        refine vv_istore_n C [(2, .int (rd B_piece v1_35)), (0, .ref (R 0)), (1, .int v1_35)] dX3_weighPieces_55 rfl (by decide) rfl 56 rfl ?_
        refine vv_iload_n C dX3_weighPieces_56 rfl 0 rfl 57 rfl ?_
        refine vv_if_lt C 94 60 dX3_weighPieces_57 (by decide) rfl (fun hc => ?_) (fun hc => ?_)
        · replace h := ite_t hc h
          refine vv_iinc C (k := 2) [(1, .int (v1_35 + 1)), (2, .int (rd B_piece v1_35)), (0, .ref (R 0))] dX3_weighPieces_94 rfl rfl (by decide) rfl 97 rfl ?_
          refine vv_goto C 35 dX3_weighPieces_97 (by decide) ?_
          refine vv_lv [2, 0] [(0, .ref (R 0)), (1, .int (v1_35 + 1))] rfl ?_
          exact ih35 R_pieceLift_35 R_pieceLoad_35 (v1_35 + 1) _ h kk35
        · replace h := ite_f hc h
          refine vv_aload_n C dX3_weighPieces_60 rfl 1 rfl 61 rfl ?_
          refine vv_get C (q0 := 0) (ci := 3) (k := 3) kinX3_weighPieces_X3 rfl rfl (by decide) kwX3_weighPieces_3 rfl rfl dX3_weighPieces_61 64 rfl ?_
          refine vv_iload_n C dX3_weighPieces_64 rfl 0 rfl 65 rfl ?_
          refine vv_dup2 C dX3_weighPieces_65 rfl rfl 66 rfl ?_
          obtain ⟨hi, h⟩ := chk_s h
          refine vv_iald C (q0 := 1) rfl hi dX3_weighPieces_66 67 rfl ?_
          refine vv_aload_n C dX3_weighPieces_67 rfl 1 rfl 68 rfl ?_
          refine vv_get C (q0 := 0) (ci := 3) (k := 0) kinX3_weighPieces_X3 rfl rfl (by decide) kwX3_weighPieces_1 rfl rfl dX3_weighPieces_68 71 rfl ?_
          refine vv_iload_n C dX3_weighPieces_71 rfl 2 rfl 72 rfl ?_
          obtain ⟨r2, hr2, h⟩ := bnd_s h
          refine vv_callVi C (fun l => mt_X0_liftNow l D c B B_number B_lift B_water v1_35 r2 hr2) gX3_weighPieces_X0_liftNow rfl rfl rfl yd_X0_liftNow ⟨Nat.le_of_ble_eq_true rfl, Nat.le_of_ble_eq_true rfl⟩ [3, 4, 5] rfl (by decide) 0 rfl rfl (wX3_weighPieces c R B K Q R_hour R_broken R_pieceLift_35 R_pieceLoad_35 B_number B_lift B_water B_goods B_people B_piece) [(false, 0), (false, 1), (false, 2), (true, 0), (true, 1), (true, 2), (false, 6), (false, 7), (false, 8)] rfl (by decide) rfl rfl [.int (rd R_pieceLift_35 (rd B_piece v1_35)), .int (rd B_piece v1_35), .ref (R 1)] rfl (Nat.le_of_ble_eq_true rfl) ⟨Nat.le_of_ble_eq_true rfl, Nat.le_of_ble_eq_true rfl⟩ dX3_weighPieces_72 75 0 0 rfl ⟨rfl, rfl⟩ ?_
          refine vv_iadd C dX3_weighPieces_75 76 rfl ?_
          obtain ⟨hi, h⟩ := chk_s h
          refine vv_iast C (q0 := 1) (wX3_weighPieces c R B K Q R_hour R_broken (wr R_pieceLift_35 (rd B_piece v1_35) ((rd R_pieceLift_35 (rd B_piece v1_35)) + r2)) R_pieceLoad_35 B_number B_lift B_water B_goods B_people B_piece) rfl hi rfl dX3_weighPieces_76 77 rfl ?_
          refine vv_aload_n C dX3_weighPieces_77 rfl 1 rfl 78 rfl ?_
          refine vv_get C (q0 := 0) (ci := 3) (k := 4) kinX3_weighPieces_X3 rfl rfl (by decide) kwX3_weighPieces_4 rfl rfl dX3_weighPieces_78 81 rfl ?_
          refine vv_iload_n C dX3_weighPieces_81 rfl 0 rfl 82 rfl ?_
          refine vv_dup2 C dX3_weighPieces_82 rfl rfl 83 rfl ?_
          obtain ⟨hi, h⟩ := chk_s h
          refine vv_iald C (q0 := 2) rfl hi dX3_weighPieces_83 84 rfl ?_
          refine vv_aload_n C dX3_weighPieces_84 rfl 1 rfl 85 rfl ?_
          refine vv_get C (q0 := 0) (ci := 3) (k := 0) kinX3_weighPieces_X3 rfl rfl (by decide) kwX3_weighPieces_1 rfl rfl dX3_weighPieces_85 88 rfl ?_
          refine vv_iload_n C dX3_weighPieces_88 rfl 2 rfl 89 rfl ?_
          obtain ⟨r3, hr3, h⟩ := bnd_s h
          refine vv_callVi C (fun l => mt_X0_loadOf l D c B B_number B_goods B_people v1_35 r3 hr3) gX3_weighPieces_X0_loadOf rfl rfl rfl yd_X0_loadOf ⟨Nat.le_of_ble_eq_true rfl, Nat.le_of_ble_eq_true rfl⟩ [3, 6, 7] rfl (by decide) 0 rfl rfl (wX3_weighPieces c R B K Q R_hour R_broken (wr R_pieceLift_35 (rd B_piece v1_35) ((rd R_pieceLift_35 (rd B_piece v1_35)) + r2)) R_pieceLoad_35 B_number B_lift B_water B_goods B_people B_piece) [(false, 0), (false, 1), (false, 2), (true, 0), (false, 4), (false, 5), (true, 1), (true, 2), (false, 8)] rfl (by decide) rfl rfl [.int (rd R_pieceLoad_35 (rd B_piece v1_35)), .int (rd B_piece v1_35), .ref (R 2)] rfl (Nat.le_of_ble_eq_true rfl) ⟨Nat.le_of_ble_eq_true rfl, Nat.le_of_ble_eq_true rfl⟩ dX3_weighPieces_89 92 0 0 rfl ⟨rfl, rfl⟩ ?_
          refine vv_iadd C dX3_weighPieces_92 93 rfl ?_
          obtain ⟨hi, h⟩ := chk_s h
          refine vv_iast C (q0 := 2) (wX3_weighPieces c R B K Q R_hour R_broken (wr R_pieceLift_35 (rd B_piece v1_35) ((rd R_pieceLift_35 (rd B_piece v1_35)) + r2)) (wr R_pieceLoad_35 (rd B_piece v1_35) ((rd R_pieceLoad_35 (rd B_piece v1_35)) + r3)) B_number B_lift B_water B_goods B_people B_piece) rfl hi rfl dX3_weighPieces_93 94 rfl ?_
          refine vv_iinc C (k := 2) [(1, .int (v1_35 + 1)), (2, .int (rd B_piece v1_35)), (0, .ref (R 0))] dX3_weighPieces_94 rfl rfl (by decide) rfl 97 rfl ?_
          refine vv_goto C 35 dX3_weighPieces_97 (by decide) ?_
          refine vv_lv [2, 0] [(0, .ref (R 0)), (1, .int (v1_35 + 1))] rfl ?_
          exact ih35 (wr R_pieceLift_35 (rd B_piece v1_35) ((rd R_pieceLift_35 (rd B_piece v1_35)) + r2)) (wr R_pieceLoad_35 (rd B_piece v1_35) ((rd R_pieceLoad_35 (rd B_piece v1_35)) + r3)) (v1_35 + 1) _ h kk35
  obtain ⟨r4, hr4, h⟩ := bnd_s h
  refine L35 FU r1.1 r1.2 0 r4 hr4 ?_
  obtain rfl := Option.some.inj h
  exact ret _ _ dX3_weighPieces_100
abbrev wX3_driftPiece (c : Nat → ClassId) (R : Nat → Nat) (B : Nat → Nat) (K : Nat → Nat) (Q : Nat → Nat) (W : Nat → Nat) (R_hour : Int32) (R_broken : Int32) (R_pieceLift : Nat → Int32) (R_pieceLoad : Nat → Int32) (B_number : Int32) (B_x : Nat → Int32) (B_y : Nat → Int32) (W_number : Int32) (W_windDx : Int32) (W_windDy : Int32) (W_dx : Nat → Int32) (W_dy : Nat → Int32) (W_counting : Nat → Int32) : va_W := [(R 0, .inr (3, [.ref (B 0), .ref (K 0), .ref (Q 0), .ref (R 1), .ref (R 2), .int R_hour, .int R_broken])), aI c (R 1) 24 R_pieceLift, aI c (R 2) 24 R_pieceLoad, (B 0, .inr (0, [.ref (B 1), .ref (B 2), .ref (B 3), .ref (B 4), .ref (B 5), .ref (B 6), .ref (B 7), .ref (B 8), .ref (B 9), .ref (B 10), .ref (B 11), .int B_number])), aI c (B 9) 24 B_x, aI c (B 10) 24 B_y, (W 0, .inr (4, [.ref (W 1), .ref (W 2), .ref (W 3), .ref (W 4), .int W_number, .int W_windDx, .int W_windDy])), aI c (W 1) 8 W_dx, aI c (W 2) 8 W_dy, aI c (W 4) 600 W_counting]
abbrev rmX3_driftPiece : Room := { frames := 2, cells := 0, slots := 0, locals := 43 }
theorem yd_X3_driftPiece : yX3_driftPiece.cls = RX3 ∧ yX3_driftPiece.cls ≠ "java/lang/invoke/MethodHandle" ∧ yX3_driftPiece.cls ≠ "java/lang/invoke/VarHandle" ∧ (parseMethodDescriptor yX3_driftPiece.desc).map (fun d => d.parameters.length) = some 2 := by decide +kernel
theorem kwX3_driftPiece_1 : Cond.fieldLink RX3 12 "BarrelRaft$Raft" "barrels" "LBarrelRaft$Barrels;" ∈ wsX3_driftPiece := List.mem_of_getElem? (i := 1) rfl
set_option maxRecDepth 20000 in
theorem kinX3_driftPiece_X3 : ∀ w ∈ u_ws RX3 TX3 7, w ∈ wsX3_driftPiece := by decide +kernel
theorem kwX3_driftPiece_2 : Cond.fieldLink RX3 72 "BarrelRaft$Barrels" "x" "[I" ∈ wsX3_driftPiece := List.mem_of_getElem? (i := 2) rfl
set_option maxRecDepth 20000 in
theorem kinX3_driftPiece_X0 : ∀ w ∈ u_ws RX0 TX0 12, w ∈ wsX3_driftPiece := by decide +kernel
theorem kwX3_driftPiece_3 : Cond.fieldLink RX3 75 "BarrelRaft$Barrels" "y" "[I" ∈ wsX3_driftPiece := List.mem_of_getElem? (i := 3) rfl
theorem kwX3_driftPiece_4 : Cond.fieldLink RX3 36 "BarrelRaft$Raft" "pieceLoad" "[I" ∈ wsX3_driftPiece := List.mem_of_getElem? (i := 4) rfl
theorem kwX3_driftPiece_5 : Cond.fieldLink RX3 32 "BarrelRaft$Raft" "pieceLift" "[I" ∈ wsX3_driftPiece := List.mem_of_getElem? (i := 5) rfl
theorem kwX3_driftPiece_8 : Cond.methodLink RX3 165 Lib.Math.min.name ∈ wsX3_driftPiece := List.mem_of_getElem? (i := 8) rfl
theorem kwX3_driftPiece_9 : Cond.static Lib.Math.min.name ∈ wsX3_driftPiece := List.mem_of_getElem? (i := 9) rfl
theorem kwX3_driftPiece_10 : Cond.initialized "java/lang/Math" ∈ wsX3_driftPiece := List.mem_of_getElem? (i := 10) rfl
theorem kwX3_driftPiece_11 : Cond.code Lib.Math.min.name Lib.Math.min.code 2 (some .int) ∈ wsX3_driftPiece := List.mem_of_getElem? (i := 11) rfl
theorem kwX3_driftPiece_12 : Cond.methodLink RX3 168 Lib.Math.max.name ∈ wsX3_driftPiece := List.mem_of_getElem? (i := 12) rfl
theorem kwX3_driftPiece_13 : Cond.static Lib.Math.max.name ∈ wsX3_driftPiece := List.mem_of_getElem? (i := 13) rfl
theorem kwX3_driftPiece_14 : Cond.code Lib.Math.max.name Lib.Math.max.code 2 (some .int) ∈ wsX3_driftPiece := List.mem_of_getElem? (i := 14) rfl
theorem kwX3_driftPiece_6 : Cond.fieldLink RX3 159 "BarrelRaft$Waters" "windDx" "I" ∈ wsX3_driftPiece := List.mem_of_getElem? (i := 6) rfl
set_option maxRecDepth 20000 in
theorem kinX3_driftPiece_X4 : ∀ w ∈ u_ws RX4 TX4 7, w ∈ wsX3_driftPiece := by decide +kernel
theorem kwX3_driftPiece_7 : Cond.fieldLink RX3 162 "BarrelRaft$Waters" "windDy" "I" ∈ wsX3_driftPiece := List.mem_of_getElem? (i := 7) rfl
def jX3_driftPiece (R_pieceLift : Nat → Int32) (R_pieceLoad : Nat → Int32) (B_x : Nat → Int32) (B_y : Nat → Int32) (W_number : Int32) (W_windDx : Int32) (W_windDy : Int32) (W_dx : Nat → Int32) (W_dy : Nat → Int32) (W_counting : Nat → Int32) (a1 : Int32) : Option ((Nat → Int32) × (Nat → Int32)) :=
  chk 24 a1 (chk 24 a1 (bnd (jX4_at W_counting (rd B_x a1) (rd B_y a1)) (fun r1 => bnd (jX4_dxOf W_number W_dx r1) (fun r2 => bnd (jX4_dyOf W_number W_dy r1) (fun r3 => chk 24 a1 (chk 24 a1 (jn (fun (x72 : Int32 × Int32) => chk 24 a1 (chk 24 a1 (chk 24 a1 (chk 24 a1 (some (wr B_x a1 (mmax 0 (mmin 29 ((rd B_x a1) + x72.1))), wr B_y a1 (mmax 0 (mmin 19 ((rd B_y a1) + x72.2))))))))) (fun k72 => if rd R_pieceLift a1 ≤ 2 * (rd R_pieceLoad a1) then k72 (r2, r3) else k72 (r2 + W_windDx, r3 + W_windDy)))))))))
set_option maxHeartbeats 4000000 in
set_option maxRecDepth 100000 in
theorem mt_X3_driftPiece (l : Launch) (D : va_G) (c : Nat → ClassId) (R : Nat → Nat) (B : Nat → Nat) (K : Nat → Nat) (Q : Nat → Nat) (W : Nat → Nat) (R_hour : Int32) (R_broken : Int32) (R_pieceLift : Nat → Int32) (R_pieceLoad : Nat → Int32) (B_number : Int32) (B_x : Nat → Int32) (B_y : Nat → Int32) (W_number : Int32) (W_windDx : Int32) (W_windDy : Int32) (W_dx : Nat → Int32) (W_dy : Nat → Int32) (W_counting : Nat → Int32) (a1 : Int32) (q0 : (Nat → Int32) × (Nat → Int32)) (h : jX3_driftPiece R_pieceLift R_pieceLoad B_x B_y W_number W_windDx W_windDy W_dx W_dy W_counting a1 = some q0) : DTv l yX3_driftPiece wsX3_driftPiece rmX3_driftPiece D c (wX3_driftPiece c R B K Q W R_hour R_broken R_pieceLift R_pieceLoad B_number B_x B_y W_number W_windDx W_windDy W_dx W_dy W_counting) [.ref (R 0), .int a1, .ref (W 0)] (wX3_driftPiece c R B K Q W R_hour R_broken R_pieceLift R_pieceLoad B_number q0.1 q0.2 W_number W_windDx W_windDy W_dx W_dy W_counting) 0 0 := by
  refine DTv_of (cc := cX3_driftPiece) (nL := 6) RX3 rfl (by decide) rfl (Nat.le_of_ble_eq_true rfl) (fun g C ret => ?_)
  unfold jX3_driftPiece at h
  refine vv_lv [0, 1, 2] [(0, .ref (R 0)), (1, .int a1), (2, .ref (W 0))] rfl ?_
  refine vv_aload_n C dX3_driftPiece_0 rfl 2 rfl 1 rfl ?_
  refine vv_aload_n C dX3_driftPiece_1 rfl 0 rfl 2 rfl ?_
  refine vv_get C (q0 := 0) (ci := 3) (k := 0) kinX3_driftPiece_X3 rfl rfl (by decide) kwX3_driftPiece_1 rfl rfl dX3_driftPiece_2 5 rfl ?_
  refine vv_get C (q0 := 3) (ci := 0) (k := 8) kinX3_driftPiece_X0 rfl rfl (by decide) kwX3_driftPiece_2 rfl rfl dX3_driftPiece_5 8 rfl ?_
  refine vv_iload_n C dX3_driftPiece_8 rfl 1 rfl 9 rfl ?_
  obtain ⟨hi, h⟩ := chk_s h
  refine vv_iald C (q0 := 4) rfl hi dX3_driftPiece_9 10 rfl ?_
  refine vv_aload_n C dX3_driftPiece_10 rfl 0 rfl 11 rfl ?_
  refine vv_get C (q0 := 0) (ci := 3) (k := 0) kinX3_driftPiece_X3 rfl rfl (by decide) kwX3_driftPiece_1 rfl rfl dX3_driftPiece_11 14 rfl ?_
  refine vv_get C (q0 := 3) (ci := 0) (k := 9) kinX3_driftPiece_X0 rfl rfl (by decide) kwX3_driftPiece_3 rfl rfl dX3_driftPiece_14 17 rfl ?_
  refine vv_iload_n C dX3_driftPiece_17 rfl 1 rfl 18 rfl ?_
  obtain ⟨hi, h⟩ := chk_s h
  refine vv_iald C (q0 := 5) rfl hi dX3_driftPiece_18 19 rfl ?_
  obtain ⟨r1, hr1, h⟩ := bnd_s h
  refine vv_callVi C (fun l => mt_X4_at l D c W W_number W_windDx W_windDy W_counting (rd B_x a1) (rd B_y a1) r1 hr1) gX3_driftPiece_X4_at rfl rfl rfl yd_X4_at ⟨Nat.le_of_ble_eq_true rfl, Nat.le_of_ble_eq_true rfl⟩ [6, 9] rfl (by decide) 0 rfl rfl (wX3_driftPiece c R B K Q W R_hour R_broken R_pieceLift R_pieceLoad B_number B_x B_y W_number W_windDx W_windDy W_dx W_dy W_counting) [(false, 0), (false, 1), (false, 2), (false, 3), (false, 4), (false, 5), (true, 0), (false, 7), (false, 8), (true, 1)] rfl (by decide) rfl rfl [] rfl (Nat.le_of_ble_eq_true rfl) ⟨Nat.le_of_ble_eq_true rfl, Nat.le_of_ble_eq_true rfl⟩ dX3_driftPiece_19 22 0 0 rfl ⟨rfl, rfl⟩ ?_
  refine vv_istore_n C [(3, .int r1), (0, .ref (R 0)), (1, .int a1), (2, .ref (W 0))] dX3_driftPiece_22 rfl (by decide) rfl 23 rfl ?_
  refine vv_aload_n C dX3_driftPiece_23 rfl 3 rfl 24 rfl ?_
  refine vv_iload_n C dX3_driftPiece_24 rfl 0 rfl 25 rfl ?_
  obtain ⟨r2, hr2, h⟩ := bnd_s h
  refine vv_callVi C (fun l => mt_X4_dxOf l D c W W_number W_windDx W_windDy W_dx r1 r2 hr2) gX3_driftPiece_X4_dxOf rfl rfl rfl yd_X4_dxOf ⟨Nat.le_of_ble_eq_true rfl, Nat.le_of_ble_eq_true rfl⟩ [6, 7] rfl (by decide) 0 rfl rfl (wX3_driftPiece c R B K Q W R_hour R_broken R_pieceLift R_pieceLoad B_number B_x B_y W_number W_windDx W_windDy W_dx W_dy W_counting) [(false, 0), (false, 1), (false, 2), (false, 3), (false, 4), (false, 5), (true, 0), (true, 1), (false, 8), (false, 9)] rfl (by decide) rfl rfl [] rfl (Nat.le_of_ble_eq_true rfl) ⟨Nat.le_of_ble_eq_true rfl, Nat.le_of_ble_eq_true rfl⟩ dX3_driftPiece_25 28 0 0 rfl ⟨rfl, rfl⟩ ?_
  refine vv_istore C [(4, .int r2), (3, .int r1), (0, .ref (R 0)), (1, .int a1), (2, .ref (W 0))] dX3_driftPiece_28 (by decide) rfl 30 rfl ?_
  refine vv_aload_n C dX3_driftPiece_30 rfl 4 rfl 31 rfl ?_
  refine vv_iload_n C dX3_driftPiece_31 rfl 1 rfl 32 rfl ?_
  obtain ⟨r3, hr3, h⟩ := bnd_s h
  refine vv_callVi C (fun l => mt_X4_dyOf l D c W W_number W_windDx W_windDy W_dy r1 r3 hr3) gX3_driftPiece_X4_dyOf rfl rfl rfl yd_X4_dyOf ⟨Nat.le_of_ble_eq_true rfl, Nat.le_of_ble_eq_true rfl⟩ [6, 8] rfl (by decide) 0 rfl rfl (wX3_driftPiece c R B K Q W R_hour R_broken R_pieceLift R_pieceLoad B_number B_x B_y W_number W_windDx W_windDy W_dx W_dy W_counting) [(false, 0), (false, 1), (false, 2), (false, 3), (false, 4), (false, 5), (true, 0), (false, 7), (true, 1), (false, 9)] rfl (by decide) rfl rfl [] rfl (Nat.le_of_ble_eq_true rfl) ⟨Nat.le_of_ble_eq_true rfl, Nat.le_of_ble_eq_true rfl⟩ dX3_driftPiece_32 35 0 0 rfl ⟨rfl, rfl⟩ ?_
  refine vv_istore C [(5, .int r3), (4, .int r2), (3, .int r1), (0, .ref (R 0)), (1, .int a1), (2, .ref (W 0))] dX3_driftPiece_35 (by decide) rfl 37 rfl ?_
  refine vv_iconst C (v := 2) dX3_driftPiece_37 (by decide) 38 rfl ?_
  refine vv_aload_n C dX3_driftPiece_38 rfl 3 rfl 39 rfl ?_
  refine vv_get C (q0 := 0) (ci := 3) (k := 4) kinX3_driftPiece_X3 rfl rfl (by decide) kwX3_driftPiece_4 rfl rfl dX3_driftPiece_39 42 rfl ?_
  refine vv_iload_n C dX3_driftPiece_42 rfl 4 rfl 43 rfl ?_
  obtain ⟨hi, h⟩ := chk_s h
  refine vv_iald C (q0 := 2) rfl hi dX3_driftPiece_43 44 rfl ?_
  refine vv_imul C dX3_driftPiece_44 45 rfl ?_
  refine vv_aload_n C dX3_driftPiece_45 rfl 3 rfl 46 rfl ?_
  refine vv_get C (q0 := 0) (ci := 3) (k := 3) kinX3_driftPiece_X3 rfl rfl (by decide) kwX3_driftPiece_5 rfl rfl dX3_driftPiece_46 49 rfl ?_
  refine vv_iload_n C dX3_driftPiece_49 rfl 4 rfl 50 rfl ?_
  obtain ⟨hi, h⟩ := chk_s h
  refine vv_iald C (q0 := 1) rfl hi dX3_driftPiece_50 51 rfl ?_
  obtain ⟨k72, hk72, h⟩ := jn_s h
  have J72 : ∀ (x72 : Int32 × Int32), k72 x72 = some q0 → VV g D 6 0 0 (wX3_driftPiece c R B K Q W R_hour R_broken R_pieceLift R_pieceLoad B_number B_x B_y W_number W_windDx W_windDy W_dx W_dy W_counting) [(0, .ref (R 0)), (1, .int a1), (4, .int x72.1), (5, .int x72.2)] 72 [] := by
    intro x72 h
    replace h := jn_u hk72 h
    refine vv_aload_n C dX3_driftPiece_72 rfl 0 rfl 73 rfl ?_
    refine vv_get C (q0 := 0) (ci := 3) (k := 0) kinX3_driftPiece_X3 rfl rfl (by decide) kwX3_driftPiece_1 rfl rfl dX3_driftPiece_73 76 rfl ?_
    refine vv_get C (q0 := 3) (ci := 0) (k := 8) kinX3_driftPiece_X0 rfl rfl (by decide) kwX3_driftPiece_2 rfl rfl dX3_driftPiece_76 79 rfl ?_
    refine vv_iload_n C dX3_driftPiece_79 rfl 1 rfl 80 rfl ?_
    refine vv_iconst C (v := 0) dX3_driftPiece_80 (by decide) 81 rfl ?_
    refine vv_bipush C (v := 29) dX3_driftPiece_81 (by decide) 83 rfl ?_
    refine vv_aload_n C dX3_driftPiece_83 rfl 0 rfl 84 rfl ?_
    refine vv_get C (q0 := 0) (ci := 3) (k := 0) kinX3_driftPiece_X3 rfl rfl (by decide) kwX3_driftPiece_1 rfl rfl dX3_driftPiece_84 87 rfl ?_
    refine vv_get C (q0 := 3) (ci := 0) (k := 8) kinX3_driftPiece_X0 rfl rfl (by decide) kwX3_driftPiece_2 rfl rfl dX3_driftPiece_87 90 rfl ?_
    refine vv_iload_n C dX3_driftPiece_90 rfl 1 rfl 91 rfl ?_
    obtain ⟨hi, h⟩ := chk_s h
    refine vv_iald C (q0 := 4) rfl hi dX3_driftPiece_91 92 rfl ?_
    refine vv_iload C dX3_driftPiece_92 2 rfl 94 rfl ?_
    refine vv_iadd C dX3_driftPiece_94 95 rfl ?_
    refine vv_mmin C kwX3_driftPiece_8 kwX3_driftPiece_9 kwX3_driftPiece_10 kwX3_driftPiece_11 ⟨Nat.le_of_ble_eq_true rfl, Nat.le_of_ble_eq_true rfl⟩ ⟨Nat.le_of_ble_eq_true rfl, Nat.le_of_ble_eq_true rfl⟩ dX3_driftPiece_95 98 rfl ?_
    refine vv_mmax C kwX3_driftPiece_12 kwX3_driftPiece_13 kwX3_driftPiece_10 kwX3_driftPiece_14 ⟨Nat.le_of_ble_eq_true rfl, Nat.le_of_ble_eq_true rfl⟩ ⟨Nat.le_of_ble_eq_true rfl, Nat.le_of_ble_eq_true rfl⟩ dX3_driftPiece_98 101 rfl ?_
    obtain ⟨hi, h⟩ := chk_s h
    refine vv_iast C (q0 := 4) (wX3_driftPiece c R B K Q W R_hour R_broken R_pieceLift R_pieceLoad B_number (wr B_x a1 (mmax 0 (mmin 29 ((rd B_x a1) + x72.1)))) B_y W_number W_windDx W_windDy W_dx W_dy W_counting) rfl hi rfl dX3_driftPiece_101 102 rfl ?_
    refine vv_aload_n C dX3_driftPiece_102 rfl 0 rfl 103 rfl ?_
    refine vv_get C (q0 := 0) (ci := 3) (k := 0) kinX3_driftPiece_X3 rfl rfl (by decide) kwX3_driftPiece_1 rfl rfl dX3_driftPiece_103 106 rfl ?_
    refine vv_get C (q0 := 3) (ci := 0) (k := 9) kinX3_driftPiece_X0 rfl rfl (by decide) kwX3_driftPiece_3 rfl rfl dX3_driftPiece_106 109 rfl ?_
    refine vv_iload_n C dX3_driftPiece_109 rfl 1 rfl 110 rfl ?_
    refine vv_iconst C (v := 0) dX3_driftPiece_110 (by decide) 111 rfl ?_
    refine vv_bipush C (v := 19) dX3_driftPiece_111 (by decide) 113 rfl ?_
    refine vv_aload_n C dX3_driftPiece_113 rfl 0 rfl 114 rfl ?_
    refine vv_get C (q0 := 0) (ci := 3) (k := 0) kinX3_driftPiece_X3 rfl rfl (by decide) kwX3_driftPiece_1 rfl rfl dX3_driftPiece_114 117 rfl ?_
    refine vv_get C (q0 := 3) (ci := 0) (k := 9) kinX3_driftPiece_X0 rfl rfl (by decide) kwX3_driftPiece_3 rfl rfl dX3_driftPiece_117 120 rfl ?_
    refine vv_iload_n C dX3_driftPiece_120 rfl 1 rfl 121 rfl ?_
    obtain ⟨hi, h⟩ := chk_s h
    refine vv_iald C (q0 := 5) rfl hi dX3_driftPiece_121 122 rfl ?_
    refine vv_iload C dX3_driftPiece_122 3 rfl 124 rfl ?_
    refine vv_iadd C dX3_driftPiece_124 125 rfl ?_
    refine vv_mmin C kwX3_driftPiece_8 kwX3_driftPiece_9 kwX3_driftPiece_10 kwX3_driftPiece_11 ⟨Nat.le_of_ble_eq_true rfl, Nat.le_of_ble_eq_true rfl⟩ ⟨Nat.le_of_ble_eq_true rfl, Nat.le_of_ble_eq_true rfl⟩ dX3_driftPiece_125 128 rfl ?_
    refine vv_mmax C kwX3_driftPiece_12 kwX3_driftPiece_13 kwX3_driftPiece_10 kwX3_driftPiece_14 ⟨Nat.le_of_ble_eq_true rfl, Nat.le_of_ble_eq_true rfl⟩ ⟨Nat.le_of_ble_eq_true rfl, Nat.le_of_ble_eq_true rfl⟩ dX3_driftPiece_128 131 rfl ?_
    obtain ⟨hi, h⟩ := chk_s h
    refine vv_iast C (q0 := 5) (wX3_driftPiece c R B K Q W R_hour R_broken R_pieceLift R_pieceLoad B_number (wr B_x a1 (mmax 0 (mmin 29 ((rd B_x a1) + x72.1)))) (wr B_y a1 (mmax 0 (mmin 19 ((rd B_y a1) + x72.2)))) W_number W_windDx W_windDy W_dx W_dy W_counting) rfl hi rfl dX3_driftPiece_131 132 rfl ?_
    obtain rfl := Option.some.inj h
    exact ret _ _ dX3_driftPiece_132
  refine vv_icmp_ge C 72 54 dX3_driftPiece_51 (by decide) rfl (fun hc => ?_) (fun hc => ?_)
  · replace h := ite_t hc h
    refine vv_lv [3, 4, 1, 0] [(0, .ref (R 0)), (1, .int a1), (4, .int r2), (5, .int r3)] rfl ?_
    exact J72 (r2, r3) h
  · replace h := ite_f hc h
    refine vv_iload C dX3_driftPiece_54 1 rfl 56 rfl ?_
    refine vv_aload_n C dX3_driftPiece_56 rfl 5 rfl 57 rfl ?_
    refine vv_get C (q0 := 6) (ci := 4) (k := 5) kinX3_driftPiece_X4 rfl rfl (by decide) kwX3_driftPiece_6 rfl rfl dX3_driftPiece_57 60 rfl ?_
    refine vv_iadd C dX3_driftPiece_60 61 rfl ?_
    refine vv_istore C [(4, .int (r2 + W_windDx)), (5, .int r3), (3, .int r1), (0, .ref (R 0)), (1, .int a1), (2, .ref (W 0))] dX3_driftPiece_61 (by decide) rfl 63 rfl ?_
    refine vv_iload C dX3_driftPiece_63 1 rfl 65 rfl ?_
    refine vv_aload_n C dX3_driftPiece_65 rfl 5 rfl 66 rfl ?_
    refine vv_get C (q0 := 6) (ci := 4) (k := 6) kinX3_driftPiece_X4 rfl rfl (by decide) kwX3_driftPiece_7 rfl rfl dX3_driftPiece_66 69 rfl ?_
    refine vv_iadd C dX3_driftPiece_69 70 rfl ?_
    refine vv_istore C [(5, .int (r3 + W_windDy)), (4, .int (r2 + W_windDx)), (3, .int r1), (0, .ref (R 0)), (1, .int a1), (2, .ref (W 0))] dX3_driftPiece_70 (by decide) rfl 72 rfl ?_
    refine vv_lv [3, 4, 1, 0] [(0, .ref (R 0)), (1, .int a1), (4, .int (r2 + W_windDx)), (5, .int (r3 + W_windDy))] rfl ?_
    exact J72 (r2 + W_windDx, r3 + W_windDy) h
abbrev wX3_drift (c : Nat → ClassId) (R : Nat → Nat) (B : Nat → Nat) (K : Nat → Nat) (Q : Nat → Nat) (W : Nat → Nat) (R_hour : Int32) (R_broken : Int32) (R_pieceLift : Nat → Int32) (R_pieceLoad : Nat → Int32) (B_number : Int32) (B_lift : Nat → Int32) (B_water : Nat → Int32) (B_goods : Nat → Int32) (B_people : Nat → Int32) (B_x : Nat → Int32) (B_y : Nat → Int32) (B_piece : Nat → Int32) (W_number : Int32) (W_windDx : Int32) (W_windDy : Int32) (W_dx : Nat → Int32) (W_dy : Nat → Int32) (W_counting : Nat → Int32) : va_W := [(R 0, .inr (3, [.ref (B 0), .ref (K 0), .ref (Q 0), .ref (R 1), .ref (R 2), .int R_hour, .int R_broken])), aI c (R 1) 24 R_pieceLift, aI c (R 2) 24 R_pieceLoad, (B 0, .inr (0, [.ref (B 1), .ref (B 2), .ref (B 3), .ref (B 4), .ref (B 5), .ref (B 6), .ref (B 7), .ref (B 8), .ref (B 9), .ref (B 10), .ref (B 11), .int B_number])), aI c (B 3) 24 B_lift, aI c (B 5) 24 B_water, aI c (B 6) 24 B_goods, aI c (B 7) 24 B_people, aI c (B 9) 24 B_x, aI c (B 10) 24 B_y, aI c (B 11) 24 B_piece, (W 0, .inr (4, [.ref (W 1), .ref (W 2), .ref (W 3), .ref (W 4), .int W_number, .int W_windDx, .int W_windDy])), aI c (W 1) 8 W_dx, aI c (W 2) 8 W_dy, aI c (W 4) 600 W_counting]
abbrev rmX3_drift : Room := { frames := 3, cells := 0, slots := 0, locals := 68 }
theorem yd_X3_drift : yX3_drift.cls = RX3 ∧ yX3_drift.cls ≠ "java/lang/invoke/MethodHandle" ∧ yX3_drift.cls ≠ "java/lang/invoke/VarHandle" ∧ (parseMethodDescriptor yX3_drift.desc).map (fun d => d.parameters.length) = some 1 := by decide +kernel
theorem kwX3_drift_1 : Cond.fieldLink RX3 12 "BarrelRaft$Raft" "barrels" "LBarrelRaft$Barrels;" ∈ wsX3_drift := List.mem_of_getElem? (i := 1) rfl
set_option maxRecDepth 20000 in
theorem kinX3_drift_X3 : ∀ w ∈ u_ws RX3 TX3 7, w ∈ wsX3_drift := by decide +kernel
theorem kwX3_drift_2 : Cond.fieldLink RX3 119 "BarrelRaft$Barrels" "number" "I" ∈ wsX3_drift := List.mem_of_getElem? (i := 2) rfl
set_option maxRecDepth 20000 in
theorem kinX3_drift_X0 : ∀ w ∈ u_ws RX0 TX0 12, w ∈ wsX3_drift := by decide +kernel
theorem kwX3_drift_3 : Cond.fieldLink RX3 120 "BarrelRaft$Barrels" "piece" "[I" ∈ wsX3_drift := List.mem_of_getElem? (i := 3) rfl
theorem kwX3_drift_4 : Cond.fieldLink RX3 72 "BarrelRaft$Barrels" "x" "[I" ∈ wsX3_drift := List.mem_of_getElem? (i := 4) rfl
theorem kwX3_drift_5 : Cond.fieldLink RX3 75 "BarrelRaft$Barrels" "y" "[I" ∈ wsX3_drift := List.mem_of_getElem? (i := 5) rfl
def jX3_drift_L6 (R_pieceLift : Nat → Int32) (R_pieceLoad : Nat → Int32) (B_number : Int32) (B_piece : Nat → Int32) (W_number : Int32) (W_windDx : Int32) (W_windDy : Int32) (W_dx : Nat → Int32) (W_dy : Nat → Int32) (W_counting : Nat → Int32) (n : Nat) (B_x_6 : Nat → Int32) (B_y_6 : Nat → Int32) (v2_6 : Int32) : Option ((Nat → Int32) × (Nat → Int32)) :=
  match n with
  | 0 => none
  | n + 1 => (if B_number ≤ v2_6 then some (B_x_6, B_y_6) else chk 24 v2_6 ((if rd B_piece v2_6 = v2_6 then bnd (jX3_driftPiece R_pieceLift R_pieceLoad B_x_6 B_y_6 W_number W_windDx W_windDy W_dx W_dy W_counting v2_6) (fun r2 => jX3_drift_L6 R_pieceLift R_pieceLoad B_number B_piece W_number W_windDx W_windDy W_dx W_dy W_counting n r2.1 r2.2 (v2_6 + 1)) else (if rd B_piece v2_6 < 0 then jX3_drift_L6 R_pieceLift R_pieceLoad B_number B_piece W_number W_windDx W_windDy W_dx W_dy W_counting n B_x_6 B_y_6 (v2_6 + 1) else chk 24 (rd B_piece v2_6) (chk 24 v2_6 (chk 24 (rd B_piece v2_6) (chk 24 v2_6 (jX3_drift_L6 R_pieceLift R_pieceLoad B_number B_piece W_number W_windDx W_windDy W_dx W_dy W_counting n (wr B_x_6 v2_6 (rd B_x_6 (rd B_piece v2_6))) (wr B_y_6 v2_6 (rd B_y_6 (rd B_piece v2_6))) (v2_6 + 1)))))))))
def jX3_drift (R_pieceLift : Nat → Int32) (R_pieceLoad : Nat → Int32) (B_number : Int32) (B_lift : Nat → Int32) (B_water : Nat → Int32) (B_goods : Nat → Int32) (B_people : Nat → Int32) (B_x : Nat → Int32) (B_y : Nat → Int32) (B_piece : Nat → Int32) (W_number : Int32) (W_windDx : Int32) (W_windDy : Int32) (W_dx : Nat → Int32) (W_dy : Nat → Int32) (W_counting : Nat → Int32) : Option ((Nat → Int32) × (Nat → Int32) × (Nat → Int32) × (Nat → Int32)) :=
  bnd (jX3_weighPieces R_pieceLift R_pieceLoad B_number B_lift B_water B_goods B_people B_piece) (fun r1 => bnd (jX3_drift_L6 r1.1 r1.2 B_number B_piece W_number W_windDx W_windDy W_dx W_dy W_counting FU B_x B_y 0) (fun r3 => some (r1.1, r1.2, r3.1, r3.2)))
set_option maxHeartbeats 4000000 in
set_option maxRecDepth 100000 in
theorem mt_X3_drift (l : Launch) (D : va_G) (c : Nat → ClassId) (R : Nat → Nat) (B : Nat → Nat) (K : Nat → Nat) (Q : Nat → Nat) (W : Nat → Nat) (R_hour : Int32) (R_broken : Int32) (R_pieceLift : Nat → Int32) (R_pieceLoad : Nat → Int32) (B_number : Int32) (B_lift : Nat → Int32) (B_water : Nat → Int32) (B_goods : Nat → Int32) (B_people : Nat → Int32) (B_x : Nat → Int32) (B_y : Nat → Int32) (B_piece : Nat → Int32) (W_number : Int32) (W_windDx : Int32) (W_windDy : Int32) (W_dx : Nat → Int32) (W_dy : Nat → Int32) (W_counting : Nat → Int32) (q0 : (Nat → Int32) × (Nat → Int32) × (Nat → Int32) × (Nat → Int32)) (h : jX3_drift R_pieceLift R_pieceLoad B_number B_lift B_water B_goods B_people B_x B_y B_piece W_number W_windDx W_windDy W_dx W_dy W_counting = some q0) : DTv l yX3_drift wsX3_drift rmX3_drift D c (wX3_drift c R B K Q W R_hour R_broken R_pieceLift R_pieceLoad B_number B_lift B_water B_goods B_people B_x B_y B_piece W_number W_windDx W_windDy W_dx W_dy W_counting) [.ref (R 0), .ref (W 0)] (wX3_drift c R B K Q W R_hour R_broken q0.1 q0.2.1 B_number B_lift B_water B_goods B_people q0.2.2.1 q0.2.2.2 B_piece W_number W_windDx W_windDy W_dx W_dy W_counting) 0 0 := by
  refine DTv_of (cc := cX3_drift) (nL := 4) RX3 rfl (by decide) rfl (Nat.le_of_ble_eq_true rfl) (fun g C ret => ?_)
  unfold jX3_drift at h
  refine vv_lv [0, 1] [(0, .ref (R 0)), (1, .ref (W 0))] rfl ?_
  refine vv_aload_n C dX3_drift_0 rfl 0 rfl 1 rfl ?_
  obtain ⟨r1, hr1, h⟩ := bnd_s h
  refine vv_callVv C (fun l => mt_X3_weighPieces l D c R B K Q R_hour R_broken R_pieceLift R_pieceLoad B_number B_lift B_water B_goods B_people B_piece r1 hr1) gX3_drift_X3_weighPieces rfl rfl rfl yd_X3_weighPieces ⟨Nat.le_of_ble_eq_true rfl, Nat.le_of_ble_eq_true rfl⟩ [0, 1, 2, 3, 4, 5, 6, 7, 10] rfl (by decide) 0 rfl rfl (wX3_drift c R B K Q W R_hour R_broken r1.1 r1.2 B_number B_lift B_water B_goods B_people B_x B_y B_piece W_number W_windDx W_windDy W_dx W_dy W_counting) [(true, 0), (true, 1), (true, 2), (true, 3), (true, 4), (true, 5), (true, 6), (true, 7), (false, 8), (false, 9), (true, 8), (false, 11), (false, 12), (false, 13), (false, 14)] rfl (by decide) rfl rfl [] rfl (Nat.le_of_ble_eq_true rfl) ⟨Nat.le_of_ble_eq_true rfl, Nat.le_of_ble_eq_true rfl⟩ dX3_drift_1 4 0 0 rfl ⟨rfl, rfl⟩ ?_
  refine vv_iconst C (v := 0) dX3_drift_4 (by decide) 5 rfl ?_
  refine vv_istore_n C [(2, .int 0), (0, .ref (R 0)), (1, .ref (W 0))] dX3_drift_5 rfl (by decide) rfl 6 rfl ?_
  refine vv_lv [1, 2, 0] [(0, .ref (R 0)), (1, .ref (W 0)), (2, .int 0)] rfl ?_
  have L6 : ∀ (n : Nat) (B_x_6 : Nat → Int32) (B_y_6 : Nat → Int32) (v2_6 : Int32) (q6 : (Nat → Int32) × (Nat → Int32)), jX3_drift_L6 r1.1 r1.2 B_number B_piece W_number W_windDx W_windDy W_dx W_dy W_counting n B_x_6 B_y_6 v2_6 = some q6 → (VV g D 4 0 0 (wX3_drift c R B K Q W R_hour R_broken r1.1 r1.2 B_number B_lift B_water B_goods B_people q6.1 q6.2 B_piece W_number W_windDx W_windDy W_dx W_dy W_counting) [] 87 []) → VV g D 4 0 0 (wX3_drift c R B K Q W R_hour R_broken r1.1 r1.2 B_number B_lift B_water B_goods B_people B_x_6 B_y_6 B_piece W_number W_windDx W_windDy W_dx W_dy W_counting) [(0, .ref (R 0)), (1, .ref (W 0)), (2, .int v2_6)] 6 [] := by
    intro n
    induction n with
    | zero =>
      intro B_x_6 B_y_6 v2_6 q6 h _
      rw [jX3_drift_L6] at h
      cases h
    | succ n ih6 =>
      intro B_x_6 B_y_6 v2_6 q6 h kk6
      rw [jX3_drift_L6] at h
      refine vv_iload_n C dX3_drift_6 rfl 2 rfl 7 rfl ?_
      refine vv_aload_n C dX3_drift_7 rfl 0 rfl 8 rfl ?_
      refine vv_get C (q0 := 0) (ci := 3) (k := 0) kinX3_drift_X3 rfl rfl (by decide) kwX3_drift_1 rfl rfl dX3_drift_8 11 rfl ?_
      refine vv_get C (q0 := 3) (ci := 0) (k := 11) kinX3_drift_X0 rfl rfl (by decide) kwX3_drift_2 rfl rfl dX3_drift_11 14 rfl ?_
      refine vv_icmp_ge C 87 17 dX3_drift_14 (by decide) rfl (fun hc => ?_) (fun hc => ?_)
      · replace h := ite_t hc h
        refine vv_lv [] [] rfl ?_
        obtain rfl := Option.some.inj h
        exact kk6
      · replace h := ite_f hc h
        refine vv_aload_n C dX3_drift_17 rfl 0 rfl 18 rfl ?_
        refine vv_get C (q0 := 0) (ci := 3) (k := 0) kinX3_drift_X3 rfl rfl (by decide) kwX3_drift_1 rfl rfl dX3_drift_18 21 rfl ?_
        refine vv_get C (q0 := 3) (ci := 0) (k := 10) kinX3_drift_X0 rfl rfl (by decide) kwX3_drift_3 rfl rfl dX3_drift_21 24 rfl ?_
        refine vv_iload_n C dX3_drift_24 rfl 2 rfl 25 rfl ?_
        obtain ⟨hi, h⟩ := chk_s h
        refine vv_iald C (q0 := 10) rfl hi dX3_drift_25 26 rfl ?_
        refine vv_istore_n C [(3, .int (rd B_piece v2_6)), (0, .ref (R 0)), (1, .ref (W 0)), (2, .int v2_6)] dX3_drift_26 rfl (by decide) rfl 27 rfl ?_
        refine vv_iload_n C dX3_drift_27 rfl 0 rfl 28 rfl ?_
        refine vv_iload_n C dX3_drift_28 rfl 3 rfl 29 rfl ?_
        refine vv_icmp_ne C 41 32 dX3_drift_29 (by decide) rfl (fun hc => ?_) (fun hc => ?_)
        · replace h := ite_f hc h
          refine vv_iload_n C dX3_drift_41 rfl 0 rfl 42 rfl ?_
          refine vv_if_lt C 81 45 dX3_drift_42 (by decide) rfl (fun hc => ?_) (fun hc => ?_)
          · replace h := ite_t hc h
            refine vv_iinc C (k := 3) [(2, .int (v2_6 + 1)), (3, .int (rd B_piece v2_6)), (0, .ref (R 0)), (1, .ref (W 0))] dX3_drift_81 rfl rfl (by decide) rfl 84 rfl ?_
            refine vv_goto C 6 dX3_drift_84 (by decide) ?_
            refine vv_lv [2, 3, 0] [(0, .ref (R 0)), (1, .ref (W 0)), (2, .int (v2_6 + 1))] rfl ?_
            exact ih6 B_x_6 B_y_6 (v2_6 + 1) _ h kk6
          · replace h := ite_f hc h
            refine vv_aload_n C dX3_drift_45 rfl 1 rfl 46 rfl ?_
            refine vv_get C (q0 := 0) (ci := 3) (k := 0) kinX3_drift_X3 rfl rfl (by decide) kwX3_drift_1 rfl rfl dX3_drift_46 49 rfl ?_
            refine vv_get C (q0 := 3) (ci := 0) (k := 8) kinX3_drift_X0 rfl rfl (by decide) kwX3_drift_4 rfl rfl dX3_drift_49 52 rfl ?_
            refine vv_iload_n C dX3_drift_52 rfl 3 rfl 53 rfl ?_
            refine vv_aload_n C dX3_drift_53 rfl 1 rfl 54 rfl ?_
            refine vv_get C (q0 := 0) (ci := 3) (k := 0) kinX3_drift_X3 rfl rfl (by decide) kwX3_drift_1 rfl rfl dX3_drift_54 57 rfl ?_
            refine vv_get C (q0 := 3) (ci := 0) (k := 8) kinX3_drift_X0 rfl rfl (by decide) kwX3_drift_4 rfl rfl dX3_drift_57 60 rfl ?_
            refine vv_iload_n C dX3_drift_60 rfl 0 rfl 61 rfl ?_
            obtain ⟨hi, h⟩ := chk_s h
            refine vv_iald C (q0 := 8) rfl hi dX3_drift_61 62 rfl ?_
            obtain ⟨hi, h⟩ := chk_s h
            refine vv_iast C (q0 := 8) (wX3_drift c R B K Q W R_hour R_broken r1.1 r1.2 B_number B_lift B_water B_goods B_people (wr B_x_6 v2_6 (rd B_x_6 (rd B_piece v2_6))) B_y_6 B_piece W_number W_windDx W_windDy W_dx W_dy W_counting) rfl hi rfl dX3_drift_62 63 rfl ?_
            refine vv_aload_n C dX3_drift_63 rfl 1 rfl 64 rfl ?_
            refine vv_get C (q0 := 0) (ci := 3) (k := 0) kinX3_drift_X3 rfl rfl (by decide) kwX3_drift_1 rfl rfl dX3_drift_64 67 rfl ?_
            refine vv_get C (q0 := 3) (ci := 0) (k := 9) kinX3_drift_X0 rfl rfl (by decide) kwX3_drift_5 rfl rfl dX3_drift_67 70 rfl ?_
            refine vv_iload_n C dX3_drift_70 rfl 3 rfl 71 rfl ?_
            refine vv_aload_n C dX3_drift_71 rfl 1 rfl 72 rfl ?_
            refine vv_get C (q0 := 0) (ci := 3) (k := 0) kinX3_drift_X3 rfl rfl (by decide) kwX3_drift_1 rfl rfl dX3_drift_72 75 rfl ?_
            refine vv_get C (q0 := 3) (ci := 0) (k := 9) kinX3_drift_X0 rfl rfl (by decide) kwX3_drift_5 rfl rfl dX3_drift_75 78 rfl ?_
            refine vv_iload_n C dX3_drift_78 rfl 0 rfl 79 rfl ?_
            obtain ⟨hi, h⟩ := chk_s h
            refine vv_iald C (q0 := 9) rfl hi dX3_drift_79 80 rfl ?_
            obtain ⟨hi, h⟩ := chk_s h
            refine vv_iast C (q0 := 9) (wX3_drift c R B K Q W R_hour R_broken r1.1 r1.2 B_number B_lift B_water B_goods B_people (wr B_x_6 v2_6 (rd B_x_6 (rd B_piece v2_6))) (wr B_y_6 v2_6 (rd B_y_6 (rd B_piece v2_6))) B_piece W_number W_windDx W_windDy W_dx W_dy W_counting) rfl hi rfl dX3_drift_80 81 rfl ?_
            refine vv_iinc C (k := 3) [(2, .int (v2_6 + 1)), (3, .int (rd B_piece v2_6)), (0, .ref (R 0)), (1, .ref (W 0))] dX3_drift_81 rfl rfl (by decide) rfl 84 rfl ?_
            refine vv_goto C 6 dX3_drift_84 (by decide) ?_
            refine vv_lv [2, 3, 0] [(0, .ref (R 0)), (1, .ref (W 0)), (2, .int (v2_6 + 1))] rfl ?_
            exact ih6 (wr B_x_6 v2_6 (rd B_x_6 (rd B_piece v2_6))) (wr B_y_6 v2_6 (rd B_y_6 (rd B_piece v2_6))) (v2_6 + 1) _ h kk6
        · replace h := ite_t hc h
          refine vv_aload_n C dX3_drift_32 rfl 1 rfl 33 rfl ?_
          refine vv_iload_n C dX3_drift_33 rfl 3 rfl 34 rfl ?_
          refine vv_aload_n C dX3_drift_34 rfl 2 rfl 35 rfl ?_
          obtain ⟨r2, hr2, h⟩ := bnd_s h
          refine vv_callVv C (fun l => mt_X3_driftPiece l D c R B K Q W R_hour R_broken r1.1 r1.2 B_number B_x_6 B_y_6 W_number W_windDx W_windDy W_dx W_dy W_counting v2_6 r2 hr2) gX3_drift_X3_driftPiece rfl rfl rfl yd_X3_driftPiece ⟨Nat.le_of_ble_eq_true rfl, Nat.le_of_ble_eq_true rfl⟩ [0, 1, 2, 3, 8, 9, 11, 12, 13, 14] rfl (by decide) 0 rfl rfl (wX3_drift c R B K Q W R_hour R_broken r1.1 r1.2 B_number B_lift B_water B_goods B_people r2.1 r2.2 B_piece W_number W_windDx W_windDy W_dx W_dy W_counting) [(true, 0), (true, 1), (true, 2), (true, 3), (false, 4), (false, 5), (false, 6), (false, 7), (true, 4), (true, 5), (false, 10), (true, 6), (true, 7), (true, 8), (true, 9)] rfl (by decide) rfl rfl [] rfl (Nat.le_of_ble_eq_true rfl) ⟨Nat.le_of_ble_eq_true rfl, Nat.le_of_ble_eq_true rfl⟩ dX3_drift_35 38 0 0 rfl ⟨rfl, rfl⟩ ?_
          refine vv_goto C 81 dX3_drift_38 (by decide) ?_
          refine vv_iinc C (k := 3) [(2, .int (v2_6 + 1)), (3, .int (rd B_piece v2_6)), (0, .ref (R 0)), (1, .ref (W 0))] dX3_drift_81 rfl rfl (by decide) rfl 84 rfl ?_
          refine vv_goto C 6 dX3_drift_84 (by decide) ?_
          refine vv_lv [2, 3, 0] [(0, .ref (R 0)), (1, .ref (W 0)), (2, .int (v2_6 + 1))] rfl ?_
          exact ih6 r2.1 r2.2 (v2_6 + 1) _ h kk6
  obtain ⟨r3, hr3, h⟩ := bnd_s h
  refine L6 FU B_x B_y 0 r3 hr3 ?_
  obtain rfl := Option.some.inj h
  exact ret _ _ dX3_drift_87
abbrev wX3_findPieces (c : Nat → ClassId) (R : Nat → Nat) (B : Nat → Nat) (K : Nat → Nat) (Q : Nat → Nat) (R_hour : Int32) (R_broken : Int32) (B_number : Int32) (B_state : Nat → Int32) (B_piece : Nat → Int32) (Q_number : Int32) (Q_first : Nat → Int32) (Q_second : Nat → Int32) : va_W := [(R 0, .inr (3, [.ref (B 0), .ref (K 0), .ref (Q 0), .ref (R 1), .ref (R 2), .int R_hour, .int R_broken])), (B 0, .inr (0, [.ref (B 1), .ref (B 2), .ref (B 3), .ref (B 4), .ref (B 5), .ref (B 6), .ref (B 7), .ref (B 8), .ref (B 9), .ref (B 10), .ref (B 11), .int B_number])), aI c (B 8) 24 B_state, aI c (B 11) 24 B_piece, (Q 0, .inr (2, [.ref (Q 1), .ref (Q 2), .ref (Q 3), .ref (Q 4), .int Q_number])), aI c (Q 1) 48 Q_first, aI c (Q 2) 48 Q_second]
abbrev rmX3_findPieces : Room := { frames := 2, cells := 0, slots := 0, locals := 46 }
theorem yd_X3_findPieces : yX3_findPieces.cls = RX3 ∧ yX3_findPieces.cls ≠ "java/lang/invoke/MethodHandle" ∧ yX3_findPieces.cls ≠ "java/lang/invoke/VarHandle" ∧ (parseMethodDescriptor yX3_findPieces.desc).map (fun d => d.parameters.length) = some 0 := by decide +kernel
theorem kwX3_findPieces_1 : Cond.fieldLink RX3 12 "BarrelRaft$Raft" "barrels" "LBarrelRaft$Barrels;" ∈ wsX3_findPieces := List.mem_of_getElem? (i := 1) rfl
set_option maxRecDepth 20000 in
theorem kinX3_findPieces_X3 : ∀ w ∈ u_ws RX3 TX3 7, w ∈ wsX3_findPieces := by decide +kernel
theorem kwX3_findPieces_2 : Cond.fieldLink RX3 28 "BarrelRaft$Raft" "lashings" "LBarrelRaft$Lashings;" ∈ wsX3_findPieces := List.mem_of_getElem? (i := 2) rfl
theorem kwX3_findPieces_3 : Cond.fieldLink RX3 59 "BarrelRaft$Lashings" "number" "I" ∈ wsX3_findPieces := List.mem_of_getElem? (i := 3) rfl
set_option maxRecDepth 20000 in
theorem kinX3_findPieces_X2 : ∀ w ∈ u_ws RX2 TX2 5, w ∈ wsX3_findPieces := by decide +kernel
theorem kwX3_findPieces_4 : Cond.fieldLink RX3 62 "BarrelRaft$Lashings" "first" "[I" ∈ wsX3_findPieces := List.mem_of_getElem? (i := 4) rfl
theorem kwX3_findPieces_5 : Cond.fieldLink RX3 65 "BarrelRaft$Lashings" "second" "[I" ∈ wsX3_findPieces := List.mem_of_getElem? (i := 5) rfl
def jX3_findPieces_L9 (B_number : Int32) (Q_number : Int32) (Q_first : Nat → Int32) (Q_second : Nat → Int32) (n : Nat) (B_piece_9 : Nat → Int32) (v1_9 : Int32) : Option ((Nat → Int32)) :=
  match n with
  | 0 => none
  | n + 1 => (if Q_number ≤ v1_9 then some B_piece_9 else chk 48 v1_9 (chk 48 v1_9 (bnd (jX0_join B_number B_piece_9 (rd Q_first v1_9) (rd Q_second v1_9)) (fun r2 => jX3_findPieces_L9 B_number Q_number Q_first Q_second n r2 (v1_9 + 1)))))
def jX3_findPieces (B_number : Int32) (B_state : Nat → Int32) (B_piece : Nat → Int32) (Q_number : Int32) (Q_first : Nat → Int32) (Q_second : Nat → Int32) : Option ((Nat → Int32)) :=
  bnd (jX0_standAlone B_number B_state B_piece) (fun r1 => bnd (jX3_findPieces_L9 B_number Q_number Q_first Q_second FU r1 0) (fun r3 => some r3))
set_option maxHeartbeats 4000000 in
set_option maxRecDepth 100000 in
theorem mt_X3_findPieces (l : Launch) (D : va_G) (c : Nat → ClassId) (R : Nat → Nat) (B : Nat → Nat) (K : Nat → Nat) (Q : Nat → Nat) (R_hour : Int32) (R_broken : Int32) (B_number : Int32) (B_state : Nat → Int32) (B_piece : Nat → Int32) (Q_number : Int32) (Q_first : Nat → Int32) (Q_second : Nat → Int32) (q0 : (Nat → Int32)) (h : jX3_findPieces B_number B_state B_piece Q_number Q_first Q_second = some q0) : DTv l yX3_findPieces wsX3_findPieces rmX3_findPieces D c (wX3_findPieces c R B K Q R_hour R_broken B_number B_state B_piece Q_number Q_first Q_second) [.ref (R 0)] (wX3_findPieces c R B K Q R_hour R_broken B_number B_state q0 Q_number Q_first Q_second) 0 0 := by
  refine DTv_of (cc := cX3_findPieces) (nL := 2) RX3 rfl (by decide) rfl (Nat.le_of_ble_eq_true rfl) (fun g C ret => ?_)
  unfold jX3_findPieces at h
  refine vv_lv [0] [(0, .ref (R 0))] rfl ?_
  refine vv_aload_n C dX3_findPieces_0 rfl 0 rfl 1 rfl ?_
  refine vv_get C (q0 := 0) (ci := 3) (k := 0) kinX3_findPieces_X3 rfl rfl (by decide) kwX3_findPieces_1 rfl rfl dX3_findPieces_1 4 rfl ?_
  obtain ⟨r1, hr1, h⟩ := bnd_s h
  refine vv_callVv C (fun l => mt_X0_standAlone l D c B B_number B_state B_piece r1 hr1) gX3_findPieces_X0_standAlone rfl rfl rfl yd_X0_standAlone ⟨Nat.le_of_ble_eq_true rfl, Nat.le_of_ble_eq_true rfl⟩ [1, 2, 3] rfl (by decide) 0 rfl rfl (wX3_findPieces c R B K Q R_hour R_broken B_number B_state r1 Q_number Q_first Q_second) [(false, 0), (true, 0), (true, 1), (true, 2), (false, 4), (false, 5), (false, 6)] rfl (by decide) rfl rfl [] rfl (Nat.le_of_ble_eq_true rfl) ⟨Nat.le_of_ble_eq_true rfl, Nat.le_of_ble_eq_true rfl⟩ dX3_findPieces_4 7 0 0 rfl ⟨rfl, rfl⟩ ?_
  refine vv_iconst C (v := 0) dX3_findPieces_7 (by decide) 8 rfl ?_
  refine vv_istore_n C [(1, .int 0), (0, .ref (R 0))] dX3_findPieces_8 rfl (by decide) rfl 9 rfl ?_
  refine vv_lv [1, 0] [(0, .ref (R 0)), (1, .int 0)] rfl ?_
  have L9 : ∀ (n : Nat) (B_piece_9 : Nat → Int32) (v1_9 : Int32) (q9 : (Nat → Int32)), jX3_findPieces_L9 B_number Q_number Q_first Q_second n B_piece_9 v1_9 = some q9 → (VV g D 2 0 0 (wX3_findPieces c R B K Q R_hour R_broken B_number B_state q9 Q_number Q_first Q_second) [] 51 []) → VV g D 2 0 0 (wX3_findPieces c R B K Q R_hour R_broken B_number B_state B_piece_9 Q_number Q_first Q_second) [(0, .ref (R 0)), (1, .int v1_9)] 9 [] := by
    intro n
    induction n with
    | zero =>
      intro B_piece_9 v1_9 q9 h _
      rw [jX3_findPieces_L9] at h
      cases h
    | succ n ih9 =>
      intro B_piece_9 v1_9 q9 h kk9
      rw [jX3_findPieces_L9] at h
      refine vv_iload_n C dX3_findPieces_9 rfl 1 rfl 10 rfl ?_
      refine vv_aload_n C dX3_findPieces_10 rfl 0 rfl 11 rfl ?_
      refine vv_get C (q0 := 0) (ci := 3) (k := 2) kinX3_findPieces_X3 rfl rfl (by decide) kwX3_findPieces_2 rfl rfl dX3_findPieces_11 14 rfl ?_
      refine vv_get C (q0 := 4) (ci := 2) (k := 4) kinX3_findPieces_X2 rfl rfl (by decide) kwX3_findPieces_3 rfl rfl dX3_findPieces_14 17 rfl ?_
      refine vv_icmp_ge C 51 20 dX3_findPieces_17 (by decide) rfl (fun hc => ?_) (fun hc => ?_)
      · replace h := ite_t hc h
        refine vv_lv [] [] rfl ?_
        obtain rfl := Option.some.inj h
        exact kk9
      · replace h := ite_f hc h
        refine vv_aload_n C dX3_findPieces_20 rfl 0 rfl 21 rfl ?_
        refine vv_get C (q0 := 0) (ci := 3) (k := 0) kinX3_findPieces_X3 rfl rfl (by decide) kwX3_findPieces_1 rfl rfl dX3_findPieces_21 24 rfl ?_
        refine vv_aload_n C dX3_findPieces_24 rfl 0 rfl 25 rfl ?_
        refine vv_get C (q0 := 0) (ci := 3) (k := 2) kinX3_findPieces_X3 rfl rfl (by decide) kwX3_findPieces_2 rfl rfl dX3_findPieces_25 28 rfl ?_
        refine vv_get C (q0 := 4) (ci := 2) (k := 0) kinX3_findPieces_X2 rfl rfl (by decide) kwX3_findPieces_4 rfl rfl dX3_findPieces_28 31 rfl ?_
        refine vv_iload_n C dX3_findPieces_31 rfl 1 rfl 32 rfl ?_
        obtain ⟨hi, h⟩ := chk_s h
        refine vv_iald C (q0 := 5) rfl hi dX3_findPieces_32 33 rfl ?_
        refine vv_aload_n C dX3_findPieces_33 rfl 0 rfl 34 rfl ?_
        refine vv_get C (q0 := 0) (ci := 3) (k := 2) kinX3_findPieces_X3 rfl rfl (by decide) kwX3_findPieces_2 rfl rfl dX3_findPieces_34 37 rfl ?_
        refine vv_get C (q0 := 4) (ci := 2) (k := 1) kinX3_findPieces_X2 rfl rfl (by decide) kwX3_findPieces_5 rfl rfl dX3_findPieces_37 40 rfl ?_
        refine vv_iload_n C dX3_findPieces_40 rfl 1 rfl 41 rfl ?_
        obtain ⟨hi, h⟩ := chk_s h
        refine vv_iald C (q0 := 6) rfl hi dX3_findPieces_41 42 rfl ?_
        obtain ⟨r2, hr2, h⟩ := bnd_s h
        refine vv_callVv C (fun l => mt_X0_join l D c B B_number B_piece_9 (rd Q_first v1_9) (rd Q_second v1_9) r2 hr2) gX3_findPieces_X0_join rfl rfl rfl yd_X0_join ⟨Nat.le_of_ble_eq_true rfl, Nat.le_of_ble_eq_true rfl⟩ [1, 3] rfl (by decide) 0 rfl rfl (wX3_findPieces c R B K Q R_hour R_broken B_number B_state r2 Q_number Q_first Q_second) [(false, 0), (true, 0), (false, 2), (true, 1), (false, 4), (false, 5), (false, 6)] rfl (by decide) rfl rfl [] rfl (Nat.le_of_ble_eq_true rfl) ⟨Nat.le_of_ble_eq_true rfl, Nat.le_of_ble_eq_true rfl⟩ dX3_findPieces_42 45 0 0 rfl ⟨rfl, rfl⟩ ?_
        refine vv_iinc C (k := 1) [(1, .int (v1_9 + 1)), (0, .ref (R 0))] dX3_findPieces_45 rfl rfl (by decide) rfl 48 rfl ?_
        refine vv_goto C 9 dX3_findPieces_48 (by decide) ?_
        refine vv_lv [1, 0] [(0, .ref (R 0)), (1, .int (v1_9 + 1))] rfl ?_
        exact ih9 r2 (v1_9 + 1) _ h kk9
  obtain ⟨r3, hr3, h⟩ := bnd_s h
  refine L9 FU r1 0 r3 hr3 ?_
  obtain rfl := Option.some.inj h
  exact ret _ _ dX3_findPieces_51
abbrev wX3_leaveEnded (c : Nat → ClassId) (R : Nat → Nat) (B : Nat → Nat) (K : Nat → Nat) (Q : Nat → Nat) (R_hour : Int32) (R_broken : Int32) (B_number : Int32) (B_state : Nat → Int32) (K_number : Int32) (K_seat : Nat → Int32) (K_state : Nat → Int32) (Q_number : Int32) (Q_first : Nat → Int32) (Q_second : Nat → Int32) (Q_strength : Nat → Int32) (Q_wear : Nat → Int32) : va_W := [(R 0, .inr (3, [.ref (B 0), .ref (K 0), .ref (Q 0), .ref (R 1), .ref (R 2), .int R_hour, .int R_broken])), (B 0, .inr (0, [.ref (B 1), .ref (B 2), .ref (B 3), .ref (B 4), .ref (B 5), .ref (B 6), .ref (B 7), .ref (B 8), .ref (B 9), .ref (B 10), .ref (B 11), .int B_number])), aI c (B 8) 24 B_state, (K 0, .inr (1, [.ref (K 1), .ref (K 2), .int K_number])), aI c (K 1) 8 K_seat, aI c (K 2) 8 K_state, (Q 0, .inr (2, [.ref (Q 1), .ref (Q 2), .ref (Q 3), .ref (Q 4), .int Q_number])), aI c (Q 1) 48 Q_first, aI c (Q 2) 48 Q_second, aI c (Q 3) 48 Q_strength, aI c (Q 4) 48 Q_wear]
abbrev rmX3_leaveEnded : Room := { frames := 2, cells := 0, slots := 0, locals := 44 }
theorem yd_X3_leaveEnded : yX3_leaveEnded.cls = RX3 ∧ yX3_leaveEnded.cls ≠ "java/lang/invoke/MethodHandle" ∧ yX3_leaveEnded.cls ≠ "java/lang/invoke/VarHandle" ∧ (parseMethodDescriptor yX3_leaveEnded.desc).map (fun d => d.parameters.length) = some 0 := by decide +kernel
theorem kwX3_leaveEnded_1 : Cond.fieldLink RX3 21 "BarrelRaft$Raft" "castaways" "LBarrelRaft$Castaways;" ∈ wsX3_leaveEnded := List.mem_of_getElem? (i := 1) rfl
set_option maxRecDepth 20000 in
theorem kinX3_leaveEnded_X3 : ∀ w ∈ u_ws RX3 TX3 7, w ∈ wsX3_leaveEnded := by decide +kernel
theorem kwX3_leaveEnded_2 : Cond.fieldLink RX3 12 "BarrelRaft$Raft" "barrels" "LBarrelRaft$Barrels;" ∈ wsX3_leaveEnded := List.mem_of_getElem? (i := 2) rfl
theorem kwX3_leaveEnded_3 : Cond.fieldLink RX3 28 "BarrelRaft$Raft" "lashings" "LBarrelRaft$Lashings;" ∈ wsX3_leaveEnded := List.mem_of_getElem? (i := 3) rfl
theorem kwX3_leaveEnded_4 : Cond.fieldLink RX3 59 "BarrelRaft$Lashings" "number" "I" ∈ wsX3_leaveEnded := List.mem_of_getElem? (i := 4) rfl
set_option maxRecDepth 20000 in
theorem kinX3_leaveEnded_X2 : ∀ w ∈ u_ws RX2 TX2 5, w ∈ wsX3_leaveEnded := by decide +kernel
theorem kwX3_leaveEnded_5 : Cond.fieldLink RX3 62 "BarrelRaft$Lashings" "first" "[I" ∈ wsX3_leaveEnded := List.mem_of_getElem? (i := 5) rfl
def jX3_leaveEnded_L13 (B_number : Int32) (B_state : Nat → Int32) (Q_number : Int32) (Q_first : Nat → Int32) (n : Nat) (Q_strength_13 : Nat → Int32) (v1_13 : Int32) : Option ((Nat → Int32)) :=
  match n with
  | 0 => none
  | n + 1 => (if Q_number ≤ v1_13 then some Q_strength_13 else chk 48 v1_13 (bnd (jX0_floats B_number B_state (rd Q_first v1_13)) (fun r2 => (if r2 = 0 then bnd (jX2_undo Q_strength_13 v1_13) (fun r3 => jX3_leaveEnded_L13 B_number B_state Q_number Q_first n r3 (v1_13 + 1)) else jX3_leaveEnded_L13 B_number B_state Q_number Q_first n Q_strength_13 (v1_13 + 1)))))
def jX3_leaveEnded (B_number : Int32) (B_state : Nat → Int32) (K_number : Int32) (K_seat : Nat → Int32) (K_state : Nat → Int32) (Q_number : Int32) (Q_first : Nat → Int32) (Q_second : Nat → Int32) (Q_strength : Nat → Int32) (Q_wear : Nat → Int32) : Option ((Nat → Int32) × (Nat → Int32) × Int32 × (Nat → Int32) × (Nat → Int32) × (Nat → Int32) × (Nat → Int32)) :=
  bnd (jX1_shareFate K_number K_seat K_state B_number B_state) (fun r1 => bnd (jX3_leaveEnded_L13 B_number B_state Q_number Q_first FU Q_strength 0) (fun r4 => bnd (jX2_sweep Q_number Q_first Q_second r4 Q_wear) (fun r5 => some (r1.1, r1.2, r5.1, r5.2.1, r5.2.2.1, r5.2.2.2.1, r5.2.2.2.2))))
set_option maxHeartbeats 4000000 in
set_option maxRecDepth 100000 in
theorem mt_X3_leaveEnded (l : Launch) (D : va_G) (c : Nat → ClassId) (R : Nat → Nat) (B : Nat → Nat) (K : Nat → Nat) (Q : Nat → Nat) (R_hour : Int32) (R_broken : Int32) (B_number : Int32) (B_state : Nat → Int32) (K_number : Int32) (K_seat : Nat → Int32) (K_state : Nat → Int32) (Q_number : Int32) (Q_first : Nat → Int32) (Q_second : Nat → Int32) (Q_strength : Nat → Int32) (Q_wear : Nat → Int32) (q0 : (Nat → Int32) × (Nat → Int32) × Int32 × (Nat → Int32) × (Nat → Int32) × (Nat → Int32) × (Nat → Int32)) (h : jX3_leaveEnded B_number B_state K_number K_seat K_state Q_number Q_first Q_second Q_strength Q_wear = some q0) : DTv l yX3_leaveEnded wsX3_leaveEnded rmX3_leaveEnded D c (wX3_leaveEnded c R B K Q R_hour R_broken B_number B_state K_number K_seat K_state Q_number Q_first Q_second Q_strength Q_wear) [.ref (R 0)] (wX3_leaveEnded c R B K Q R_hour R_broken B_number B_state K_number q0.1 q0.2.1 q0.2.2.1 q0.2.2.2.1 q0.2.2.2.2.1 q0.2.2.2.2.2.1 q0.2.2.2.2.2.2) 0 0 := by
  refine DTv_of (cc := cX3_leaveEnded) (nL := 2) RX3 rfl (by decide) rfl (Nat.le_of_ble_eq_true rfl) (fun g C ret => ?_)
  unfold jX3_leaveEnded at h
  refine vv_lv [0] [(0, .ref (R 0))] rfl ?_
  refine vv_aload_n C dX3_leaveEnded_0 rfl 0 rfl 1 rfl ?_
  refine vv_get C (q0 := 0) (ci := 3) (k := 1) kinX3_leaveEnded_X3 rfl rfl (by decide) kwX3_leaveEnded_1 rfl rfl dX3_leaveEnded_1 4 rfl ?_
  refine vv_aload_n C dX3_leaveEnded_4 rfl 0 rfl 5 rfl ?_
  refine vv_get C (q0 := 0) (ci := 3) (k := 0) kinX3_leaveEnded_X3 rfl rfl (by decide) kwX3_leaveEnded_2 rfl rfl dX3_leaveEnded_5 8 rfl ?_
  obtain ⟨r1, hr1, h⟩ := bnd_s h
  refine vv_callVv C (fun l => mt_X1_shareFate l D c K B K_number K_seat K_state B_number B_state r1 hr1) gX3_leaveEnded_X1_shareFate rfl rfl rfl yd_X1_shareFate ⟨Nat.le_of_ble_eq_true rfl, Nat.le_of_ble_eq_true rfl⟩ [3, 4, 5, 1, 2] rfl (by decide) 0 rfl rfl (wX3_leaveEnded c R B K Q R_hour R_broken B_number B_state K_number r1.1 r1.2 Q_number Q_first Q_second Q_strength Q_wear) [(false, 0), (true, 3), (true, 4), (true, 0), (true, 1), (true, 2), (false, 6), (false, 7), (false, 8), (false, 9), (false, 10)] rfl (by decide) rfl rfl [] rfl (Nat.le_of_ble_eq_true rfl) ⟨Nat.le_of_ble_eq_true rfl, Nat.le_of_ble_eq_true rfl⟩ dX3_leaveEnded_8 11 0 0 rfl ⟨rfl, rfl⟩ ?_
  refine vv_iconst C (v := 0) dX3_leaveEnded_11 (by decide) 12 rfl ?_
  refine vv_istore_n C [(1, .int 0), (0, .ref (R 0))] dX3_leaveEnded_12 rfl (by decide) rfl 13 rfl ?_
  refine vv_lv [1, 0] [(0, .ref (R 0)), (1, .int 0)] rfl ?_
  have L13 : ∀ (n : Nat) (Q_strength_13 : Nat → Int32) (v1_13 : Int32) (q13 : (Nat → Int32)), jX3_leaveEnded_L13 B_number B_state Q_number Q_first n Q_strength_13 v1_13 = some q13 → (VV g D 2 0 0 (wX3_leaveEnded c R B K Q R_hour R_broken B_number B_state K_number r1.1 r1.2 Q_number Q_first Q_second q13 Q_wear) [(0, .ref (R 0))] 57 []) → VV g D 2 0 0 (wX3_leaveEnded c R B K Q R_hour R_broken B_number B_state K_number r1.1 r1.2 Q_number Q_first Q_second Q_strength_13 Q_wear) [(0, .ref (R 0)), (1, .int v1_13)] 13 [] := by
    intro n
    induction n with
    | zero =>
      intro Q_strength_13 v1_13 q13 h _
      rw [jX3_leaveEnded_L13] at h
      cases h
    | succ n ih13 =>
      intro Q_strength_13 v1_13 q13 h kk13
      rw [jX3_leaveEnded_L13] at h
      refine vv_iload_n C dX3_leaveEnded_13 rfl 1 rfl 14 rfl ?_
      refine vv_aload_n C dX3_leaveEnded_14 rfl 0 rfl 15 rfl ?_
      refine vv_get C (q0 := 0) (ci := 3) (k := 2) kinX3_leaveEnded_X3 rfl rfl (by decide) kwX3_leaveEnded_3 rfl rfl dX3_leaveEnded_15 18 rfl ?_
      refine vv_get C (q0 := 6) (ci := 2) (k := 4) kinX3_leaveEnded_X2 rfl rfl (by decide) kwX3_leaveEnded_4 rfl rfl dX3_leaveEnded_18 21 rfl ?_
      refine vv_icmp_ge C 57 24 dX3_leaveEnded_21 (by decide) rfl (fun hc => ?_) (fun hc => ?_)
      · replace h := ite_t hc h
        refine vv_lv [0] [(0, .ref (R 0))] rfl ?_
        obtain rfl := Option.some.inj h
        exact kk13
      · replace h := ite_f hc h
        refine vv_aload_n C dX3_leaveEnded_24 rfl 0 rfl 25 rfl ?_
        refine vv_get C (q0 := 0) (ci := 3) (k := 0) kinX3_leaveEnded_X3 rfl rfl (by decide) kwX3_leaveEnded_2 rfl rfl dX3_leaveEnded_25 28 rfl ?_
        refine vv_aload_n C dX3_leaveEnded_28 rfl 0 rfl 29 rfl ?_
        refine vv_get C (q0 := 0) (ci := 3) (k := 2) kinX3_leaveEnded_X3 rfl rfl (by decide) kwX3_leaveEnded_3 rfl rfl dX3_leaveEnded_29 32 rfl ?_
        refine vv_get C (q0 := 6) (ci := 2) (k := 0) kinX3_leaveEnded_X2 rfl rfl (by decide) kwX3_leaveEnded_5 rfl rfl dX3_leaveEnded_32 35 rfl ?_
        refine vv_iload_n C dX3_leaveEnded_35 rfl 1 rfl 36 rfl ?_
        obtain ⟨hi, h⟩ := chk_s h
        refine vv_iald C (q0 := 7) rfl hi dX3_leaveEnded_36 37 rfl ?_
        obtain ⟨r2, hr2, h⟩ := bnd_s h
        refine vv_callVi C (fun l => mt_X0_floats l D c B B_number B_state (rd Q_first v1_13) r2 hr2) gX3_leaveEnded_X0_floats rfl rfl rfl yd_X0_floats ⟨Nat.le_of_ble_eq_true rfl, Nat.le_of_ble_eq_true rfl⟩ [1, 2] rfl (by decide) 0 rfl rfl (wX3_leaveEnded c R B K Q R_hour R_broken B_number B_state K_number r1.1 r1.2 Q_number Q_first Q_second Q_strength_13 Q_wear) [(false, 0), (true, 0), (true, 1), (false, 3), (false, 4), (false, 5), (false, 6), (false, 7), (false, 8), (false, 9), (false, 10)] rfl (by decide) rfl rfl [] rfl (Nat.le_of_ble_eq_true rfl) ⟨Nat.le_of_ble_eq_true rfl, Nat.le_of_ble_eq_true rfl⟩ dX3_leaveEnded_37 40 0 0 rfl ⟨rfl, rfl⟩ ?_
        refine vv_if_ne C 51 43 dX3_leaveEnded_40 (by decide) rfl (fun hc => ?_) (fun hc => ?_)
        · replace h := ite_f hc h
          refine vv_iinc C (k := 1) [(1, .int (v1_13 + 1)), (0, .ref (R 0))] dX3_leaveEnded_51 rfl rfl (by decide) rfl 54 rfl ?_
          refine vv_goto C 13 dX3_leaveEnded_54 (by decide) ?_
          refine vv_lv [1, 0] [(0, .ref (R 0)), (1, .int (v1_13 + 1))] rfl ?_
          exact ih13 Q_strength_13 (v1_13 + 1) _ h kk13
        · replace h := ite_t hc h
          refine vv_aload_n C dX3_leaveEnded_43 rfl 0 rfl 44 rfl ?_
          refine vv_get C (q0 := 0) (ci := 3) (k := 2) kinX3_leaveEnded_X3 rfl rfl (by decide) kwX3_leaveEnded_3 rfl rfl dX3_leaveEnded_44 47 rfl ?_
          refine vv_iload_n C dX3_leaveEnded_47 rfl 1 rfl 48 rfl ?_
          obtain ⟨r3, hr3, h⟩ := bnd_s h
          refine vv_callVv C (fun l => mt_X2_undo l D c Q Q_number Q_strength_13 v1_13 r3 hr3) gX3_leaveEnded_X2_undo rfl rfl rfl yd_X2_undo ⟨Nat.le_of_ble_eq_true rfl, Nat.le_of_ble_eq_true rfl⟩ [6, 9] rfl (by decide) 0 rfl rfl (wX3_leaveEnded c R B K Q R_hour R_broken B_number B_state K_number r1.1 r1.2 Q_number Q_first Q_second r3 Q_wear) [(false, 0), (false, 1), (false, 2), (false, 3), (false, 4), (false, 5), (true, 0), (false, 7), (false, 8), (true, 1), (false, 10)] rfl (by decide) rfl rfl [] rfl (Nat.le_of_ble_eq_true rfl) ⟨Nat.le_of_ble_eq_true rfl, Nat.le_of_ble_eq_true rfl⟩ dX3_leaveEnded_48 51 0 0 rfl ⟨rfl, rfl⟩ ?_
          refine vv_iinc C (k := 1) [(1, .int (v1_13 + 1)), (0, .ref (R 0))] dX3_leaveEnded_51 rfl rfl (by decide) rfl 54 rfl ?_
          refine vv_goto C 13 dX3_leaveEnded_54 (by decide) ?_
          refine vv_lv [1, 0] [(0, .ref (R 0)), (1, .int (v1_13 + 1))] rfl ?_
          exact ih13 r3 (v1_13 + 1) _ h kk13
  obtain ⟨r4, hr4, h⟩ := bnd_s h
  refine L13 FU Q_strength 0 r4 hr4 ?_
  refine vv_aload_n C dX3_leaveEnded_57 rfl 0 rfl 58 rfl ?_
  refine vv_get C (q0 := 0) (ci := 3) (k := 2) kinX3_leaveEnded_X3 rfl rfl (by decide) kwX3_leaveEnded_3 rfl rfl dX3_leaveEnded_58 61 rfl ?_
  obtain ⟨r5, hr5, h⟩ := bnd_s h
  refine vv_callVv C (fun l => mt_X2_sweep l D c Q Q_number Q_first Q_second r4 Q_wear r5 hr5) gX3_leaveEnded_X2_sweep rfl rfl rfl yd_X2_sweep ⟨Nat.le_of_ble_eq_true rfl, Nat.le_of_ble_eq_true rfl⟩ [6, 7, 8, 9, 10] rfl (by decide) 0 rfl rfl (wX3_leaveEnded c R B K Q R_hour R_broken B_number B_state K_number r1.1 r1.2 r5.1 r5.2.1 r5.2.2.1 r5.2.2.2.1 r5.2.2.2.2) [(false, 0), (false, 1), (false, 2), (false, 3), (false, 4), (false, 5), (true, 0), (true, 1), (true, 2), (true, 3), (true, 4)] rfl (by decide) rfl rfl [] rfl (Nat.le_of_ble_eq_true rfl) ⟨Nat.le_of_ble_eq_true rfl, Nat.le_of_ble_eq_true rfl⟩ dX3_leaveEnded_61 64 0 0 rfl ⟨rfl, rfl⟩ ?_
  obtain rfl := Option.some.inj h
  exact ret _ _ dX3_leaveEnded_64
abbrev wX3_loseOverloaded (c : Nat → ClassId) (R : Nat → Nat) (B : Nat → Nat) (K : Nat → Nat) (Q : Nat → Nat) (R_hour : Int32) (R_broken : Int32) (R_pieceLift : Nat → Int32) (R_pieceLoad : Nat → Int32) (B_number : Int32) (B_lift : Nat → Int32) (B_water : Nat → Int32) (B_goods : Nat → Int32) (B_people : Nat → Int32) (B_state : Nat → Int32) (B_piece : Nat → Int32) (K_number : Int32) (K_seat : Nat → Int32) (K_state : Nat → Int32) (Q_number : Int32) (Q_first : Nat → Int32) (Q_second : Nat → Int32) (Q_strength : Nat → Int32) (Q_wear : Nat → Int32) : va_W := [(R 0, .inr (3, [.ref (B 0), .ref (K 0), .ref (Q 0), .ref (R 1), .ref (R 2), .int R_hour, .int R_broken])), aI c (R 1) 24 R_pieceLift, aI c (R 2) 24 R_pieceLoad, (B 0, .inr (0, [.ref (B 1), .ref (B 2), .ref (B 3), .ref (B 4), .ref (B 5), .ref (B 6), .ref (B 7), .ref (B 8), .ref (B 9), .ref (B 10), .ref (B 11), .int B_number])), aI c (B 3) 24 B_lift, aI c (B 5) 24 B_water, aI c (B 6) 24 B_goods, aI c (B 7) 24 B_people, aI c (B 8) 24 B_state, aI c (B 11) 24 B_piece, (K 0, .inr (1, [.ref (K 1), .ref (K 2), .int K_number])), aI c (K 1) 8 K_seat, aI c (K 2) 8 K_state, (Q 0, .inr (2, [.ref (Q 1), .ref (Q 2), .ref (Q 3), .ref (Q 4), .int Q_number])), aI c (Q 1) 48 Q_first, aI c (Q 2) 48 Q_second, aI c (Q 3) 48 Q_strength, aI c (Q 4) 48 Q_wear]
abbrev rmX3_loseOverloaded : Room := { frames := 3, cells := 0, slots := 0, locals := 65 }
theorem yd_X3_loseOverloaded : yX3_loseOverloaded.cls = RX3 ∧ yX3_loseOverloaded.cls ≠ "java/lang/invoke/MethodHandle" ∧ yX3_loseOverloaded.cls ≠ "java/lang/invoke/VarHandle" ∧ (parseMethodDescriptor yX3_loseOverloaded.desc).map (fun d => d.parameters.length) = some 0 := by decide +kernel
theorem kwX3_loseOverloaded_1 : Cond.fieldLink RX3 12 "BarrelRaft$Raft" "barrels" "LBarrelRaft$Barrels;" ∈ wsX3_loseOverloaded := List.mem_of_getElem? (i := 1) rfl
set_option maxRecDepth 20000 in
theorem kinX3_loseOverloaded_X3 : ∀ w ∈ u_ws RX3 TX3 7, w ∈ wsX3_loseOverloaded := by decide +kernel
theorem kwX3_loseOverloaded_2 : Cond.fieldLink RX3 119 "BarrelRaft$Barrels" "number" "I" ∈ wsX3_loseOverloaded := List.mem_of_getElem? (i := 2) rfl
set_option maxRecDepth 20000 in
theorem kinX3_loseOverloaded_X0 : ∀ w ∈ u_ws RX0 TX0 12, w ∈ wsX3_loseOverloaded := by decide +kernel
theorem kwX3_loseOverloaded_3 : Cond.fieldLink RX3 120 "BarrelRaft$Barrels" "piece" "[I" ∈ wsX3_loseOverloaded := List.mem_of_getElem? (i := 3) rfl
theorem kwX3_loseOverloaded_4 : Cond.fieldLink RX3 36 "BarrelRaft$Raft" "pieceLoad" "[I" ∈ wsX3_loseOverloaded := List.mem_of_getElem? (i := 4) rfl
theorem kwX3_loseOverloaded_5 : Cond.fieldLink RX3 32 "BarrelRaft$Raft" "pieceLift" "[I" ∈ wsX3_loseOverloaded := List.mem_of_getElem? (i := 5) rfl
def jX3_loseOverloaded_L8 (R_pieceLift : Nat → Int32) (R_pieceLoad : Nat → Int32) (B_number : Int32) (n : Nat) (B_goods_8 : Nat → Int32) (B_people_8 : Nat → Int32) (B_state_8 : Nat → Int32) (B_piece_8 : Nat → Int32) (v1_8 : Int32) (v2_8 : Int32) : Option ((Nat → Int32) × (Nat → Int32) × (Nat → Int32) × (Nat → Int32) × Int32) :=
  match n with
  | 0 => none
  | n + 1 => (if B_number ≤ v2_8 then some (B_goods_8, B_people_8, B_state_8, B_piece_8, v1_8) else chk 24 v2_8 ((if rd B_piece_8 v2_8 < 0 then jX3_loseOverloaded_L8 R_pieceLift R_pieceLoad B_number n B_goods_8 B_people_8 B_state_8 B_piece_8 v1_8 (v2_8 + 1) else chk 24 (rd B_piece_8 v2_8) (chk 24 (rd B_piece_8 v2_8) ((if rd R_pieceLoad (rd B_piece_8 v2_8) ≤ rd R_pieceLift (rd B_piece_8 v2_8) then jX3_loseOverloaded_L8 R_pieceLift R_pieceLoad B_number n B_goods_8 B_people_8 B_state_8 B_piece_8 v1_8 (v2_8 + 1) else bnd (jX0_end B_goods_8 B_people_8 B_state_8 B_piece_8 v2_8 1) (fun r2 => jX3_loseOverloaded_L8 R_pieceLift R_pieceLoad B_number n r2.1 r2.2.1 r2.2.2.1 r2.2.2.2 1 (v2_8 + 1))))))))
def jX3_loseOverloaded (R_pieceLift : Nat → Int32) (R_pieceLoad : Nat → Int32) (B_number : Int32) (B_lift : Nat → Int32) (B_water : Nat → Int32) (B_goods : Nat → Int32) (B_people : Nat → Int32) (B_state : Nat → Int32) (B_piece : Nat → Int32) (K_number : Int32) (K_seat : Nat → Int32) (K_state : Nat → Int32) (Q_number : Int32) (Q_first : Nat → Int32) (Q_second : Nat → Int32) (Q_strength : Nat → Int32) (Q_wear : Nat → Int32) : Option ((Nat → Int32) × (Nat → Int32) × (Nat → Int32) × (Nat → Int32) × (Nat → Int32) × (Nat → Int32) × (Nat → Int32) × (Nat → Int32) × Int32 × (Nat → Int32) × (Nat → Int32) × (Nat → Int32) × (Nat → Int32)) :=
  bnd (jX3_weighPieces R_pieceLift R_pieceLoad B_number B_lift B_water B_goods B_people B_piece) (fun r1 => bnd (jX3_loseOverloaded_L8 r1.1 r1.2 B_number FU B_goods B_people B_state B_piece 0 0) (fun r3 => (if r3.2.2.2.2 = 0 then some (r1.1, r1.2, r3.1, r3.2.1, r3.2.2.1, r3.2.2.2.1, K_seat, K_state, Q_number, Q_first, Q_second, Q_strength, Q_wear) else bnd (jX3_leaveEnded B_number r3.2.2.1 K_number K_seat K_state Q_number Q_first Q_second Q_strength Q_wear) (fun r4 => some (r1.1, r1.2, r3.1, r3.2.1, r3.2.2.1, r3.2.2.2.1, r4.1, r4.2.1, r4.2.2.1, r4.2.2.2.1, r4.2.2.2.2.1, r4.2.2.2.2.2.1, r4.2.2.2.2.2.2)))))
set_option maxHeartbeats 4000000 in
set_option maxRecDepth 100000 in
theorem mt_X3_loseOverloaded (l : Launch) (D : va_G) (c : Nat → ClassId) (R : Nat → Nat) (B : Nat → Nat) (K : Nat → Nat) (Q : Nat → Nat) (R_hour : Int32) (R_broken : Int32) (R_pieceLift : Nat → Int32) (R_pieceLoad : Nat → Int32) (B_number : Int32) (B_lift : Nat → Int32) (B_water : Nat → Int32) (B_goods : Nat → Int32) (B_people : Nat → Int32) (B_state : Nat → Int32) (B_piece : Nat → Int32) (K_number : Int32) (K_seat : Nat → Int32) (K_state : Nat → Int32) (Q_number : Int32) (Q_first : Nat → Int32) (Q_second : Nat → Int32) (Q_strength : Nat → Int32) (Q_wear : Nat → Int32) (q0 : (Nat → Int32) × (Nat → Int32) × (Nat → Int32) × (Nat → Int32) × (Nat → Int32) × (Nat → Int32) × (Nat → Int32) × (Nat → Int32) × Int32 × (Nat → Int32) × (Nat → Int32) × (Nat → Int32) × (Nat → Int32)) (h : jX3_loseOverloaded R_pieceLift R_pieceLoad B_number B_lift B_water B_goods B_people B_state B_piece K_number K_seat K_state Q_number Q_first Q_second Q_strength Q_wear = some q0) : DTv l yX3_loseOverloaded wsX3_loseOverloaded rmX3_loseOverloaded D c (wX3_loseOverloaded c R B K Q R_hour R_broken R_pieceLift R_pieceLoad B_number B_lift B_water B_goods B_people B_state B_piece K_number K_seat K_state Q_number Q_first Q_second Q_strength Q_wear) [.ref (R 0)] (wX3_loseOverloaded c R B K Q R_hour R_broken q0.1 q0.2.1 B_number B_lift B_water q0.2.2.1 q0.2.2.2.1 q0.2.2.2.2.1 q0.2.2.2.2.2.1 K_number q0.2.2.2.2.2.2.1 q0.2.2.2.2.2.2.2.1 q0.2.2.2.2.2.2.2.2.1 q0.2.2.2.2.2.2.2.2.2.1 q0.2.2.2.2.2.2.2.2.2.2.1 q0.2.2.2.2.2.2.2.2.2.2.2.1 q0.2.2.2.2.2.2.2.2.2.2.2.2) 0 0 := by
  refine DTv_of (cc := cX3_loseOverloaded) (nL := 4) RX3 rfl (by decide) rfl (Nat.le_of_ble_eq_true rfl) (fun g C ret => ?_)
  unfold jX3_loseOverloaded at h
  refine vv_lv [0] [(0, .ref (R 0))] rfl ?_
  refine vv_aload_n C dX3_loseOverloaded_0 rfl 0 rfl 1 rfl ?_
  obtain ⟨r1, hr1, h⟩ := bnd_s h
  refine vv_callVv C (fun l => mt_X3_weighPieces l D c R B K Q R_hour R_broken R_pieceLift R_pieceLoad B_number B_lift B_water B_goods B_people B_piece r1 hr1) gX3_loseOverloaded_X3_weighPieces rfl rfl rfl yd_X3_weighPieces ⟨Nat.le_of_ble_eq_true rfl, Nat.le_of_ble_eq_true rfl⟩ [0, 1, 2, 3, 4, 5, 6, 7, 9] rfl (by decide) 0 rfl rfl (wX3_loseOverloaded c R B K Q R_hour R_broken r1.1 r1.2 B_number B_lift B_water B_goods B_people B_state B_piece K_number K_seat K_state Q_number Q_first Q_second Q_strength Q_wear) [(true, 0), (true, 1), (true, 2), (true, 3), (true, 4), (true, 5), (true, 6), (true, 7), (false, 8), (true, 8), (false, 10), (false, 11), (false, 12), (false, 13), (false, 14), (false, 15), (false, 16), (false, 17)] rfl (by decide) rfl rfl [] rfl (Nat.le_of_ble_eq_true rfl) ⟨Nat.le_of_ble_eq_true rfl, Nat.le_of_ble_eq_true rfl⟩ dX3_loseOverloaded_1 4 0 0 rfl ⟨rfl, rfl⟩ ?_
  refine vv_iconst C (v := 0) dX3_loseOverloaded_4 (by decide) 5 rfl ?_
  refine vv_istore_n C [(1, .int 0), (0, .ref (R 0))] dX3_loseOverloaded_5 rfl (by decide) rfl 6 rfl ?_
  refine vv_iconst C (v := 0) dX3_loseOverloaded_6 (by decide) 7 rfl ?_
  refine vv_istore_n C [(2, .int 0), (1, .int 0), (0, .ref (R 0))] dX3_loseOverloaded_7 rfl (by decide) rfl 8 rfl ?_
  refine vv_lv [2, 1, 0] [(0, .ref (R 0)), (1, .int 0), (2, .int 0)] rfl ?_
  have L8 : ∀ (n : Nat) (B_goods_8 : Nat → Int32) (B_people_8 : Nat → Int32) (B_state_8 : Nat → Int32) (B_piece_8 : Nat → Int32) (v1_8 : Int32) (v2_8 : Int32) (q8 : (Nat → Int32) × (Nat → Int32) × (Nat → Int32) × (Nat → Int32) × Int32), jX3_loseOverloaded_L8 r1.1 r1.2 B_number n B_goods_8 B_people_8 B_state_8 B_piece_8 v1_8 v2_8 = some q8 → (VV g D 4 0 0 (wX3_loseOverloaded c R B K Q R_hour R_broken r1.1 r1.2 B_number B_lift B_water q8.1 q8.2.1 q8.2.2.1 q8.2.2.2.1 K_number K_seat K_state Q_number Q_first Q_second Q_strength Q_wear) [(0, .ref (R 0)), (1, .int q8.2.2.2.2)] 65 []) → VV g D 4 0 0 (wX3_loseOverloaded c R B K Q R_hour R_broken r1.1 r1.2 B_number B_lift B_water B_goods_8 B_people_8 B_state_8 B_piece_8 K_number K_seat K_state Q_number Q_first Q_second Q_strength Q_wear) [(0, .ref (R 0)), (1, .int v1_8), (2, .int v2_8)] 8 [] := by
    intro n
    induction n with
    | zero =>
      intro B_goods_8 B_people_8 B_state_8 B_piece_8 v1_8 v2_8 q8 h _
      rw [jX3_loseOverloaded_L8] at h
      cases h
    | succ n ih8 =>
      intro B_goods_8 B_people_8 B_state_8 B_piece_8 v1_8 v2_8 q8 h kk8
      rw [jX3_loseOverloaded_L8] at h
      refine vv_iload_n C dX3_loseOverloaded_8 rfl 2 rfl 9 rfl ?_
      refine vv_aload_n C dX3_loseOverloaded_9 rfl 0 rfl 10 rfl ?_
      refine vv_get C (q0 := 0) (ci := 3) (k := 0) kinX3_loseOverloaded_X3 rfl rfl (by decide) kwX3_loseOverloaded_1 rfl rfl dX3_loseOverloaded_10 13 rfl ?_
      refine vv_get C (q0 := 3) (ci := 0) (k := 11) kinX3_loseOverloaded_X0 rfl rfl (by decide) kwX3_loseOverloaded_2 rfl rfl dX3_loseOverloaded_13 16 rfl ?_
      refine vv_icmp_ge C 65 19 dX3_loseOverloaded_16 (by decide) rfl (fun hc => ?_) (fun hc => ?_)
      · replace h := ite_t hc h
        refine vv_lv [0, 1] [(0, .ref (R 0)), (1, .int v1_8)] rfl ?_
        obtain rfl := Option.some.inj h
        exact kk8
      · replace h := ite_f hc h
        refine vv_aload_n C dX3_loseOverloaded_19 rfl 0 rfl 20 rfl ?_
        refine vv_get C (q0 := 0) (ci := 3) (k := 0) kinX3_loseOverloaded_X3 rfl rfl (by decide) kwX3_loseOverloaded_1 rfl rfl dX3_loseOverloaded_20 23 rfl ?_
        refine vv_get C (q0 := 3) (ci := 0) (k := 10) kinX3_loseOverloaded_X0 rfl rfl (by decide) kwX3_loseOverloaded_3 rfl rfl dX3_loseOverloaded_23 26 rfl ?_
        refine vv_iload_n C dX3_loseOverloaded_26 rfl 2 rfl 27 rfl ?_
        obtain ⟨hi, h⟩ := chk_s h
        refine vv_iald C (q0 := 9) rfl hi dX3_loseOverloaded_27 28 rfl ?_
        refine vv_istore_n C [(3, .int (rd B_piece_8 v2_8)), (0, .ref (R 0)), (1, .int v1_8), (2, .int v2_8)] dX3_loseOverloaded_28 rfl (by decide) rfl 29 rfl ?_
        refine vv_iload_n C dX3_loseOverloaded_29 rfl 0 rfl 30 rfl ?_
        refine vv_if_lt C 59 33 dX3_loseOverloaded_30 (by decide) rfl (fun hc => ?_) (fun hc => ?_)
        · replace h := ite_t hc h
          refine vv_iinc C (k := 3) [(2, .int (v2_8 + 1)), (3, .int (rd B_piece_8 v2_8)), (0, .ref (R 0)), (1, .int v1_8)] dX3_loseOverloaded_59 rfl rfl (by decide) rfl 62 rfl ?_
          refine vv_goto C 8 dX3_loseOverloaded_62 (by decide) ?_
          refine vv_lv [2, 3, 0] [(0, .ref (R 0)), (1, .int v1_8), (2, .int (v2_8 + 1))] rfl ?_
          exact ih8 B_goods_8 B_people_8 B_state_8 B_piece_8 v1_8 (v2_8 + 1) _ h kk8
        · replace h := ite_f hc h
          refine vv_aload_n C dX3_loseOverloaded_33 rfl 1 rfl 34 rfl ?_
          refine vv_get C (q0 := 0) (ci := 3) (k := 4) kinX3_loseOverloaded_X3 rfl rfl (by decide) kwX3_loseOverloaded_4 rfl rfl dX3_loseOverloaded_34 37 rfl ?_
          refine vv_iload_n C dX3_loseOverloaded_37 rfl 0 rfl 38 rfl ?_
          obtain ⟨hi, h⟩ := chk_s h
          refine vv_iald C (q0 := 2) rfl hi dX3_loseOverloaded_38 39 rfl ?_
          refine vv_aload_n C dX3_loseOverloaded_39 rfl 1 rfl 40 rfl ?_
          refine vv_get C (q0 := 0) (ci := 3) (k := 3) kinX3_loseOverloaded_X3 rfl rfl (by decide) kwX3_loseOverloaded_5 rfl rfl dX3_loseOverloaded_40 43 rfl ?_
          refine vv_iload_n C dX3_loseOverloaded_43 rfl 0 rfl 44 rfl ?_
          obtain ⟨hi, h⟩ := chk_s h
          refine vv_iald C (q0 := 1) rfl hi dX3_loseOverloaded_44 45 rfl ?_
          refine vv_icmp_le C 59 48 dX3_loseOverloaded_45 (by decide) rfl (fun hc => ?_) (fun hc => ?_)
          · replace h := ite_t hc h
            refine vv_iinc C (k := 3) [(2, .int (v2_8 + 1)), (3, .int (rd B_piece_8 v2_8)), (0, .ref (R 0)), (1, .int v1_8)] dX3_loseOverloaded_59 rfl rfl (by decide) rfl 62 rfl ?_
            refine vv_goto C 8 dX3_loseOverloaded_62 (by decide) ?_
            refine vv_lv [2, 3, 0] [(0, .ref (R 0)), (1, .int v1_8), (2, .int (v2_8 + 1))] rfl ?_
            exact ih8 B_goods_8 B_people_8 B_state_8 B_piece_8 v1_8 (v2_8 + 1) _ h kk8
          · replace h := ite_f hc h
            refine vv_aload_n C dX3_loseOverloaded_48 rfl 1 rfl 49 rfl ?_
            refine vv_get C (q0 := 0) (ci := 3) (k := 0) kinX3_loseOverloaded_X3 rfl rfl (by decide) kwX3_loseOverloaded_1 rfl rfl dX3_loseOverloaded_49 52 rfl ?_
            refine vv_iload_n C dX3_loseOverloaded_52 rfl 3 rfl 53 rfl ?_
            refine vv_iconst C (v := 1) dX3_loseOverloaded_53 (by decide) 54 rfl ?_
            obtain ⟨r2, hr2, h⟩ := bnd_s h
            refine vv_callVv C (fun l => mt_X0_end l D c B B_number B_goods_8 B_people_8 B_state_8 B_piece_8 v2_8 1 r2 hr2) gX3_loseOverloaded_X0_end rfl rfl rfl yd_X0_end ⟨Nat.le_of_ble_eq_true rfl, Nat.le_of_ble_eq_true rfl⟩ [3, 6, 7, 8, 9] rfl (by decide) 0 rfl rfl (wX3_loseOverloaded c R B K Q R_hour R_broken r1.1 r1.2 B_number B_lift B_water r2.1 r2.2.1 r2.2.2.1 r2.2.2.2 K_number K_seat K_state Q_number Q_first Q_second Q_strength Q_wear) [(false, 0), (false, 1), (false, 2), (true, 0), (false, 4), (false, 5), (true, 1), (true, 2), (true, 3), (true, 4), (false, 10), (false, 11), (false, 12), (false, 13), (false, 14), (false, 15), (false, 16), (false, 17)] rfl (by decide) rfl rfl [] rfl (Nat.le_of_ble_eq_true rfl) ⟨Nat.le_of_ble_eq_true rfl, Nat.le_of_ble_eq_true rfl⟩ dX3_loseOverloaded_54 57 0 0 rfl ⟨rfl, rfl⟩ ?_
            refine vv_iconst C (v := 1) dX3_loseOverloaded_57 (by decide) 58 rfl ?_
            refine vv_istore_n C [(1, .int 1), (3, .int (rd B_piece_8 v2_8)), (0, .ref (R 0)), (2, .int v2_8)] dX3_loseOverloaded_58 rfl (by decide) rfl 59 rfl ?_
            refine vv_iinc C (k := 3) [(2, .int (v2_8 + 1)), (1, .int 1), (3, .int (rd B_piece_8 v2_8)), (0, .ref (R 0))] dX3_loseOverloaded_59 rfl rfl (by decide) rfl 62 rfl ?_
            refine vv_goto C 8 dX3_loseOverloaded_62 (by decide) ?_
            refine vv_lv [3, 1, 0] [(0, .ref (R 0)), (1, .int 1), (2, .int (v2_8 + 1))] rfl ?_
            exact ih8 r2.1 r2.2.1 r2.2.2.1 r2.2.2.2 1 (v2_8 + 1) _ h kk8
  obtain ⟨r3, hr3, h⟩ := bnd_s h
  refine L8 FU B_goods B_people B_state B_piece 0 0 r3 hr3 ?_
  refine vv_iload_n C dX3_loseOverloaded_65 rfl 1 rfl 66 rfl ?_
  refine vv_if_eq C 73 69 dX3_loseOverloaded_66 (by decide) rfl (fun hc => ?_) (fun hc => ?_)
  · replace h := ite_t hc h
    obtain rfl := Option.some.inj h
    exact ret _ _ dX3_loseOverloaded_73
  · replace h := ite_f hc h
    refine vv_aload_n C dX3_loseOverloaded_69 rfl 0 rfl 70 rfl ?_
    obtain ⟨r4, hr4, h⟩ := bnd_s h
    refine vv_callVv C (fun l => mt_X3_leaveEnded l D c R B K Q R_hour R_broken B_number r3.2.2.1 K_number K_seat K_state Q_number Q_first Q_second Q_strength Q_wear r4 hr4) gX3_loseOverloaded_X3_leaveEnded rfl rfl rfl yd_X3_leaveEnded ⟨Nat.le_of_ble_eq_true rfl, Nat.le_of_ble_eq_true rfl⟩ [0, 3, 8, 10, 11, 12, 13, 14, 15, 16, 17] rfl (by decide) 0 rfl rfl (wX3_loseOverloaded c R B K Q R_hour R_broken r1.1 r1.2 B_number B_lift B_water r3.1 r3.2.1 r3.2.2.1 r3.2.2.2.1 K_number r4.1 r4.2.1 r4.2.2.1 r4.2.2.2.1 r4.2.2.2.2.1 r4.2.2.2.2.2.1 r4.2.2.2.2.2.2) [(true, 0), (false, 1), (false, 2), (true, 1), (false, 4), (false, 5), (false, 6), (false, 7), (true, 2), (false, 9), (true, 3), (true, 4), (true, 5), (true, 6), (true, 7), (true, 8), (true, 9), (true, 10)] rfl (by decide) rfl rfl [] rfl (Nat.le_of_ble_eq_true rfl) ⟨Nat.le_of_ble_eq_true rfl, Nat.le_of_ble_eq_true rfl⟩ dX3_loseOverloaded_70 73 0 0 rfl ⟨rfl, rfl⟩ ?_
    obtain rfl := Option.some.inj h
    exact ret _ _ dX3_loseOverloaded_73
abbrev wX3_stress (c : Nat → ClassId) (R : Nat → Nat) (B : Nat → Nat) (K : Nat → Nat) (Q : Nat → Nat) (W : Nat → Nat) (R_hour : Int32) (R_broken : Int32) (B_number : Int32) (B_goods : Nat → Int32) (B_people : Nat → Int32) (B_x : Nat → Int32) (B_y : Nat → Int32) (Q_number : Int32) (Q_first : Nat → Int32) (Q_second : Nat → Int32) (W_number : Int32) (W_windDx : Int32) (W_windDy : Int32) (W_wave : Nat → Int32) (W_counting : Nat → Int32) : va_W := [(R 0, .inr (3, [.ref (B 0), .ref (K 0), .ref (Q 0), .ref (R 1), .ref (R 2), .int R_hour, .int R_broken])), (B 0, .inr (0, [.ref (B 1), .ref (B 2), .ref (B 3), .ref (B 4), .ref (B 5), .ref (B 6), .ref (B 7), .ref (B 8), .ref (B 9), .ref (B 10), .ref (B 11), .int B_number])), aI c (B 6) 24 B_goods, aI c (B 7) 24 B_people, aI c (B 9) 24 B_x, aI c (B 10) 24 B_y, (Q 0, .inr (2, [.ref (Q 1), .ref (Q 2), .ref (Q 3), .ref (Q 4), .int Q_number])), aI c (Q 1) 48 Q_first, aI c (Q 2) 48 Q_second, (W 0, .inr (4, [.ref (W 1), .ref (W 2), .ref (W 3), .ref (W 4), .int W_number, .int W_windDx, .int W_windDy])), aI c (W 3) 8 W_wave, aI c (W 4) 600 W_counting]
abbrev rmX3_stress : Room := { frames := 2, cells := 0, slots := 0, locals := 43 }
theorem yd_X3_stress : yX3_stress.cls = RX3 ∧ yX3_stress.cls ≠ "java/lang/invoke/MethodHandle" ∧ yX3_stress.cls ≠ "java/lang/invoke/VarHandle" ∧ (parseMethodDescriptor yX3_stress.desc).map (fun d => d.parameters.length) = some 2 := by decide +kernel
theorem kwX3_stress_1 : Cond.fieldLink RX3 28 "BarrelRaft$Raft" "lashings" "LBarrelRaft$Lashings;" ∈ wsX3_stress := List.mem_of_getElem? (i := 1) rfl
set_option maxRecDepth 20000 in
theorem kinX3_stress_X3 : ∀ w ∈ u_ws RX3 TX3 7, w ∈ wsX3_stress := by decide +kernel
theorem kwX3_stress_2 : Cond.fieldLink RX3 62 "BarrelRaft$Lashings" "first" "[I" ∈ wsX3_stress := List.mem_of_getElem? (i := 2) rfl
set_option maxRecDepth 20000 in
theorem kinX3_stress_X2 : ∀ w ∈ u_ws RX2 TX2 5, w ∈ wsX3_stress := by decide +kernel
theorem kwX3_stress_3 : Cond.fieldLink RX3 65 "BarrelRaft$Lashings" "second" "[I" ∈ wsX3_stress := List.mem_of_getElem? (i := 3) rfl
theorem kwX3_stress_4 : Cond.fieldLink RX3 12 "BarrelRaft$Raft" "barrels" "LBarrelRaft$Barrels;" ∈ wsX3_stress := List.mem_of_getElem? (i := 4) rfl
theorem kwX3_stress_5 : Cond.fieldLink RX3 72 "BarrelRaft$Barrels" "x" "[I" ∈ wsX3_stress := List.mem_of_getElem? (i := 5) rfl
set_option maxRecDepth 20000 in
theorem kinX3_stress_X0 : ∀ w ∈ u_ws RX0 TX0 12, w ∈ wsX3_stress := by decide +kernel
theorem kwX3_stress_6 : Cond.fieldLink RX3 75 "BarrelRaft$Barrels" "y" "[I" ∈ wsX3_stress := List.mem_of_getElem? (i := 6) rfl
theorem kwX3_stress_7 : Cond.methodLink RX3 91 Lib.Math.abs.name ∈ wsX3_stress := List.mem_of_getElem? (i := 7) rfl
theorem kwX3_stress_8 : Cond.static Lib.Math.abs.name ∈ wsX3_stress := List.mem_of_getElem? (i := 8) rfl
theorem kwX3_stress_9 : Cond.initialized "java/lang/Math" ∈ wsX3_stress := List.mem_of_getElem? (i := 9) rfl
theorem kwX3_stress_10 : Cond.code Lib.Math.abs.name Lib.Math.abs.code 1 (some .int) ∈ wsX3_stress := List.mem_of_getElem? (i := 10) rfl
def jX3_stress (B_goods : Nat → Int32) (B_people : Nat → Int32) (B_x : Nat → Int32) (B_y : Nat → Int32) (Q_first : Nat → Int32) (Q_second : Nat → Int32) (W_number : Int32) (W_wave : Nat → Int32) (W_counting : Nat → Int32) (a1 : Int32) : Option (Int32) :=
  chk 48 a1 (chk 48 a1 (chk 24 (rd Q_first a1) (chk 24 (rd Q_first a1) (bnd (jX4_at W_counting (rd B_x (rd Q_first a1)) (rd B_y (rd Q_first a1))) (fun r1 => bnd (jX4_waveOf W_number W_wave r1) (fun r2 => bnd (jX0_loadOf B_goods B_people (rd Q_first a1)) (fun r3 => bnd (jX0_loadOf B_goods B_people (rd Q_second a1)) (fun r4 => some (r2 + ((mabs (r3 - r4)) / 2))))))))))
set_option maxHeartbeats 4000000 in
set_option maxRecDepth 100000 in
theorem mt_X3_stress (l : Launch) (D : va_G) (c : Nat → ClassId) (R : Nat → Nat) (B : Nat → Nat) (K : Nat → Nat) (Q : Nat → Nat) (W : Nat → Nat) (R_hour : Int32) (R_broken : Int32) (B_number : Int32) (B_goods : Nat → Int32) (B_people : Nat → Int32) (B_x : Nat → Int32) (B_y : Nat → Int32) (Q_number : Int32) (Q_first : Nat → Int32) (Q_second : Nat → Int32) (W_number : Int32) (W_windDx : Int32) (W_windDy : Int32) (W_wave : Nat → Int32) (W_counting : Nat → Int32) (a1 : Int32) (q0 : Int32) (h : jX3_stress B_goods B_people B_x B_y Q_first Q_second W_number W_wave W_counting a1 = some q0) : DTi l yX3_stress wsX3_stress rmX3_stress D c (wX3_stress c R B K Q W R_hour R_broken B_number B_goods B_people B_x B_y Q_number Q_first Q_second W_number W_windDx W_windDy W_wave W_counting) [.ref (R 0), .int a1, .ref (W 0)] q0 (wX3_stress c R B K Q W R_hour R_broken B_number B_goods B_people B_x B_y Q_number Q_first Q_second W_number W_windDx W_windDy W_wave W_counting) 0 0 := by
  refine DTi_of (cc := cX3_stress) (nL := 6) RX3 rfl (by decide) rfl (Nat.le_of_ble_eq_true rfl) (fun g C ret => ?_)
  unfold jX3_stress at h
  refine vv_lv [0, 1, 2] [(0, .ref (R 0)), (1, .int a1), (2, .ref (W 0))] rfl ?_
  refine vv_aload_n C dX3_stress_0 rfl 0 rfl 1 rfl ?_
  refine vv_get C (q0 := 0) (ci := 3) (k := 2) kinX3_stress_X3 rfl rfl (by decide) kwX3_stress_1 rfl rfl dX3_stress_1 4 rfl ?_
  refine vv_get C (q0 := 6) (ci := 2) (k := 0) kinX3_stress_X2 rfl rfl (by decide) kwX3_stress_2 rfl rfl dX3_stress_4 7 rfl ?_
  refine vv_iload_n C dX3_stress_7 rfl 1 rfl 8 rfl ?_
  obtain ⟨hi, h⟩ := chk_s h
  refine vv_iald C (q0 := 7) rfl hi dX3_stress_8 9 rfl ?_
  refine vv_istore_n C [(3, .int (rd Q_first a1)), (0, .ref (R 0)), (1, .int a1), (2, .ref (W 0))] dX3_stress_9 rfl (by decide) rfl 10 rfl ?_
  refine vv_aload_n C dX3_stress_10 rfl 1 rfl 11 rfl ?_
  refine vv_get C (q0 := 0) (ci := 3) (k := 2) kinX3_stress_X3 rfl rfl (by decide) kwX3_stress_1 rfl rfl dX3_stress_11 14 rfl ?_
  refine vv_get C (q0 := 6) (ci := 2) (k := 1) kinX3_stress_X2 rfl rfl (by decide) kwX3_stress_3 rfl rfl dX3_stress_14 17 rfl ?_
  refine vv_iload_n C dX3_stress_17 rfl 2 rfl 18 rfl ?_
  obtain ⟨hi, h⟩ := chk_s h
  refine vv_iald C (q0 := 8) rfl hi dX3_stress_18 19 rfl ?_
  refine vv_istore C [(4, .int (rd Q_second a1)), (3, .int (rd Q_first a1)), (0, .ref (R 0)), (1, .int a1), (2, .ref (W 0))] dX3_stress_19 (by decide) rfl 21 rfl ?_
  refine vv_aload_n C dX3_stress_21 rfl 4 rfl 22 rfl ?_
  refine vv_aload_n C dX3_stress_22 rfl 4 rfl 23 rfl ?_
  refine vv_aload_n C dX3_stress_23 rfl 2 rfl 24 rfl ?_
  refine vv_get C (q0 := 0) (ci := 3) (k := 0) kinX3_stress_X3 rfl rfl (by decide) kwX3_stress_4 rfl rfl dX3_stress_24 27 rfl ?_
  refine vv_get C (q0 := 1) (ci := 0) (k := 8) kinX3_stress_X0 rfl rfl (by decide) kwX3_stress_5 rfl rfl dX3_stress_27 30 rfl ?_
  refine vv_iload_n C dX3_stress_30 rfl 1 rfl 31 rfl ?_
  obtain ⟨hi, h⟩ := chk_s h
  refine vv_iald C (q0 := 4) rfl hi dX3_stress_31 32 rfl ?_
  refine vv_aload_n C dX3_stress_32 rfl 2 rfl 33 rfl ?_
  refine vv_get C (q0 := 0) (ci := 3) (k := 0) kinX3_stress_X3 rfl rfl (by decide) kwX3_stress_4 rfl rfl dX3_stress_33 36 rfl ?_
  refine vv_get C (q0 := 1) (ci := 0) (k := 9) kinX3_stress_X0 rfl rfl (by decide) kwX3_stress_6 rfl rfl dX3_stress_36 39 rfl ?_
  refine vv_iload_n C dX3_stress_39 rfl 1 rfl 40 rfl ?_
  obtain ⟨hi, h⟩ := chk_s h
  refine vv_iald C (q0 := 5) rfl hi dX3_stress_40 41 rfl ?_
  obtain ⟨r1, hr1, h⟩ := bnd_s h
  refine vv_callVi C (fun l => mt_X4_at l D c W W_number W_windDx W_windDy W_counting (rd B_x (rd Q_first a1)) (rd B_y (rd Q_first a1)) r1 hr1) gX3_stress_X4_at rfl rfl rfl yd_X4_at ⟨Nat.le_of_ble_eq_true rfl, Nat.le_of_ble_eq_true rfl⟩ [9, 11] rfl (by decide) 0 rfl rfl (wX3_stress c R B K Q W R_hour R_broken B_number B_goods B_people B_x B_y Q_number Q_first Q_second W_number W_windDx W_windDy W_wave W_counting) [(false, 0), (false, 1), (false, 2), (false, 3), (false, 4), (false, 5), (false, 6), (false, 7), (false, 8), (true, 0), (false, 10), (true, 1)] rfl (by decide) rfl rfl [.ref (W 0)] rfl (Nat.le_of_ble_eq_true rfl) ⟨Nat.le_of_ble_eq_true rfl, Nat.le_of_ble_eq_true rfl⟩ dX3_stress_41 44 0 0 rfl ⟨rfl, rfl⟩ ?_
  obtain ⟨r2, hr2, h⟩ := bnd_s h
  refine vv_callVi C (fun l => mt_X4_waveOf l D c W W_number W_windDx W_windDy W_wave r1 r2 hr2) gX3_stress_X4_waveOf rfl rfl rfl yd_X4_waveOf ⟨Nat.le_of_ble_eq_true rfl, Nat.le_of_ble_eq_true rfl⟩ [9, 10] rfl (by decide) 0 rfl rfl (wX3_stress c R B K Q W R_hour R_broken B_number B_goods B_people B_x B_y Q_number Q_first Q_second W_number W_windDx W_windDy W_wave W_counting) [(false, 0), (false, 1), (false, 2), (false, 3), (false, 4), (false, 5), (false, 6), (false, 7), (false, 8), (true, 0), (true, 1), (false, 11)] rfl (by decide) rfl rfl [] rfl (Nat.le_of_ble_eq_true rfl) ⟨Nat.le_of_ble_eq_true rfl, Nat.le_of_ble_eq_true rfl⟩ dX3_stress_44 47 0 0 rfl ⟨rfl, rfl⟩ ?_
  refine vv_istore C [(5, .int r2), (4, .int (rd Q_second a1)), (3, .int (rd Q_first a1)), (0, .ref (R 0)), (1, .int a1), (2, .ref (W 0))] dX3_stress_47 (by decide) rfl 49 rfl ?_
  refine vv_iload C dX3_stress_49 0 rfl 51 rfl ?_
  refine vv_aload_n C dX3_stress_51 rfl 3 rfl 52 rfl ?_
  refine vv_get C (q0 := 0) (ci := 3) (k := 0) kinX3_stress_X3 rfl rfl (by decide) kwX3_stress_4 rfl rfl dX3_stress_52 55 rfl ?_
  refine vv_iload_n C dX3_stress_55 rfl 2 rfl 56 rfl ?_
  obtain ⟨r3, hr3, h⟩ := bnd_s h
  refine vv_callVi C (fun l => mt_X0_loadOf l D c B B_number B_goods B_people (rd Q_first a1) r3 hr3) gX3_stress_X0_loadOf rfl rfl rfl yd_X0_loadOf ⟨Nat.le_of_ble_eq_true rfl, Nat.le_of_ble_eq_true rfl⟩ [1, 2, 3] rfl (by decide) 0 rfl rfl (wX3_stress c R B K Q W R_hour R_broken B_number B_goods B_people B_x B_y Q_number Q_first Q_second W_number W_windDx W_windDy W_wave W_counting) [(false, 0), (true, 0), (true, 1), (true, 2), (false, 4), (false, 5), (false, 6), (false, 7), (false, 8), (false, 9), (false, 10), (false, 11)] rfl (by decide) rfl rfl [.int r2] rfl (Nat.le_of_ble_eq_true rfl) ⟨Nat.le_of_ble_eq_true rfl, Nat.le_of_ble_eq_true rfl⟩ dX3_stress_56 59 0 0 rfl ⟨rfl, rfl⟩ ?_
  refine vv_aload_n C dX3_stress_59 rfl 3 rfl 60 rfl ?_
  refine vv_get C (q0 := 0) (ci := 3) (k := 0) kinX3_stress_X3 rfl rfl (by decide) kwX3_stress_4 rfl rfl dX3_stress_60 63 rfl ?_
  refine vv_iload C dX3_stress_63 1 rfl 65 rfl ?_
  obtain ⟨r4, hr4, h⟩ := bnd_s h
  refine vv_callVi C (fun l => mt_X0_loadOf l D c B B_number B_goods B_people (rd Q_second a1) r4 hr4) gX3_stress_X0_loadOf rfl rfl rfl yd_X0_loadOf ⟨Nat.le_of_ble_eq_true rfl, Nat.le_of_ble_eq_true rfl⟩ [1, 2, 3] rfl (by decide) 0 rfl rfl (wX3_stress c R B K Q W R_hour R_broken B_number B_goods B_people B_x B_y Q_number Q_first Q_second W_number W_windDx W_windDy W_wave W_counting) [(false, 0), (true, 0), (true, 1), (true, 2), (false, 4), (false, 5), (false, 6), (false, 7), (false, 8), (false, 9), (false, 10), (false, 11)] rfl (by decide) rfl rfl [.int r3, .int r2] rfl (Nat.le_of_ble_eq_true rfl) ⟨Nat.le_of_ble_eq_true rfl, Nat.le_of_ble_eq_true rfl⟩ dX3_stress_65 68 0 0 rfl ⟨rfl, rfl⟩ ?_
  refine vv_isub C dX3_stress_68 69 rfl ?_
  refine vv_mabs C kwX3_stress_7 kwX3_stress_8 kwX3_stress_9 kwX3_stress_10 ⟨Nat.le_of_ble_eq_true rfl, Nat.le_of_ble_eq_true rfl⟩ ⟨Nat.le_of_ble_eq_true rfl, Nat.le_of_ble_eq_true rfl⟩ dX3_stress_69 72 rfl ?_
  refine vv_iconst C (v := 2) dX3_stress_72 (by decide) 73 rfl ?_
  refine vv_idiv C dX3_stress_73 (by decide) 74 rfl ?_
  refine vv_iadd C dX3_stress_74 75 rfl ?_
  obtain rfl := Option.some.inj h
  exact ret _ _ dX3_stress_75
abbrev wX3_wearLashings (c : Nat → ClassId) (R : Nat → Nat) (B : Nat → Nat) (K : Nat → Nat) (Q : Nat → Nat) (W : Nat → Nat) (R_hour : Int32) (R_broken : Int32) (B_number : Int32) (B_goods : Nat → Int32) (B_people : Nat → Int32) (B_state : Nat → Int32) (B_x : Nat → Int32) (B_y : Nat → Int32) (B_piece : Nat → Int32) (Q_number : Int32) (Q_first : Nat → Int32) (Q_second : Nat → Int32) (Q_strength : Nat → Int32) (Q_wear : Nat → Int32) (W_number : Int32) (W_windDx : Int32) (W_windDy : Int32) (W_wave : Nat → Int32) (W_counting : Nat → Int32) : va_W := [(R 0, .inr (3, [.ref (B 0), .ref (K 0), .ref (Q 0), .ref (R 1), .ref (R 2), .int R_hour, .int R_broken])), (B 0, .inr (0, [.ref (B 1), .ref (B 2), .ref (B 3), .ref (B 4), .ref (B 5), .ref (B 6), .ref (B 7), .ref (B 8), .ref (B 9), .ref (B 10), .ref (B 11), .int B_number])), aI c (B 6) 24 B_goods, aI c (B 7) 24 B_people, aI c (B 8) 24 B_state, aI c (B 9) 24 B_x, aI c (B 10) 24 B_y, aI c (B 11) 24 B_piece, (Q 0, .inr (2, [.ref (Q 1), .ref (Q 2), .ref (Q 3), .ref (Q 4), .int Q_number])), aI c (Q 1) 48 Q_first, aI c (Q 2) 48 Q_second, aI c (Q 3) 48 Q_strength, aI c (Q 4) 48 Q_wear, (W 0, .inr (4, [.ref (W 1), .ref (W 2), .ref (W 3), .ref (W 4), .int W_number, .int W_windDx, .int W_windDy])), aI c (W 3) 8 W_wave, aI c (W 4) 600 W_counting]
abbrev rmX3_wearLashings : Room := { frames := 3, cells := 0, slots := 0, locals := 68 }
theorem yd_X3_wearLashings : yX3_wearLashings.cls = RX3 ∧ yX3_wearLashings.cls ≠ "java/lang/invoke/MethodHandle" ∧ yX3_wearLashings.cls ≠ "java/lang/invoke/VarHandle" ∧ (parseMethodDescriptor yX3_wearLashings.desc).map (fun d => d.parameters.length) = some 1 := by decide +kernel
theorem kwX3_wearLashings_1 : Cond.fieldLink RX3 28 "BarrelRaft$Raft" "lashings" "LBarrelRaft$Lashings;" ∈ wsX3_wearLashings := List.mem_of_getElem? (i := 1) rfl
set_option maxRecDepth 20000 in
theorem kinX3_wearLashings_X3 : ∀ w ∈ u_ws RX3 TX3 7, w ∈ wsX3_wearLashings := by decide +kernel
theorem kwX3_wearLashings_2 : Cond.fieldLink RX3 59 "BarrelRaft$Lashings" "number" "I" ∈ wsX3_wearLashings := List.mem_of_getElem? (i := 2) rfl
set_option maxRecDepth 20000 in
theorem kinX3_wearLashings_X2 : ∀ w ∈ u_ws RX2 TX2 5, w ∈ wsX3_wearLashings := by decide +kernel
theorem kwX3_wearLashings_3 : Cond.fieldLink RX3 140 "BarrelRaft$Lashings" "wear" "[I" ∈ wsX3_wearLashings := List.mem_of_getElem? (i := 3) rfl
theorem kwX3_wearLashings_4 : Cond.fieldLink RX3 53 "BarrelRaft$Raft" "broken" "I" ∈ wsX3_wearLashings := List.mem_of_getElem? (i := 4) rfl
def jX3_wearLashings_L10 (B_goods : Nat → Int32) (B_people : Nat → Int32) (B_x : Nat → Int32) (B_y : Nat → Int32) (Q_first : Nat → Int32) (Q_second : Nat → Int32) (W_number : Int32) (W_wave : Nat → Int32) (W_counting : Nat → Int32) (u2 : Int32) (n : Nat) (Q_strength_10 : Nat → Int32) (Q_wear_10 : Nat → Int32) (v3_10 : Int32) : Option ((Nat → Int32) × (Nat → Int32)) :=
  match n with
  | 0 => none
  | n + 1 => (if u2 ≤ v3_10 then some (Q_strength_10, Q_wear_10) else bnd (jX3_stress B_goods B_people B_x B_y Q_first Q_second W_number W_wave W_counting v3_10) (fun r1 => bnd (jX2_left Q_strength_10 Q_wear_10 v3_10) (fun r2 => (if r1 ≤ r2 then chk 48 v3_10 (chk 48 v3_10 (jX3_wearLashings_L10 B_goods B_people B_x B_y Q_first Q_second W_number W_wave W_counting u2 n Q_strength_10 (wr Q_wear_10 v3_10 ((rd Q_wear_10 v3_10) + (r1 / 4))) (v3_10 + 1))) else bnd (jX2_undo Q_strength_10 v3_10) (fun r3 => jX3_wearLashings_L10 B_goods B_people B_x B_y Q_first Q_second W_number W_wave W_counting u2 n r3 Q_wear_10 (v3_10 + 1))))))
def jX3_wearLashings (R_broken : Int32) (B_number : Int32) (B_goods : Nat → Int32) (B_people : Nat → Int32) (B_state : Nat → Int32) (B_x : Nat → Int32) (B_y : Nat → Int32) (B_piece : Nat → Int32) (Q_number : Int32) (Q_first : Nat → Int32) (Q_second : Nat → Int32) (Q_strength : Nat → Int32) (Q_wear : Nat → Int32) (W_number : Int32) (W_wave : Nat → Int32) (W_counting : Nat → Int32) : Option (Int32 × (Nat → Int32) × Int32 × (Nat → Int32) × (Nat → Int32) × (Nat → Int32) × (Nat → Int32)) :=
  bnd (jX3_wearLashings_L10 B_goods B_people B_x B_y Q_first Q_second W_number W_wave W_counting Q_number FU Q_strength Q_wear 0) (fun r4 => bnd (jX2_sweep Q_number Q_first Q_second r4.1 r4.2) (fun r5 => (if Q_number ≤ r5.1 then some (R_broken, B_piece, r5.1, r5.2.1, r5.2.2.1, r5.2.2.2.1, r5.2.2.2.2) else bnd (jX3_findPieces B_number B_state B_piece r5.1 r5.2.1 r5.2.2.1) (fun r6 => some (R_broken + (Q_number - r5.1), r6, r5.1, r5.2.1, r5.2.2.1, r5.2.2.2.1, r5.2.2.2.2)))))
set_option maxHeartbeats 4000000 in
set_option maxRecDepth 100000 in
theorem mt_X3_wearLashings (l : Launch) (D : va_G) (c : Nat → ClassId) (R : Nat → Nat) (B : Nat → Nat) (K : Nat → Nat) (Q : Nat → Nat) (W : Nat → Nat) (R_hour : Int32) (R_broken : Int32) (B_number : Int32) (B_goods : Nat → Int32) (B_people : Nat → Int32) (B_state : Nat → Int32) (B_x : Nat → Int32) (B_y : Nat → Int32) (B_piece : Nat → Int32) (Q_number : Int32) (Q_first : Nat → Int32) (Q_second : Nat → Int32) (Q_strength : Nat → Int32) (Q_wear : Nat → Int32) (W_number : Int32) (W_windDx : Int32) (W_windDy : Int32) (W_wave : Nat → Int32) (W_counting : Nat → Int32) (q0 : Int32 × (Nat → Int32) × Int32 × (Nat → Int32) × (Nat → Int32) × (Nat → Int32) × (Nat → Int32)) (h : jX3_wearLashings R_broken B_number B_goods B_people B_state B_x B_y B_piece Q_number Q_first Q_second Q_strength Q_wear W_number W_wave W_counting = some q0) : DTv l yX3_wearLashings wsX3_wearLashings rmX3_wearLashings D c (wX3_wearLashings c R B K Q W R_hour R_broken B_number B_goods B_people B_state B_x B_y B_piece Q_number Q_first Q_second Q_strength Q_wear W_number W_windDx W_windDy W_wave W_counting) [.ref (R 0), .ref (W 0)] (wX3_wearLashings c R B K Q W R_hour q0.1 B_number B_goods B_people B_state B_x B_y q0.2.1 q0.2.2.1 q0.2.2.2.1 q0.2.2.2.2.1 q0.2.2.2.2.2.1 q0.2.2.2.2.2.2 W_number W_windDx W_windDy W_wave W_counting) 0 0 := by
  refine DTv_of (cc := cX3_wearLashings) (nL := 5) RX3 rfl (by decide) rfl (Nat.le_of_ble_eq_true rfl) (fun g C ret => ?_)
  unfold jX3_wearLashings at h
  refine vv_lv [0, 1] [(0, .ref (R 0)), (1, .ref (W 0))] rfl ?_
  refine vv_aload_n C dX3_wearLashings_0 rfl 0 rfl 1 rfl ?_
  refine vv_get C (q0 := 0) (ci := 3) (k := 2) kinX3_wearLashings_X3 rfl rfl (by decide) kwX3_wearLashings_1 rfl rfl dX3_wearLashings_1 4 rfl ?_
  refine vv_get C (q0 := 8) (ci := 2) (k := 4) kinX3_wearLashings_X2 rfl rfl (by decide) kwX3_wearLashings_2 rfl rfl dX3_wearLashings_4 7 rfl ?_
  refine vv_istore_n C [(2, .int Q_number), (0, .ref (R 0)), (1, .ref (W 0))] dX3_wearLashings_7 rfl (by decide) rfl 8 rfl ?_
  refine vv_iconst C (v := 0) dX3_wearLashings_8 (by decide) 9 rfl ?_
  refine vv_istore_n C [(3, .int 0), (2, .int Q_number), (0, .ref (R 0)), (1, .ref (W 0))] dX3_wearLashings_9 rfl (by decide) rfl 10 rfl ?_
  refine vv_lv [2, 3, 1, 0] [(0, .ref (R 0)), (1, .ref (W 0)), (2, .int Q_number), (3, .int 0)] rfl ?_
  have L10 : ∀ (n : Nat) (Q_strength_10 : Nat → Int32) (Q_wear_10 : Nat → Int32) (v3_10 : Int32) (q10 : (Nat → Int32) × (Nat → Int32)), jX3_wearLashings_L10 B_goods B_people B_x B_y Q_first Q_second W_number W_wave W_counting Q_number n Q_strength_10 Q_wear_10 v3_10 = some q10 → (VV g D 5 0 0 (wX3_wearLashings c R B K Q W R_hour R_broken B_number B_goods B_people B_state B_x B_y B_piece Q_number Q_first Q_second q10.1 q10.2 W_number W_windDx W_windDy W_wave W_counting) [(0, .ref (R 0)), (2, .int Q_number)] 69 []) → VV g D 5 0 0 (wX3_wearLashings c R B K Q W R_hour R_broken B_number B_goods B_people B_state B_x B_y B_piece Q_number Q_first Q_second Q_strength_10 Q_wear_10 W_number W_windDx W_windDy W_wave W_counting) [(0, .ref (R 0)), (1, .ref (W 0)), (2, .int Q_number), (3, .int v3_10)] 10 [] := by
    intro n
    induction n with
    | zero =>
      intro Q_strength_10 Q_wear_10 v3_10 q10 h _
      rw [jX3_wearLashings_L10] at h
      cases h
    | succ n ih10 =>
      intro Q_strength_10 Q_wear_10 v3_10 q10 h kk10
      rw [jX3_wearLashings_L10] at h
      refine vv_iload_n C dX3_wearLashings_10 rfl 3 rfl 11 rfl ?_
      refine vv_iload_n C dX3_wearLashings_11 rfl 2 rfl 12 rfl ?_
      refine vv_icmp_ge C 69 15 dX3_wearLashings_12 (by decide) rfl (fun hc => ?_) (fun hc => ?_)
      · replace h := ite_t hc h
        refine vv_lv [0, 2] [(0, .ref (R 0)), (2, .int Q_number)] rfl ?_
        obtain rfl := Option.some.inj h
        exact kk10
      · replace h := ite_f hc h
        refine vv_aload_n C dX3_wearLashings_15 rfl 0 rfl 16 rfl ?_
        refine vv_iload_n C dX3_wearLashings_16 rfl 3 rfl 17 rfl ?_
        refine vv_aload_n C dX3_wearLashings_17 rfl 1 rfl 18 rfl ?_
        obtain ⟨r1, hr1, h⟩ := bnd_s h
        refine vv_callVi C (fun l => mt_X3_stress l D c R B K Q W R_hour R_broken B_number B_goods B_people B_x B_y Q_number Q_first Q_second W_number W_windDx W_windDy W_wave W_counting v3_10 r1 hr1) gX3_wearLashings_X3_stress rfl rfl rfl yd_X3_stress ⟨Nat.le_of_ble_eq_true rfl, Nat.le_of_ble_eq_true rfl⟩ [0, 1, 2, 3, 5, 6, 8, 9, 10, 13, 14, 15] rfl (by decide) 0 rfl rfl (wX3_wearLashings c R B K Q W R_hour R_broken B_number B_goods B_people B_state B_x B_y B_piece Q_number Q_first Q_second Q_strength_10 Q_wear_10 W_number W_windDx W_windDy W_wave W_counting) [(true, 0), (true, 1), (true, 2), (true, 3), (false, 4), (true, 4), (true, 5), (false, 7), (true, 6), (true, 7), (true, 8), (false, 11), (false, 12), (true, 9), (true, 10), (true, 11)] rfl (by decide) rfl rfl [] rfl (Nat.le_of_ble_eq_true rfl) ⟨Nat.le_of_ble_eq_true rfl, Nat.le_of_ble_eq_true rfl⟩ dX3_wearLashings_18 21 0 0 rfl ⟨rfl, rfl⟩ ?_
        refine vv_istore C [(4, .int r1), (0, .ref (R 0)), (1, .ref (W 0)), (2, .int Q_number), (3, .int v3_10)] dX3_wearLashings_21 (by decide) rfl 23 rfl ?_
        refine vv_iload C dX3_wearLashings_23 0 rfl 25 rfl ?_
        refine vv_aload_n C dX3_wearLashings_25 rfl 1 rfl 26 rfl ?_
        refine vv_get C (q0 := 0) (ci := 3) (k := 2) kinX3_wearLashings_X3 rfl rfl (by decide) kwX3_wearLashings_1 rfl rfl dX3_wearLashings_26 29 rfl ?_
        refine vv_iload_n C dX3_wearLashings_29 rfl 4 rfl 30 rfl ?_
        obtain ⟨r2, hr2, h⟩ := bnd_s h
        refine vv_callVi C (fun l => mt_X2_left l D c Q Q_number Q_strength_10 Q_wear_10 v3_10 r2 hr2) gX3_wearLashings_X2_left rfl rfl rfl yd_X2_left ⟨Nat.le_of_ble_eq_true rfl, Nat.le_of_ble_eq_true rfl⟩ [8, 11, 12] rfl (by decide) 0 rfl rfl (wX3_wearLashings c R B K Q W R_hour R_broken B_number B_goods B_people B_state B_x B_y B_piece Q_number Q_first Q_second Q_strength_10 Q_wear_10 W_number W_windDx W_windDy W_wave W_counting) [(false, 0), (false, 1), (false, 2), (false, 3), (false, 4), (false, 5), (false, 6), (false, 7), (true, 0), (false, 9), (false, 10), (true, 1), (true, 2), (false, 13), (false, 14), (false, 15)] rfl (by decide) rfl rfl [.int r1] rfl (Nat.le_of_ble_eq_true rfl) ⟨Nat.le_of_ble_eq_true rfl, Nat.le_of_ble_eq_true rfl⟩ dX3_wearLashings_30 33 0 0 rfl ⟨rfl, rfl⟩ ?_
        refine vv_icmp_le C 47 36 dX3_wearLashings_33 (by decide) rfl (fun hc => ?_) (fun hc => ?_)
        · replace h := ite_t hc h
          refine vv_aload_n C dX3_wearLashings_47 rfl 1 rfl 48 rfl ?_
          refine vv_get C (q0 := 0) (ci := 3) (k := 2) kinX3_wearLashings_X3 rfl rfl (by decide) kwX3_wearLashings_1 rfl rfl dX3_wearLashings_48 51 rfl ?_
          refine vv_get C (q0 := 8) (ci := 2) (k := 3) kinX3_wearLashings_X2 rfl rfl (by decide) kwX3_wearLashings_3 rfl rfl dX3_wearLashings_51 54 rfl ?_
          refine vv_iload_n C dX3_wearLashings_54 rfl 4 rfl 55 rfl ?_
          refine vv_dup2 C dX3_wearLashings_55 rfl rfl 56 rfl ?_
          obtain ⟨hi, h⟩ := chk_s h
          refine vv_iald C (q0 := 12) rfl hi dX3_wearLashings_56 57 rfl ?_
          refine vv_iload C dX3_wearLashings_57 0 rfl 59 rfl ?_
          refine vv_iconst C (v := 4) dX3_wearLashings_59 (by decide) 60 rfl ?_
          refine vv_idiv C dX3_wearLashings_60 (by decide) 61 rfl ?_
          refine vv_iadd C dX3_wearLashings_61 62 rfl ?_
          obtain ⟨hi, h⟩ := chk_s h
          refine vv_iast C (q0 := 12) (wX3_wearLashings c R B K Q W R_hour R_broken B_number B_goods B_people B_state B_x B_y B_piece Q_number Q_first Q_second Q_strength_10 (wr Q_wear_10 v3_10 ((rd Q_wear_10 v3_10) + (r1 / 4))) W_number W_windDx W_windDy W_wave W_counting) rfl hi rfl dX3_wearLashings_62 63 rfl ?_
          refine vv_iinc C (k := 4) [(3, .int (v3_10 + 1)), (4, .int r1), (0, .ref (R 0)), (1, .ref (W 0)), (2, .int Q_number)] dX3_wearLashings_63 rfl rfl (by decide) rfl 66 rfl ?_
          refine vv_goto C 10 dX3_wearLashings_66 (by decide) ?_
          refine vv_lv [2, 3, 4, 0] [(0, .ref (R 0)), (1, .ref (W 0)), (2, .int Q_number), (3, .int (v3_10 + 1))] rfl ?_
          exact ih10 Q_strength_10 (wr Q_wear_10 v3_10 ((rd Q_wear_10 v3_10) + (r1 / 4))) (v3_10 + 1) _ h kk10
        · replace h := ite_f hc h
          refine vv_aload_n C dX3_wearLashings_36 rfl 1 rfl 37 rfl ?_
          refine vv_get C (q0 := 0) (ci := 3) (k := 2) kinX3_wearLashings_X3 rfl rfl (by decide) kwX3_wearLashings_1 rfl rfl dX3_wearLashings_37 40 rfl ?_
          refine vv_iload_n C dX3_wearLashings_40 rfl 4 rfl 41 rfl ?_
          obtain ⟨r3, hr3, h⟩ := bnd_s h
          refine vv_callVv C (fun l => mt_X2_undo l D c Q Q_number Q_strength_10 v3_10 r3 hr3) gX3_wearLashings_X2_undo rfl rfl rfl yd_X2_undo ⟨Nat.le_of_ble_eq_true rfl, Nat.le_of_ble_eq_true rfl⟩ [8, 11] rfl (by decide) 0 rfl rfl (wX3_wearLashings c R B K Q W R_hour R_broken B_number B_goods B_people B_state B_x B_y B_piece Q_number Q_first Q_second r3 Q_wear_10 W_number W_windDx W_windDy W_wave W_counting) [(false, 0), (false, 1), (false, 2), (false, 3), (false, 4), (false, 5), (false, 6), (false, 7), (true, 0), (false, 9), (false, 10), (true, 1), (false, 12), (false, 13), (false, 14), (false, 15)] rfl (by decide) rfl rfl [] rfl (Nat.le_of_ble_eq_true rfl) ⟨Nat.le_of_ble_eq_true rfl, Nat.le_of_ble_eq_true rfl⟩ dX3_wearLashings_41 44 0 0 rfl ⟨rfl, rfl⟩ ?_
          refine vv_goto C 63 dX3_wearLashings_44 (by decide) ?_
          refine vv_iinc C (k := 4) [(3, .int (v3_10 + 1)), (4, .int r1), (0, .ref (R 0)), (1, .ref (W 0)), (2, .int Q_number)] dX3_wearLashings_63 rfl rfl (by decide) rfl 66 rfl ?_
          refine vv_goto C 10 dX3_wearLashings_66 (by decide) ?_
          refine vv_lv [2, 3, 4, 0] [(0, .ref (R 0)), (1, .ref (W 0)), (2, .int Q_number), (3, .int (v3_10 + 1))] rfl ?_
          exact ih10 r3 Q_wear_10 (v3_10 + 1) _ h kk10
  obtain ⟨r4, hr4, h⟩ := bnd_s h
  refine L10 FU Q_strength Q_wear 0 r4 hr4 ?_
  refine vv_aload_n C dX3_wearLashings_69 rfl 0 rfl 70 rfl ?_
  refine vv_get C (q0 := 0) (ci := 3) (k := 2) kinX3_wearLashings_X3 rfl rfl (by decide) kwX3_wearLashings_1 rfl rfl dX3_wearLashings_70 73 rfl ?_
  obtain ⟨r5, hr5, h⟩ := bnd_s h
  refine vv_callVv C (fun l => mt_X2_sweep l D c Q Q_number Q_first Q_second r4.1 r4.2 r5 hr5) gX3_wearLashings_X2_sweep rfl rfl rfl yd_X2_sweep ⟨Nat.le_of_ble_eq_true rfl, Nat.le_of_ble_eq_true rfl⟩ [8, 9, 10, 11, 12] rfl (by decide) 0 rfl rfl (wX3_wearLashings c R B K Q W R_hour R_broken B_number B_goods B_people B_state B_x B_y B_piece r5.1 r5.2.1 r5.2.2.1 r5.2.2.2.1 r5.2.2.2.2 W_number W_windDx W_windDy W_wave W_counting) [(false, 0), (false, 1), (false, 2), (false, 3), (false, 4), (false, 5), (false, 6), (false, 7), (true, 0), (true, 1), (true, 2), (true, 3), (true, 4), (false, 13), (false, 14), (false, 15)] rfl (by decide) rfl rfl [] rfl (Nat.le_of_ble_eq_true rfl) ⟨Nat.le_of_ble_eq_true rfl, Nat.le_of_ble_eq_true rfl⟩ dX3_wearLashings_73 76 0 0 rfl ⟨rfl, rfl⟩ ?_
  refine vv_aload_n C dX3_wearLashings_76 rfl 0 rfl 77 rfl ?_
  refine vv_get C (q0 := 0) (ci := 3) (k := 2) kinX3_wearLashings_X3 rfl rfl (by decide) kwX3_wearLashings_1 rfl rfl dX3_wearLashings_77 80 rfl ?_
  refine vv_get C (q0 := 8) (ci := 2) (k := 4) kinX3_wearLashings_X2 rfl rfl (by decide) kwX3_wearLashings_2 rfl rfl dX3_wearLashings_80 83 rfl ?_
  refine vv_iload_n C dX3_wearLashings_83 rfl 1 rfl 84 rfl ?_
  refine vv_icmp_ge C 109 87 dX3_wearLashings_84 (by decide) rfl (fun hc => ?_) (fun hc => ?_)
  · replace h := ite_t hc h
    obtain rfl := Option.some.inj h
    exact ret _ _ dX3_wearLashings_109
  · replace h := ite_f hc h
    refine vv_aload_n C dX3_wearLashings_87 rfl 0 rfl 88 rfl ?_
    refine vv_dup C dX3_wearLashings_88 rfl 89 rfl ?_
    refine vv_get C (q0 := 0) (ci := 3) (k := 6) kinX3_wearLashings_X3 rfl rfl (by decide) kwX3_wearLashings_4 rfl rfl dX3_wearLashings_89 92 rfl ?_
    refine vv_iload_n C dX3_wearLashings_92 rfl 1 rfl 93 rfl ?_
    refine vv_aload_n C dX3_wearLashings_93 rfl 0 rfl 94 rfl ?_
    refine vv_get C (q0 := 0) (ci := 3) (k := 2) kinX3_wearLashings_X3 rfl rfl (by decide) kwX3_wearLashings_1 rfl rfl dX3_wearLashings_94 97 rfl ?_
    refine vv_get C (q0 := 8) (ci := 2) (k := 4) kinX3_wearLashings_X2 rfl rfl (by decide) kwX3_wearLashings_2 rfl rfl dX3_wearLashings_97 100 rfl ?_
    refine vv_isub C dX3_wearLashings_100 101 rfl ?_
    refine vv_iadd C dX3_wearLashings_101 102 rfl ?_
    refine vv_put C (q0 := 0) (ci := 3) (k := 6) (ty := .int) (wX3_wearLashings c R B K Q W R_hour (R_broken + (Q_number - r5.1)) B_number B_goods B_people B_state B_x B_y B_piece r5.1 r5.2.1 r5.2.2.1 r5.2.2.2.1 r5.2.2.2.2 W_number W_windDx W_windDy W_wave W_counting) tyX3 tyX3_ok nmX3 kinX3_wearLashings_X3 rfl rfl (by decide) kwX3_wearLashings_4 rfl rfl rfl rfl rfl (Nat.le_of_ble_eq_true rfl) rfl dX3_wearLashings_102 105 rfl ?_
    refine vv_aload_n C dX3_wearLashings_105 rfl 0 rfl 106 rfl ?_
    obtain ⟨r6, hr6, h⟩ := bnd_s h
    refine vv_callVv C (fun l => mt_X3_findPieces l D c R B K Q R_hour (R_broken + (Q_number - r5.1)) B_number B_state B_piece r5.1 r5.2.1 r5.2.2.1 r6 hr6) gX3_wearLashings_X3_findPieces rfl rfl rfl yd_X3_findPieces ⟨Nat.le_of_ble_eq_true rfl, Nat.le_of_ble_eq_true rfl⟩ [0, 1, 4, 7, 8, 9, 10] rfl (by decide) 0 rfl rfl (wX3_wearLashings c R B K Q W R_hour (R_broken + (Q_number - r5.1)) B_number B_goods B_people B_state B_x B_y r6 r5.1 r5.2.1 r5.2.2.1 r5.2.2.2.1 r5.2.2.2.2 W_number W_windDx W_windDy W_wave W_counting) [(true, 0), (true, 1), (false, 2), (false, 3), (true, 2), (false, 5), (false, 6), (true, 3), (true, 4), (true, 5), (true, 6), (false, 11), (false, 12), (false, 13), (false, 14), (false, 15)] rfl (by decide) rfl rfl [] rfl (Nat.le_of_ble_eq_true rfl) ⟨Nat.le_of_ble_eq_true rfl, Nat.le_of_ble_eq_true rfl⟩ dX3_wearLashings_106 109 0 0 rfl ⟨rfl, rfl⟩ ?_
    obtain rfl := Option.some.inj h
    exact ret _ _ dX3_wearLashings_109
abbrev wX3_saveAshore (c : Nat → ClassId) (R : Nat → Nat) (B : Nat → Nat) (K : Nat → Nat) (Q : Nat → Nat) (R_hour : Int32) (R_broken : Int32) (B_number : Int32) (B_goods : Nat → Int32) (B_people : Nat → Int32) (B_state : Nat → Int32) (B_x : Nat → Int32) (B_piece : Nat → Int32) (K_number : Int32) (K_seat : Nat → Int32) (K_state : Nat → Int32) (Q_number : Int32) (Q_first : Nat → Int32) (Q_second : Nat → Int32) (Q_strength : Nat → Int32) (Q_wear : Nat → Int32) : va_W := [(R 0, .inr (3, [.ref (B 0), .ref (K 0), .ref (Q 0), .ref (R 1), .ref (R 2), .int R_hour, .int R_broken])), (B 0, .inr (0, [.ref (B 1), .ref (B 2), .ref (B 3), .ref (B 4), .ref (B 5), .ref (B 6), .ref (B 7), .ref (B 8), .ref (B 9), .ref (B 10), .ref (B 11), .int B_number])), aI c (B 6) 24 B_goods, aI c (B 7) 24 B_people, aI c (B 8) 24 B_state, aI c (B 9) 24 B_x, aI c (B 11) 24 B_piece, (K 0, .inr (1, [.ref (K 1), .ref (K 2), .int K_number])), aI c (K 1) 8 K_seat, aI c (K 2) 8 K_state, (Q 0, .inr (2, [.ref (Q 1), .ref (Q 2), .ref (Q 3), .ref (Q 4), .int Q_number])), aI c (Q 1) 48 Q_first, aI c (Q 2) 48 Q_second, aI c (Q 3) 48 Q_strength, aI c (Q 4) 48 Q_wear]
abbrev rmX3_saveAshore : Room := { frames := 3, cells := 0, slots := 0, locals := 65 }
theorem yd_X3_saveAshore : yX3_saveAshore.cls = RX3 ∧ yX3_saveAshore.cls ≠ "java/lang/invoke/MethodHandle" ∧ yX3_saveAshore.cls ≠ "java/lang/invoke/VarHandle" ∧ (parseMethodDescriptor yX3_saveAshore.desc).map (fun d => d.parameters.length) = some 0 := by decide +kernel
theorem kwX3_saveAshore_1 : Cond.fieldLink RX3 12 "BarrelRaft$Raft" "barrels" "LBarrelRaft$Barrels;" ∈ wsX3_saveAshore := List.mem_of_getElem? (i := 1) rfl
set_option maxRecDepth 20000 in
theorem kinX3_saveAshore_X3 : ∀ w ∈ u_ws RX3 TX3 7, w ∈ wsX3_saveAshore := by decide +kernel
theorem kwX3_saveAshore_2 : Cond.fieldLink RX3 119 "BarrelRaft$Barrels" "number" "I" ∈ wsX3_saveAshore := List.mem_of_getElem? (i := 2) rfl
set_option maxRecDepth 20000 in
theorem kinX3_saveAshore_X0 : ∀ w ∈ u_ws RX0 TX0 12, w ∈ wsX3_saveAshore := by decide +kernel
theorem kwX3_saveAshore_3 : Cond.fieldLink RX3 72 "BarrelRaft$Barrels" "x" "[I" ∈ wsX3_saveAshore := List.mem_of_getElem? (i := 3) rfl
def jX3_saveAshore_L4 (B_number : Int32) (B_x : Nat → Int32) (n : Nat) (B_goods_4 : Nat → Int32) (B_people_4 : Nat → Int32) (B_state_4 : Nat → Int32) (B_piece_4 : Nat → Int32) (v1_4 : Int32) (v2_4 : Int32) : Option ((Nat → Int32) × (Nat → Int32) × (Nat → Int32) × (Nat → Int32) × Int32) :=
  match n with
  | 0 => none
  | n + 1 => (if B_number ≤ v2_4 then some (B_goods_4, B_people_4, B_state_4, B_piece_4, v1_4) else bnd (jX0_floats B_number B_state_4 v2_4) (fun r1 => (if r1 = 0 then jX3_saveAshore_L4 B_number B_x n B_goods_4 B_people_4 B_state_4 B_piece_4 v1_4 (v2_4 + 1) else chk 24 v2_4 ((if rd B_x v2_4 = 29 then bnd (jX0_end B_goods_4 B_people_4 B_state_4 B_piece_4 v2_4 2) (fun r2 => jX3_saveAshore_L4 B_number B_x n r2.1 r2.2.1 r2.2.2.1 r2.2.2.2 1 (v2_4 + 1)) else jX3_saveAshore_L4 B_number B_x n B_goods_4 B_people_4 B_state_4 B_piece_4 v1_4 (v2_4 + 1))))))
def jX3_saveAshore (B_number : Int32) (B_goods : Nat → Int32) (B_people : Nat → Int32) (B_state : Nat → Int32) (B_x : Nat → Int32) (B_piece : Nat → Int32) (K_number : Int32) (K_seat : Nat → Int32) (K_state : Nat → Int32) (Q_number : Int32) (Q_first : Nat → Int32) (Q_second : Nat → Int32) (Q_strength : Nat → Int32) (Q_wear : Nat → Int32) : Option ((Nat → Int32) × (Nat → Int32) × (Nat → Int32) × (Nat → Int32) × (Nat → Int32) × (Nat → Int32) × Int32 × (Nat → Int32) × (Nat → Int32) × (Nat → Int32) × (Nat → Int32)) :=
  bnd (jX3_saveAshore_L4 B_number B_x FU B_goods B_people B_state B_piece 0 0) (fun r3 => (if r3.2.2.2.2 = 0 then some (r3.1, r3.2.1, r3.2.2.1, r3.2.2.2.1, K_seat, K_state, Q_number, Q_first, Q_second, Q_strength, Q_wear) else bnd (jX3_leaveEnded B_number r3.2.2.1 K_number K_seat K_state Q_number Q_first Q_second Q_strength Q_wear) (fun r4 => some (r3.1, r3.2.1, r3.2.2.1, r3.2.2.2.1, r4.1, r4.2.1, r4.2.2.1, r4.2.2.2.1, r4.2.2.2.2.1, r4.2.2.2.2.2.1, r4.2.2.2.2.2.2))))
set_option maxHeartbeats 4000000 in
set_option maxRecDepth 100000 in
theorem mt_X3_saveAshore (l : Launch) (D : va_G) (c : Nat → ClassId) (R : Nat → Nat) (B : Nat → Nat) (K : Nat → Nat) (Q : Nat → Nat) (R_hour : Int32) (R_broken : Int32) (B_number : Int32) (B_goods : Nat → Int32) (B_people : Nat → Int32) (B_state : Nat → Int32) (B_x : Nat → Int32) (B_piece : Nat → Int32) (K_number : Int32) (K_seat : Nat → Int32) (K_state : Nat → Int32) (Q_number : Int32) (Q_first : Nat → Int32) (Q_second : Nat → Int32) (Q_strength : Nat → Int32) (Q_wear : Nat → Int32) (q0 : (Nat → Int32) × (Nat → Int32) × (Nat → Int32) × (Nat → Int32) × (Nat → Int32) × (Nat → Int32) × Int32 × (Nat → Int32) × (Nat → Int32) × (Nat → Int32) × (Nat → Int32)) (h : jX3_saveAshore B_number B_goods B_people B_state B_x B_piece K_number K_seat K_state Q_number Q_first Q_second Q_strength Q_wear = some q0) : DTv l yX3_saveAshore wsX3_saveAshore rmX3_saveAshore D c (wX3_saveAshore c R B K Q R_hour R_broken B_number B_goods B_people B_state B_x B_piece K_number K_seat K_state Q_number Q_first Q_second Q_strength Q_wear) [.ref (R 0)] (wX3_saveAshore c R B K Q R_hour R_broken B_number q0.1 q0.2.1 q0.2.2.1 B_x q0.2.2.2.1 K_number q0.2.2.2.2.1 q0.2.2.2.2.2.1 q0.2.2.2.2.2.2.1 q0.2.2.2.2.2.2.2.1 q0.2.2.2.2.2.2.2.2.1 q0.2.2.2.2.2.2.2.2.2.1 q0.2.2.2.2.2.2.2.2.2.2) 0 0 := by
  refine DTv_of (cc := cX3_saveAshore) (nL := 3) RX3 rfl (by decide) rfl (Nat.le_of_ble_eq_true rfl) (fun g C ret => ?_)
  unfold jX3_saveAshore at h
  refine vv_lv [0] [(0, .ref (R 0))] rfl ?_
  refine vv_iconst C (v := 0) dX3_saveAshore_0 (by decide) 1 rfl ?_
  refine vv_istore_n C [(1, .int 0), (0, .ref (R 0))] dX3_saveAshore_1 rfl (by decide) rfl 2 rfl ?_
  refine vv_iconst C (v := 0) dX3_saveAshore_2 (by decide) 3 rfl ?_
  refine vv_istore_n C [(2, .int 0), (1, .int 0), (0, .ref (R 0))] dX3_saveAshore_3 rfl (by decide) rfl 4 rfl ?_
  refine vv_lv [2, 1, 0] [(0, .ref (R 0)), (1, .int 0), (2, .int 0)] rfl ?_
  have L4 : ∀ (n : Nat) (B_goods_4 : Nat → Int32) (B_people_4 : Nat → Int32) (B_state_4 : Nat → Int32) (B_piece_4 : Nat → Int32) (v1_4 : Int32) (v2_4 : Int32) (q4 : (Nat → Int32) × (Nat → Int32) × (Nat → Int32) × (Nat → Int32) × Int32), jX3_saveAshore_L4 B_number B_x n B_goods_4 B_people_4 B_state_4 B_piece_4 v1_4 v2_4 = some q4 → (VV g D 3 0 0 (wX3_saveAshore c R B K Q R_hour R_broken B_number q4.1 q4.2.1 q4.2.2.1 B_x q4.2.2.2.1 K_number K_seat K_state Q_number Q_first Q_second Q_strength Q_wear) [(0, .ref (R 0)), (1, .int q4.2.2.2.2)] 57 []) → VV g D 3 0 0 (wX3_saveAshore c R B K Q R_hour R_broken B_number B_goods_4 B_people_4 B_state_4 B_x B_piece_4 K_number K_seat K_state Q_number Q_first Q_second Q_strength Q_wear) [(0, .ref (R 0)), (1, .int v1_4), (2, .int v2_4)] 4 [] := by
    intro n
    induction n with
    | zero =>
      intro B_goods_4 B_people_4 B_state_4 B_piece_4 v1_4 v2_4 q4 h _
      rw [jX3_saveAshore_L4] at h
      cases h
    | succ n ih4 =>
      intro B_goods_4 B_people_4 B_state_4 B_piece_4 v1_4 v2_4 q4 h kk4
      rw [jX3_saveAshore_L4] at h
      refine vv_iload_n C dX3_saveAshore_4 rfl 2 rfl 5 rfl ?_
      refine vv_aload_n C dX3_saveAshore_5 rfl 0 rfl 6 rfl ?_
      refine vv_get C (q0 := 0) (ci := 3) (k := 0) kinX3_saveAshore_X3 rfl rfl (by decide) kwX3_saveAshore_1 rfl rfl dX3_saveAshore_6 9 rfl ?_
      refine vv_get C (q0 := 1) (ci := 0) (k := 11) kinX3_saveAshore_X0 rfl rfl (by decide) kwX3_saveAshore_2 rfl rfl dX3_saveAshore_9 12 rfl ?_
      refine vv_icmp_ge C 57 15 dX3_saveAshore_12 (by decide) rfl (fun hc => ?_) (fun hc => ?_)
      · replace h := ite_t hc h
        refine vv_lv [0, 1] [(0, .ref (R 0)), (1, .int v1_4)] rfl ?_
        obtain rfl := Option.some.inj h
        exact kk4
      · replace h := ite_f hc h
        refine vv_aload_n C dX3_saveAshore_15 rfl 0 rfl 16 rfl ?_
        refine vv_get C (q0 := 0) (ci := 3) (k := 0) kinX3_saveAshore_X3 rfl rfl (by decide) kwX3_saveAshore_1 rfl rfl dX3_saveAshore_16 19 rfl ?_
        refine vv_iload_n C dX3_saveAshore_19 rfl 2 rfl 20 rfl ?_
        obtain ⟨r1, hr1, h⟩ := bnd_s h
        refine vv_callVi C (fun l => mt_X0_floats l D c B B_number B_state_4 v2_4 r1 hr1) gX3_saveAshore_X0_floats rfl rfl rfl yd_X0_floats ⟨Nat.le_of_ble_eq_true rfl, Nat.le_of_ble_eq_true rfl⟩ [1, 4] rfl (by decide) 0 rfl rfl (wX3_saveAshore c R B K Q R_hour R_broken B_number B_goods_4 B_people_4 B_state_4 B_x B_piece_4 K_number K_seat K_state Q_number Q_first Q_second Q_strength Q_wear) [(false, 0), (true, 0), (false, 2), (false, 3), (true, 1), (false, 5), (false, 6), (false, 7), (false, 8), (false, 9), (false, 10), (false, 11), (false, 12), (false, 13), (false, 14)] rfl (by decide) rfl rfl [] rfl (Nat.le_of_ble_eq_true rfl) ⟨Nat.le_of_ble_eq_true rfl, Nat.le_of_ble_eq_true rfl⟩ dX3_saveAshore_20 23 0 0 rfl ⟨rfl, rfl⟩ ?_
        refine vv_if_eq C 51 26 dX3_saveAshore_23 (by decide) rfl (fun hc => ?_) (fun hc => ?_)
        · replace h := ite_t hc h
          refine vv_iinc C (k := 2) [(2, .int (v2_4 + 1)), (0, .ref (R 0)), (1, .int v1_4)] dX3_saveAshore_51 rfl rfl (by decide) rfl 54 rfl ?_
          refine vv_goto C 4 dX3_saveAshore_54 (by decide) ?_
          refine vv_lv [1, 2, 0] [(0, .ref (R 0)), (1, .int v1_4), (2, .int (v2_4 + 1))] rfl ?_
          exact ih4 B_goods_4 B_people_4 B_state_4 B_piece_4 v1_4 (v2_4 + 1) _ h kk4
        · replace h := ite_f hc h
          refine vv_aload_n C dX3_saveAshore_26 rfl 0 rfl 27 rfl ?_
          refine vv_get C (q0 := 0) (ci := 3) (k := 0) kinX3_saveAshore_X3 rfl rfl (by decide) kwX3_saveAshore_1 rfl rfl dX3_saveAshore_27 30 rfl ?_
          refine vv_get C (q0 := 1) (ci := 0) (k := 8) kinX3_saveAshore_X0 rfl rfl (by decide) kwX3_saveAshore_3 rfl rfl dX3_saveAshore_30 33 rfl ?_
          refine vv_iload_n C dX3_saveAshore_33 rfl 2 rfl 34 rfl ?_
          obtain ⟨hi, h⟩ := chk_s h
          refine vv_iald C (q0 := 5) rfl hi dX3_saveAshore_34 35 rfl ?_
          refine vv_bipush C (v := 29) dX3_saveAshore_35 (by decide) 37 rfl ?_
          refine vv_icmp_ne C 51 40 dX3_saveAshore_37 (by decide) rfl (fun hc => ?_) (fun hc => ?_)
          · replace h := ite_f hc h
            refine vv_iinc C (k := 2) [(2, .int (v2_4 + 1)), (0, .ref (R 0)), (1, .int v1_4)] dX3_saveAshore_51 rfl rfl (by decide) rfl 54 rfl ?_
            refine vv_goto C 4 dX3_saveAshore_54 (by decide) ?_
            refine vv_lv [1, 2, 0] [(0, .ref (R 0)), (1, .int v1_4), (2, .int (v2_4 + 1))] rfl ?_
            exact ih4 B_goods_4 B_people_4 B_state_4 B_piece_4 v1_4 (v2_4 + 1) _ h kk4
          · replace h := ite_t hc h
            refine vv_aload_n C dX3_saveAshore_40 rfl 0 rfl 41 rfl ?_
            refine vv_get C (q0 := 0) (ci := 3) (k := 0) kinX3_saveAshore_X3 rfl rfl (by decide) kwX3_saveAshore_1 rfl rfl dX3_saveAshore_41 44 rfl ?_
            refine vv_iload_n C dX3_saveAshore_44 rfl 2 rfl 45 rfl ?_
            refine vv_iconst C (v := 2) dX3_saveAshore_45 (by decide) 46 rfl ?_
            obtain ⟨r2, hr2, h⟩ := bnd_s h
            refine vv_callVv C (fun l => mt_X0_end l D c B B_number B_goods_4 B_people_4 B_state_4 B_piece_4 v2_4 2 r2 hr2) gX3_saveAshore_X0_end rfl rfl rfl yd_X0_end ⟨Nat.le_of_ble_eq_true rfl, Nat.le_of_ble_eq_true rfl⟩ [1, 2, 3, 4, 6] rfl (by decide) 0 rfl rfl (wX3_saveAshore c R B K Q R_hour R_broken B_number r2.1 r2.2.1 r2.2.2.1 B_x r2.2.2.2 K_number K_seat K_state Q_number Q_first Q_second Q_strength Q_wear) [(false, 0), (true, 0), (true, 1), (true, 2), (true, 3), (false, 5), (true, 4), (false, 7), (false, 8), (false, 9), (false, 10), (false, 11), (false, 12), (false, 13), (false, 14)] rfl (by decide) rfl rfl [] rfl (Nat.le_of_ble_eq_true rfl) ⟨Nat.le_of_ble_eq_true rfl, Nat.le_of_ble_eq_true rfl⟩ dX3_saveAshore_46 49 0 0 rfl ⟨rfl, rfl⟩ ?_
            refine vv_iconst C (v := 1) dX3_saveAshore_49 (by decide) 50 rfl ?_
            refine vv_istore_n C [(1, .int 1), (0, .ref (R 0)), (2, .int v2_4)] dX3_saveAshore_50 rfl (by decide) rfl 51 rfl ?_
            refine vv_iinc C (k := 2) [(2, .int (v2_4 + 1)), (1, .int 1), (0, .ref (R 0))] dX3_saveAshore_51 rfl rfl (by decide) rfl 54 rfl ?_
            refine vv_goto C 4 dX3_saveAshore_54 (by decide) ?_
            refine vv_lv [2, 1, 0] [(0, .ref (R 0)), (1, .int 1), (2, .int (v2_4 + 1))] rfl ?_
            exact ih4 r2.1 r2.2.1 r2.2.2.1 r2.2.2.2 1 (v2_4 + 1) _ h kk4
  obtain ⟨r3, hr3, h⟩ := bnd_s h
  refine L4 FU B_goods B_people B_state B_piece 0 0 r3 hr3 ?_
  refine vv_iload_n C dX3_saveAshore_57 rfl 1 rfl 58 rfl ?_
  refine vv_if_eq C 65 61 dX3_saveAshore_58 (by decide) rfl (fun hc => ?_) (fun hc => ?_)
  · replace h := ite_t hc h
    obtain rfl := Option.some.inj h
    exact ret _ _ dX3_saveAshore_65
  · replace h := ite_f hc h
    refine vv_aload_n C dX3_saveAshore_61 rfl 0 rfl 62 rfl ?_
    obtain ⟨r4, hr4, h⟩ := bnd_s h
    refine vv_callVv C (fun l => mt_X3_leaveEnded l D c R B K Q R_hour R_broken B_number r3.2.2.1 K_number K_seat K_state Q_number Q_first Q_second Q_strength Q_wear r4 hr4) gX3_saveAshore_X3_leaveEnded rfl rfl rfl yd_X3_leaveEnded ⟨Nat.le_of_ble_eq_true rfl, Nat.le_of_ble_eq_true rfl⟩ [0, 1, 4, 7, 8, 9, 10, 11, 12, 13, 14] rfl (by decide) 0 rfl rfl (wX3_saveAshore c R B K Q R_hour R_broken B_number r3.1 r3.2.1 r3.2.2.1 B_x r3.2.2.2.1 K_number r4.1 r4.2.1 r4.2.2.1 r4.2.2.2.1 r4.2.2.2.2.1 r4.2.2.2.2.2.1 r4.2.2.2.2.2.2) [(true, 0), (true, 1), (false, 2), (false, 3), (true, 2), (false, 5), (false, 6), (true, 3), (true, 4), (true, 5), (true, 6), (true, 7), (true, 8), (true, 9), (true, 10)] rfl (by decide) rfl rfl [] rfl (Nat.le_of_ble_eq_true rfl) ⟨Nat.le_of_ble_eq_true rfl, Nat.le_of_ble_eq_true rfl⟩ dX3_saveAshore_62 65 0 0 rfl ⟨rfl, rfl⟩ ?_
    obtain rfl := Option.some.inj h
    exact ret _ _ dX3_saveAshore_65
abbrev wX3_passHours (c : Nat → ClassId) (R : Nat → Nat) (B : Nat → Nat) (K : Nat → Nat) (Q : Nat → Nat) (W : Nat → Nat) (R_hour : Int32) (R_broken : Int32) (R_pieceLift : Nat → Int32) (R_pieceLoad : Nat → Int32) (B_number : Int32) (B_lift : Nat → Int32) (B_leak : Nat → Int32) (B_water : Nat → Int32) (B_goods : Nat → Int32) (B_people : Nat → Int32) (B_state : Nat → Int32) (B_x : Nat → Int32) (B_y : Nat → Int32) (B_piece : Nat → Int32) (K_number : Int32) (K_seat : Nat → Int32) (K_state : Nat → Int32) (Q_number : Int32) (Q_first : Nat → Int32) (Q_second : Nat → Int32) (Q_strength : Nat → Int32) (Q_wear : Nat → Int32) (W_number : Int32) (W_windDx : Int32) (W_windDy : Int32) (W_dx : Nat → Int32) (W_dy : Nat → Int32) (W_wave : Nat → Int32) (W_counting : Nat → Int32) : va_W := [(R 0, .inr (3, [.ref (B 0), .ref (K 0), .ref (Q 0), .ref (R 1), .ref (R 2), .int R_hour, .int R_broken])), aI c (R 1) 24 R_pieceLift, aI c (R 2) 24 R_pieceLoad, (B 0, .inr (0, [.ref (B 1), .ref (B 2), .ref (B 3), .ref (B 4), .ref (B 5), .ref (B 6), .ref (B 7), .ref (B 8), .ref (B 9), .ref (B 10), .ref (B 11), .int B_number])), aI c (B 3) 24 B_lift, aI c (B 4) 24 B_leak, aI c (B 5) 24 B_water, aI c (B 6) 24 B_goods, aI c (B 7) 24 B_people, aI c (B 8) 24 B_state, aI c (B 9) 24 B_x, aI c (B 10) 24 B_y, aI c (B 11) 24 B_piece, (K 0, .inr (1, [.ref (K 1), .ref (K 2), .int K_number])), aI c (K 1) 8 K_seat, aI c (K 2) 8 K_state, (Q 0, .inr (2, [.ref (Q 1), .ref (Q 2), .ref (Q 3), .ref (Q 4), .int Q_number])), aI c (Q 1) 48 Q_first, aI c (Q 2) 48 Q_second, aI c (Q 3) 48 Q_strength, aI c (Q 4) 48 Q_wear, (W 0, .inr (4, [.ref (W 1), .ref (W 2), .ref (W 3), .ref (W 4), .int W_number, .int W_windDx, .int W_windDy])), aI c (W 1) 8 W_dx, aI c (W 2) 8 W_dy, aI c (W 3) 8 W_wave, aI c (W 4) 600 W_counting]
abbrev rmX3_passHours : Room := { frames := 4, cells := 0, slots := 0, locals := 92 }
theorem yd_X3_passHours : yX3_passHours.cls = RX3 ∧ yX3_passHours.cls ≠ "java/lang/invoke/MethodHandle" ∧ yX3_passHours.cls ≠ "java/lang/invoke/VarHandle" ∧ (parseMethodDescriptor yX3_passHours.desc).map (fun d => d.parameters.length) = some 2 := by decide +kernel
theorem kwX3_passHours_1 : Cond.fieldLink RX3 12 "BarrelRaft$Raft" "barrels" "LBarrelRaft$Barrels;" ∈ wsX3_passHours := List.mem_of_getElem? (i := 1) rfl
set_option maxRecDepth 20000 in
theorem kinX3_passHours_X3 : ∀ w ∈ u_ws RX3 TX3 7, w ∈ wsX3_passHours := by decide +kernel
theorem kwX3_passHours_2 : Cond.fieldLink RX3 49 "BarrelRaft$Raft" "hour" "I" ∈ wsX3_passHours := List.mem_of_getElem? (i := 2) rfl
def jX3_passHours_L2 (B_number : Int32) (B_lift : Nat → Int32) (B_leak : Nat → Int32) (K_number : Int32) (W_number : Int32) (W_windDx : Int32) (W_windDy : Int32) (W_dx : Nat → Int32) (W_dy : Nat → Int32) (W_wave : Nat → Int32) (W_counting : Nat → Int32) (u1 : Int32) (n : Nat) (R_broken_2 : Int32) (R_pieceLift_2 : Nat → Int32) (R_pieceLoad_2 : Nat → Int32) (B_water_2 : Nat → Int32) (B_goods_2 : Nat → Int32) (B_people_2 : Nat → Int32) (B_state_2 : Nat → Int32) (B_x_2 : Nat → Int32) (B_y_2 : Nat → Int32) (B_piece_2 : Nat → Int32) (K_seat_2 : Nat → Int32) (K_state_2 : Nat → Int32) (Q_number_2 : Int32) (Q_first_2 : Nat → Int32) (Q_second_2 : Nat → Int32) (Q_strength_2 : Nat → Int32) (Q_wear_2 : Nat → Int32) (v3_2 : Int32) : Option (Int32 × (Nat → Int32) × (Nat → Int32) × (Nat → Int32) × (Nat → Int32) × (Nat → Int32) × (Nat → Int32) × (Nat → Int32) × (Nat → Int32) × (Nat → Int32) × (Nat → Int32) × (Nat → Int32) × Int32 × (Nat → Int32) × (Nat → Int32) × (Nat → Int32) × (Nat → Int32)) :=
  match n with
  | 0 => none
  | n + 1 => (if u1 ≤ v3_2 then some (R_broken_2, R_pieceLift_2, R_pieceLoad_2, B_water_2, B_goods_2, B_people_2, B_state_2, B_x_2, B_y_2, B_piece_2, K_seat_2, K_state_2, Q_number_2, Q_first_2, Q_second_2, Q_strength_2, Q_wear_2) else bnd (jX0_firstAfloat B_number B_state_2) (fun r1 => (if r1 < 0 then some (R_broken_2, R_pieceLift_2, R_pieceLoad_2, B_water_2, B_goods_2, B_people_2, B_state_2, B_x_2, B_y_2, B_piece_2, K_seat_2, K_state_2, Q_number_2, Q_first_2, Q_second_2, Q_strength_2, Q_wear_2) else bnd (jX0_takeInWater B_number B_leak B_water_2 B_state_2) (fun r2 => bnd (jX3_loseOverloaded R_pieceLift_2 R_pieceLoad_2 B_number B_lift r2 B_goods_2 B_people_2 B_state_2 B_piece_2 K_number K_seat_2 K_state_2 Q_number_2 Q_first_2 Q_second_2 Q_strength_2 Q_wear_2) (fun r3 => bnd (jX3_wearLashings R_broken_2 B_number r3.2.2.1 r3.2.2.2.1 r3.2.2.2.2.1 B_x_2 B_y_2 r3.2.2.2.2.2.1 r3.2.2.2.2.2.2.2.2.1 r3.2.2.2.2.2.2.2.2.2.1 r3.2.2.2.2.2.2.2.2.2.2.1 r3.2.2.2.2.2.2.2.2.2.2.2.1 r3.2.2.2.2.2.2.2.2.2.2.2.2 W_number W_wave W_counting) (fun r4 => bnd (jX3_drift r3.1 r3.2.1 B_number B_lift r2 r3.2.2.1 r3.2.2.2.1 B_x_2 B_y_2 r4.2.1 W_number W_windDx W_windDy W_dx W_dy W_counting) (fun r5 => bnd (jX3_saveAshore B_number r3.2.2.1 r3.2.2.2.1 r3.2.2.2.2.1 r5.2.2.1 r4.2.1 K_number r3.2.2.2.2.2.2.1 r3.2.2.2.2.2.2.2.1 r4.2.2.1 r4.2.2.2.1 r4.2.2.2.2.1 r4.2.2.2.2.2.1 r4.2.2.2.2.2.2) (fun r6 => jX3_passHours_L2 B_number B_lift B_leak K_number W_number W_windDx W_windDy W_dx W_dy W_wave W_counting u1 n r4.1 r5.1 r5.2.1 r2 r6.1 r6.2.1 r6.2.2.1 r5.2.2.1 r5.2.2.2 r6.2.2.2.1 r6.2.2.2.2.1 r6.2.2.2.2.2.1 r6.2.2.2.2.2.2.1 r6.2.2.2.2.2.2.2.1 r6.2.2.2.2.2.2.2.2.1 r6.2.2.2.2.2.2.2.2.2.1 r6.2.2.2.2.2.2.2.2.2.2 (v3_2 + 1)))))))))
def jX3_passHours (R_hour : Int32) (R_broken : Int32) (R_pieceLift : Nat → Int32) (R_pieceLoad : Nat → Int32) (B_number : Int32) (B_lift : Nat → Int32) (B_leak : Nat → Int32) (B_water : Nat → Int32) (B_goods : Nat → Int32) (B_people : Nat → Int32) (B_state : Nat → Int32) (B_x : Nat → Int32) (B_y : Nat → Int32) (B_piece : Nat → Int32) (K_number : Int32) (K_seat : Nat → Int32) (K_state : Nat → Int32) (Q_number : Int32) (Q_first : Nat → Int32) (Q_second : Nat → Int32) (Q_strength : Nat → Int32) (Q_wear : Nat → Int32) (W_number : Int32) (W_windDx : Int32) (W_windDy : Int32) (W_dx : Nat → Int32) (W_dy : Nat → Int32) (W_wave : Nat → Int32) (W_counting : Nat → Int32) (a1 : Int32) : Option (Int32 × Int32 × (Nat → Int32) × (Nat → Int32) × (Nat → Int32) × (Nat → Int32) × (Nat → Int32) × (Nat → Int32) × (Nat → Int32) × (Nat → Int32) × (Nat → Int32) × (Nat → Int32) × (Nat → Int32) × Int32 × (Nat → Int32) × (Nat → Int32) × (Nat → Int32) × (Nat → Int32)) :=
  bnd (jX3_passHours_L2 B_number B_lift B_leak K_number W_number W_windDx W_windDy W_dx W_dy W_wave W_counting a1 FU R_broken R_pieceLift R_pieceLoad B_water B_goods B_people B_state B_x B_y B_piece K_seat K_state Q_number Q_first Q_second Q_strength Q_wear 0) (fun r7 => some (R_hour + a1, r7.1, r7.2.1, r7.2.2.1, r7.2.2.2.1, r7.2.2.2.2.1, r7.2.2.2.2.2.1, r7.2.2.2.2.2.2.1, r7.2.2.2.2.2.2.2.1, r7.2.2.2.2.2.2.2.2.1, r7.2.2.2.2.2.2.2.2.2.1, r7.2.2.2.2.2.2.2.2.2.2.1, r7.2.2.2.2.2.2.2.2.2.2.2.1, r7.2.2.2.2.2.2.2.2.2.2.2.2.1, r7.2.2.2.2.2.2.2.2.2.2.2.2.2.1, r7.2.2.2.2.2.2.2.2.2.2.2.2.2.2.1, r7.2.2.2.2.2.2.2.2.2.2.2.2.2.2.2.1, r7.2.2.2.2.2.2.2.2.2.2.2.2.2.2.2.2))
set_option maxHeartbeats 4000000 in
set_option maxRecDepth 100000 in
theorem mt_X3_passHours (l : Launch) (D : va_G) (c : Nat → ClassId) (R : Nat → Nat) (B : Nat → Nat) (K : Nat → Nat) (Q : Nat → Nat) (W : Nat → Nat) (R_hour : Int32) (R_broken : Int32) (R_pieceLift : Nat → Int32) (R_pieceLoad : Nat → Int32) (B_number : Int32) (B_lift : Nat → Int32) (B_leak : Nat → Int32) (B_water : Nat → Int32) (B_goods : Nat → Int32) (B_people : Nat → Int32) (B_state : Nat → Int32) (B_x : Nat → Int32) (B_y : Nat → Int32) (B_piece : Nat → Int32) (K_number : Int32) (K_seat : Nat → Int32) (K_state : Nat → Int32) (Q_number : Int32) (Q_first : Nat → Int32) (Q_second : Nat → Int32) (Q_strength : Nat → Int32) (Q_wear : Nat → Int32) (W_number : Int32) (W_windDx : Int32) (W_windDy : Int32) (W_dx : Nat → Int32) (W_dy : Nat → Int32) (W_wave : Nat → Int32) (W_counting : Nat → Int32) (a1 : Int32) (q0 : Int32 × Int32 × (Nat → Int32) × (Nat → Int32) × (Nat → Int32) × (Nat → Int32) × (Nat → Int32) × (Nat → Int32) × (Nat → Int32) × (Nat → Int32) × (Nat → Int32) × (Nat → Int32) × (Nat → Int32) × Int32 × (Nat → Int32) × (Nat → Int32) × (Nat → Int32) × (Nat → Int32)) (h : jX3_passHours R_hour R_broken R_pieceLift R_pieceLoad B_number B_lift B_leak B_water B_goods B_people B_state B_x B_y B_piece K_number K_seat K_state Q_number Q_first Q_second Q_strength Q_wear W_number W_windDx W_windDy W_dx W_dy W_wave W_counting a1 = some q0) : DTv l yX3_passHours wsX3_passHours rmX3_passHours D c (wX3_passHours c R B K Q W R_hour R_broken R_pieceLift R_pieceLoad B_number B_lift B_leak B_water B_goods B_people B_state B_x B_y B_piece K_number K_seat K_state Q_number Q_first Q_second Q_strength Q_wear W_number W_windDx W_windDy W_dx W_dy W_wave W_counting) [.ref (R 0), .int a1, .ref (W 0)] (wX3_passHours c R B K Q W q0.1 q0.2.1 q0.2.2.1 q0.2.2.2.1 B_number B_lift B_leak q0.2.2.2.2.1 q0.2.2.2.2.2.1 q0.2.2.2.2.2.2.1 q0.2.2.2.2.2.2.2.1 q0.2.2.2.2.2.2.2.2.1 q0.2.2.2.2.2.2.2.2.2.1 q0.2.2.2.2.2.2.2.2.2.2.1 K_number q0.2.2.2.2.2.2.2.2.2.2.2.1 q0.2.2.2.2.2.2.2.2.2.2.2.2.1 q0.2.2.2.2.2.2.2.2.2.2.2.2.2.1 q0.2.2.2.2.2.2.2.2.2.2.2.2.2.2.1 q0.2.2.2.2.2.2.2.2.2.2.2.2.2.2.2.1 q0.2.2.2.2.2.2.2.2.2.2.2.2.2.2.2.2.1 q0.2.2.2.2.2.2.2.2.2.2.2.2.2.2.2.2.2 W_number W_windDx W_windDy W_dx W_dy W_wave W_counting) 0 0 := by
  refine DTv_of (cc := cX3_passHours) (nL := 4) RX3 rfl (by decide) rfl (Nat.le_of_ble_eq_true rfl) (fun g C ret => ?_)
  unfold jX3_passHours at h
  refine vv_lv [0, 1, 2] [(0, .ref (R 0)), (1, .int a1), (2, .ref (W 0))] rfl ?_
  refine vv_iconst C (v := 0) dX3_passHours_0 (by decide) 1 rfl ?_
  refine vv_istore_n C [(3, .int 0), (0, .ref (R 0)), (1, .int a1), (2, .ref (W 0))] dX3_passHours_1 rfl (by decide) rfl 2 rfl ?_
  refine vv_lv [1, 2, 3, 0] [(0, .ref (R 0)), (1, .int a1), (2, .ref (W 0)), (3, .int 0)] rfl ?_
  have L2 : ∀ (n : Nat) (R_broken_2 : Int32) (R_pieceLift_2 : Nat → Int32) (R_pieceLoad_2 : Nat → Int32) (B_water_2 : Nat → Int32) (B_goods_2 : Nat → Int32) (B_people_2 : Nat → Int32) (B_state_2 : Nat → Int32) (B_x_2 : Nat → Int32) (B_y_2 : Nat → Int32) (B_piece_2 : Nat → Int32) (K_seat_2 : Nat → Int32) (K_state_2 : Nat → Int32) (Q_number_2 : Int32) (Q_first_2 : Nat → Int32) (Q_second_2 : Nat → Int32) (Q_strength_2 : Nat → Int32) (Q_wear_2 : Nat → Int32) (v3_2 : Int32) (q2 : Int32 × (Nat → Int32) × (Nat → Int32) × (Nat → Int32) × (Nat → Int32) × (Nat → Int32) × (Nat → Int32) × (Nat → Int32) × (Nat → Int32) × (Nat → Int32) × (Nat → Int32) × (Nat → Int32) × Int32 × (Nat → Int32) × (Nat → Int32) × (Nat → Int32) × (Nat → Int32)), jX3_passHours_L2 B_number B_lift B_leak K_number W_number W_windDx W_windDy W_dx W_dy W_wave W_counting a1 n R_broken_2 R_pieceLift_2 R_pieceLoad_2 B_water_2 B_goods_2 B_people_2 B_state_2 B_x_2 B_y_2 B_piece_2 K_seat_2 K_state_2 Q_number_2 Q_first_2 Q_second_2 Q_strength_2 Q_wear_2 v3_2 = some q2 → (VV g D 4 0 0 (wX3_passHours c R B K Q W R_hour q2.1 q2.2.1 q2.2.2.1 B_number B_lift B_leak q2.2.2.2.1 q2.2.2.2.2.1 q2.2.2.2.2.2.1 q2.2.2.2.2.2.2.1 q2.2.2.2.2.2.2.2.1 q2.2.2.2.2.2.2.2.2.1 q2.2.2.2.2.2.2.2.2.2.1 K_number q2.2.2.2.2.2.2.2.2.2.2.1 q2.2.2.2.2.2.2.2.2.2.2.2.1 q2.2.2.2.2.2.2.2.2.2.2.2.2.1 q2.2.2.2.2.2.2.2.2.2.2.2.2.2.1 q2.2.2.2.2.2.2.2.2.2.2.2.2.2.2.1 q2.2.2.2.2.2.2.2.2.2.2.2.2.2.2.2.1 q2.2.2.2.2.2.2.2.2.2.2.2.2.2.2.2.2 W_number W_windDx W_windDy W_dx W_dy W_wave W_counting) [(0, .ref (R 0)), (1, .int a1)] 48 []) → VV g D 4 0 0 (wX3_passHours c R B K Q W R_hour R_broken_2 R_pieceLift_2 R_pieceLoad_2 B_number B_lift B_leak B_water_2 B_goods_2 B_people_2 B_state_2 B_x_2 B_y_2 B_piece_2 K_number K_seat_2 K_state_2 Q_number_2 Q_first_2 Q_second_2 Q_strength_2 Q_wear_2 W_number W_windDx W_windDy W_dx W_dy W_wave W_counting) [(0, .ref (R 0)), (1, .int a1), (2, .ref (W 0)), (3, .int v3_2)] 2 [] := by
    intro n
    induction n with
    | zero =>
      intro R_broken_2 R_pieceLift_2 R_pieceLoad_2 B_water_2 B_goods_2 B_people_2 B_state_2 B_x_2 B_y_2 B_piece_2 K_seat_2 K_state_2 Q_number_2 Q_first_2 Q_second_2 Q_strength_2 Q_wear_2 v3_2 q2 h _
      rw [jX3_passHours_L2] at h
      cases h
    | succ n ih2 =>
      intro R_broken_2 R_pieceLift_2 R_pieceLoad_2 B_water_2 B_goods_2 B_people_2 B_state_2 B_x_2 B_y_2 B_piece_2 K_seat_2 K_state_2 Q_number_2 Q_first_2 Q_second_2 Q_strength_2 Q_wear_2 v3_2 q2 h kk2
      rw [jX3_passHours_L2] at h
      refine vv_iload_n C dX3_passHours_2 rfl 3 rfl 3 rfl ?_
      refine vv_iload_n C dX3_passHours_3 rfl 1 rfl 4 rfl ?_
      refine vv_icmp_ge C 48 7 dX3_passHours_4 (by decide) rfl (fun hc => ?_) (fun hc => ?_)
      · replace h := ite_t hc h
        refine vv_lv [0, 1] [(0, .ref (R 0)), (1, .int a1)] rfl ?_
        obtain rfl := Option.some.inj h
        exact kk2
      · replace h := ite_f hc h
        refine vv_aload_n C dX3_passHours_7 rfl 0 rfl 8 rfl ?_
        refine vv_get C (q0 := 0) (ci := 3) (k := 0) kinX3_passHours_X3 rfl rfl (by decide) kwX3_passHours_1 rfl rfl dX3_passHours_8 11 rfl ?_
        obtain ⟨r1, hr1, h⟩ := bnd_s h
        refine vv_callVi C (fun l => mt_X0_firstAfloat l D c B B_number B_state_2 r1 hr1) gX3_passHours_X0_firstAfloat rfl rfl rfl yd_X0_firstAfloat ⟨Nat.le_of_ble_eq_true rfl, Nat.le_of_ble_eq_true rfl⟩ [3, 9] rfl (by decide) 0 rfl rfl (wX3_passHours c R B K Q W R_hour R_broken_2 R_pieceLift_2 R_pieceLoad_2 B_number B_lift B_leak B_water_2 B_goods_2 B_people_2 B_state_2 B_x_2 B_y_2 B_piece_2 K_number K_seat_2 K_state_2 Q_number_2 Q_first_2 Q_second_2 Q_strength_2 Q_wear_2 W_number W_windDx W_windDy W_dx W_dy W_wave W_counting) [(false, 0), (false, 1), (false, 2), (true, 0), (false, 4), (false, 5), (false, 6), (false, 7), (false, 8), (true, 1), (false, 10), (false, 11), (false, 12), (false, 13), (false, 14), (false, 15), (false, 16), (false, 17), (false, 18), (false, 19), (false, 20), (false, 21), (false, 22), (false, 23), (false, 24), (false, 25)] rfl (by decide) rfl rfl [] rfl (Nat.le_of_ble_eq_true rfl) ⟨Nat.le_of_ble_eq_true rfl, Nat.le_of_ble_eq_true rfl⟩ dX3_passHours_11 14 0 0 rfl ⟨rfl, rfl⟩ ?_
        refine vv_if_lt C 48 17 dX3_passHours_14 (by decide) rfl (fun hc => ?_) (fun hc => ?_)
        · replace h := ite_t hc h
          refine vv_lv [0, 1] [(0, .ref (R 0)), (1, .int a1)] rfl ?_
          obtain rfl := Option.some.inj h
          exact kk2
        · replace h := ite_f hc h
          refine vv_aload_n C dX3_passHours_17 rfl 0 rfl 18 rfl ?_
          refine vv_get C (q0 := 0) (ci := 3) (k := 0) kinX3_passHours_X3 rfl rfl (by decide) kwX3_passHours_1 rfl rfl dX3_passHours_18 21 rfl ?_
          obtain ⟨r2, hr2, h⟩ := bnd_s h
          refine vv_callVv C (fun l => mt_X0_takeInWater l D c B B_number B_leak B_water_2 B_state_2 r2 hr2) gX3_passHours_X0_takeInWater rfl rfl rfl yd_X0_takeInWater ⟨Nat.le_of_ble_eq_true rfl, Nat.le_of_ble_eq_true rfl⟩ [3, 5, 6, 9] rfl (by decide) 0 rfl rfl (wX3_passHours c R B K Q W R_hour R_broken_2 R_pieceLift_2 R_pieceLoad_2 B_number B_lift B_leak r2 B_goods_2 B_people_2 B_state_2 B_x_2 B_y_2 B_piece_2 K_number K_seat_2 K_state_2 Q_number_2 Q_first_2 Q_second_2 Q_strength_2 Q_wear_2 W_number W_windDx W_windDy W_dx W_dy W_wave W_counting) [(false, 0), (false, 1), (false, 2), (true, 0), (false, 4), (true, 1), (true, 2), (false, 7), (false, 8), (true, 3), (false, 10), (false, 11), (false, 12), (false, 13), (false, 14), (false, 15), (false, 16), (false, 17), (false, 18), (false, 19), (false, 20), (false, 21), (false, 22), (false, 23), (false, 24), (false, 25)] rfl (by decide) rfl rfl [] rfl (Nat.le_of_ble_eq_true rfl) ⟨Nat.le_of_ble_eq_true rfl, Nat.le_of_ble_eq_true rfl⟩ dX3_passHours_21 24 0 0 rfl ⟨rfl, rfl⟩ ?_
          refine vv_aload_n C dX3_passHours_24 rfl 0 rfl 25 rfl ?_
          obtain ⟨r3, hr3, h⟩ := bnd_s h
          refine vv_callVv C (fun l => mt_X3_loseOverloaded l D c R B K Q R_hour R_broken_2 R_pieceLift_2 R_pieceLoad_2 B_number B_lift r2 B_goods_2 B_people_2 B_state_2 B_piece_2 K_number K_seat_2 K_state_2 Q_number_2 Q_first_2 Q_second_2 Q_strength_2 Q_wear_2 r3 hr3) gX3_passHours_X3_loseOverloaded rfl rfl rfl yd_X3_loseOverloaded ⟨Nat.le_of_ble_eq_true rfl, Nat.le_of_ble_eq_true rfl⟩ [0, 1, 2, 3, 4, 6, 7, 8, 9, 12, 13, 14, 15, 16, 17, 18, 19, 20] rfl (by decide) 0 rfl rfl (wX3_passHours c R B K Q W R_hour R_broken_2 r3.1 r3.2.1 B_number B_lift B_leak r2 r3.2.2.1 r3.2.2.2.1 r3.2.2.2.2.1 B_x_2 B_y_2 r3.2.2.2.2.2.1 K_number r3.2.2.2.2.2.2.1 r3.2.2.2.2.2.2.2.1 r3.2.2.2.2.2.2.2.2.1 r3.2.2.2.2.2.2.2.2.2.1 r3.2.2.2.2.2.2.2.2.2.2.1 r3.2.2.2.2.2.2.2.2.2.2.2.1 r3.2.2.2.2.2.2.2.2.2.2.2.2 W_number W_windDx W_windDy W_dx W_dy W_wave W_counting) [(true, 0), (true, 1), (true, 2), (true, 3), (true, 4), (false, 5), (true, 5), (true, 6), (true, 7), (true, 8), (false, 10), (false, 11), (true, 9), (true, 10), (true, 11), (true, 12), (true, 13), (true, 14), (true, 15), (true, 16), (true, 17), (false, 21), (false, 22), (false, 23), (false, 24), (false, 25)] rfl (by decide) rfl rfl [] rfl (Nat.le_of_ble_eq_true rfl) ⟨Nat.le_of_ble_eq_true rfl, Nat.le_of_ble_eq_true rfl⟩ dX3_passHours_25 28 0 0 rfl ⟨rfl, rfl⟩ ?_
          refine vv_aload_n C dX3_passHours_28 rfl 0 rfl 29 rfl ?_
          refine vv_aload_n C dX3_passHours_29 rfl 2 rfl 30 rfl ?_
          obtain ⟨r4, hr4, h⟩ := bnd_s h
          refine vv_callVv C (fun l => mt_X3_wearLashings l D c R B K Q W R_hour R_broken_2 B_number r3.2.2.1 r3.2.2.2.1 r3.2.2.2.2.1 B_x_2 B_y_2 r3.2.2.2.2.2.1 r3.2.2.2.2.2.2.2.2.1 r3.2.2.2.2.2.2.2.2.2.1 r3.2.2.2.2.2.2.2.2.2.2.1 r3.2.2.2.2.2.2.2.2.2.2.2.1 r3.2.2.2.2.2.2.2.2.2.2.2.2 W_number W_windDx W_windDy W_wave W_counting r4 hr4) gX3_passHours_X3_wearLashings rfl rfl rfl yd_X3_wearLashings ⟨Nat.le_of_ble_eq_true rfl, Nat.le_of_ble_eq_true rfl⟩ [0, 3, 7, 8, 9, 10, 11, 12, 16, 17, 18, 19, 20, 21, 24, 25] rfl (by decide) 0 rfl rfl (wX3_passHours c R B K Q W R_hour r4.1 r3.1 r3.2.1 B_number B_lift B_leak r2 r3.2.2.1 r3.2.2.2.1 r3.2.2.2.2.1 B_x_2 B_y_2 r4.2.1 K_number r3.2.2.2.2.2.2.1 r3.2.2.2.2.2.2.2.1 r4.2.2.1 r4.2.2.2.1 r4.2.2.2.2.1 r4.2.2.2.2.2.1 r4.2.2.2.2.2.2 W_number W_windDx W_windDy W_dx W_dy W_wave W_counting) [(true, 0), (false, 1), (false, 2), (true, 1), (false, 4), (false, 5), (false, 6), (true, 2), (true, 3), (true, 4), (true, 5), (true, 6), (true, 7), (false, 13), (false, 14), (false, 15), (true, 8), (true, 9), (true, 10), (true, 11), (true, 12), (true, 13), (false, 22), (false, 23), (true, 14), (true, 15)] rfl (by decide) rfl rfl [] rfl (Nat.le_of_ble_eq_true rfl) ⟨Nat.le_of_ble_eq_true rfl, Nat.le_of_ble_eq_true rfl⟩ dX3_passHours_30 33 0 0 rfl ⟨rfl, rfl⟩ ?_
          refine vv_aload_n C dX3_passHours_33 rfl 0 rfl 34 rfl ?_
          refine vv_aload_n C dX3_passHours_34 rfl 2 rfl 35 rfl ?_
          obtain ⟨r5, hr5, h⟩ := bnd_s h
          refine vv_callVv C (fun l => mt_X3_drift l D c R B K Q W R_hour r4.1 r3.1 r3.2.1 B_number B_lift r2 r3.2.2.1 r3.2.2.2.1 B_x_2 B_y_2 r4.2.1 W_number W_windDx W_windDy W_dx W_dy W_counting r5 hr5) gX3_passHours_X3_drift rfl rfl rfl yd_X3_drift ⟨Nat.le_of_ble_eq_true rfl, Nat.le_of_ble_eq_true rfl⟩ [0, 1, 2, 3, 4, 6, 7, 8, 10, 11, 12, 21, 22, 23, 25] rfl (by decide) 0 rfl rfl (wX3_passHours c R B K Q W R_hour r4.1 r5.1 r5.2.1 B_number B_lift B_leak r2 r3.2.2.1 r3.2.2.2.1 r3.2.2.2.2.1 r5.2.2.1 r5.2.2.2 r4.2.1 K_number r3.2.2.2.2.2.2.1 r3.2.2.2.2.2.2.2.1 r4.2.2.1 r4.2.2.2.1 r4.2.2.2.2.1 r4.2.2.2.2.2.1 r4.2.2.2.2.2.2 W_number W_windDx W_windDy W_dx W_dy W_wave W_counting) [(true, 0), (true, 1), (true, 2), (true, 3), (true, 4), (false, 5), (true, 5), (true, 6), (true, 7), (false, 9), (true, 8), (true, 9), (true, 10), (false, 13), (false, 14), (false, 15), (false, 16), (false, 17), (false, 18), (false, 19), (false, 20), (true, 11), (true, 12), (true, 13), (false, 24), (true, 14)] rfl (by decide) rfl rfl [] rfl (Nat.le_of_ble_eq_true rfl) ⟨Nat.le_of_ble_eq_true rfl, Nat.le_of_ble_eq_true rfl⟩ dX3_passHours_35 38 0 0 rfl ⟨rfl, rfl⟩ ?_
          refine vv_aload_n C dX3_passHours_38 rfl 0 rfl 39 rfl ?_
          obtain ⟨r6, hr6, h⟩ := bnd_s h
          refine vv_callVv C (fun l => mt_X3_saveAshore l D c R B K Q R_hour r4.1 B_number r3.2.2.1 r3.2.2.2.1 r3.2.2.2.2.1 r5.2.2.1 r4.2.1 K_number r3.2.2.2.2.2.2.1 r3.2.2.2.2.2.2.2.1 r4.2.2.1 r4.2.2.2.1 r4.2.2.2.2.1 r4.2.2.2.2.2.1 r4.2.2.2.2.2.2 r6 hr6) gX3_passHours_X3_saveAshore rfl rfl rfl yd_X3_saveAshore ⟨Nat.le_of_ble_eq_true rfl, Nat.le_of_ble_eq_true rfl⟩ [0, 3, 7, 8, 9, 10, 12, 13, 14, 15, 16, 17, 18, 19, 20] rfl (by decide) 0 rfl rfl (wX3_passHours c R B K Q W R_hour r4.1 r5.1 r5.2.1 B_number B_lift B_leak r2 r6.1 r6.2.1 r6.2.2.1 r5.2.2.1 r5.2.2.2 r6.2.2.2.1 K_number r6.2.2.2.2.1 r6.2.2.2.2.2.1 r6.2.2.2.2.2.2.1 r6.2.2.2.2.2.2.2.1 r6.2.2.2.2.2.2.2.2.1 r6.2.2.2.2.2.2.2.2.2.1 r6.2.2.2.2.2.2.2.2.2.2 W_number W_windDx W_windDy W_dx W_dy W_wave W_counting) [(true, 0), (false, 1), (false, 2), (true, 1), (false, 4), (false, 5), (false, 6), (true, 2), (true, 3), (true, 4), (true, 5), (false, 11), (true, 6), (true, 7), (true, 8), (true, 9), (true, 10), (true, 11), (true, 12), (true, 13), (true, 14), (false, 21), (false, 22), (false, 23), (false, 24), (false, 25)] rfl (by decide) rfl rfl [] rfl (Nat.le_of_ble_eq_true rfl) ⟨Nat.le_of_ble_eq_true rfl, Nat.le_of_ble_eq_true rfl⟩ dX3_passHours_39 42 0 0 rfl ⟨rfl, rfl⟩ ?_
          refine vv_iinc C (k := 3) [(3, .int (v3_2 + 1)), (0, .ref (R 0)), (1, .int a1), (2, .ref (W 0))] dX3_passHours_42 rfl rfl (by decide) rfl 45 rfl ?_
          refine vv_goto C 2 dX3_passHours_45 (by decide) ?_
          refine vv_lv [1, 2, 3, 0] [(0, .ref (R 0)), (1, .int a1), (2, .ref (W 0)), (3, .int (v3_2 + 1))] rfl ?_
          exact ih2 r4.1 r5.1 r5.2.1 r2 r6.1 r6.2.1 r6.2.2.1 r5.2.2.1 r5.2.2.2 r6.2.2.2.1 r6.2.2.2.2.1 r6.2.2.2.2.2.1 r6.2.2.2.2.2.2.1 r6.2.2.2.2.2.2.2.1 r6.2.2.2.2.2.2.2.2.1 r6.2.2.2.2.2.2.2.2.2.1 r6.2.2.2.2.2.2.2.2.2.2 (v3_2 + 1) _ h kk2
  obtain ⟨r7, hr7, h⟩ := bnd_s h
  refine L2 FU R_broken R_pieceLift R_pieceLoad B_water B_goods B_people B_state B_x B_y B_piece K_seat K_state Q_number Q_first Q_second Q_strength Q_wear 0 r7 hr7 ?_
  refine vv_aload_n C dX3_passHours_48 rfl 0 rfl 49 rfl ?_
  refine vv_dup C dX3_passHours_49 rfl 50 rfl ?_
  refine vv_get C (q0 := 0) (ci := 3) (k := 5) kinX3_passHours_X3 rfl rfl (by decide) kwX3_passHours_2 rfl rfl dX3_passHours_50 53 rfl ?_
  refine vv_iload_n C dX3_passHours_53 rfl 1 rfl 54 rfl ?_
  refine vv_iadd C dX3_passHours_54 55 rfl ?_
  refine vv_put C (q0 := 0) (ci := 3) (k := 5) (ty := .int) (wX3_passHours c R B K Q W (R_hour + a1) r7.1 r7.2.1 r7.2.2.1 B_number B_lift B_leak r7.2.2.2.1 r7.2.2.2.2.1 r7.2.2.2.2.2.1 r7.2.2.2.2.2.2.1 r7.2.2.2.2.2.2.2.1 r7.2.2.2.2.2.2.2.2.1 r7.2.2.2.2.2.2.2.2.2.1 K_number r7.2.2.2.2.2.2.2.2.2.2.1 r7.2.2.2.2.2.2.2.2.2.2.2.1 r7.2.2.2.2.2.2.2.2.2.2.2.2.1 r7.2.2.2.2.2.2.2.2.2.2.2.2.2.1 r7.2.2.2.2.2.2.2.2.2.2.2.2.2.2.1 r7.2.2.2.2.2.2.2.2.2.2.2.2.2.2.2.1 r7.2.2.2.2.2.2.2.2.2.2.2.2.2.2.2.2 W_number W_windDx W_windDy W_dx W_dy W_wave W_counting) tyX3 tyX3_ok nmX3 kinX3_passHours_X3 rfl rfl (by decide) kwX3_passHours_2 rfl rfl rfl rfl rfl (Nat.le_of_ble_eq_true rfl) rfl dX3_passHours_55 58 rfl ?_
  obtain rfl := Option.some.inj h
  exact ret _ _ dX3_passHours_58
