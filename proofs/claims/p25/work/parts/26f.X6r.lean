abbrev wX6_isBelow (c : Nat → ClassId)  : va_W := []
abbrev rmX6_isBelow : Room := { frames := 0, cells := 0, slots := 0, locals := 0 }
theorem yd_X6_isBelow : yX6_isBelow.cls ≠ "java/lang/invoke/MethodHandle" ∧ yX6_isBelow.cls ≠ "java/lang/invoke/VarHandle" ∧ (parseMethodDescriptor yX6_isBelow.desc).map (fun d => d.parameters.length) = some 2 := by decide +kernel
def jX6_isBelow (a1 : Int32) (a2 : Int32) : Option (Int32) :=
  (if a1 < 0 then chkZ 0 (some 0) else (if a2 ≤ a1 then chkZ 0 (some 0) else chkZ 1 (some 1)))
set_option maxHeartbeats 4000000 in
set_option maxRecDepth 100000 in
theorem mt_X6_isBelow (l : Launch) (D : va_G) (c : Nat → ClassId) (a1 : Int32) (a2 : Int32) (q0 : Int32) (h : jX6_isBelow a1 a2 = some q0) : DTi l yX6_isBelow wsX6_isBelow rmX6_isBelow D c (wX6_isBelow c ) [.int a1, .int a2] q0 (wX6_isBelow c ) 0 0 := by
  refine DTz_of (cc := cX6_isBelow) (nL := 2) RX6 rfl (by decide) rfl (Nat.le_of_ble_eq_true rfl) (fun g C ret => ?_)
  unfold jX6_isBelow at h
  refine vv_lv [0, 1] [(0, .int a1), (1, .int a2)] rfl ?_
  refine vv_iload_n C dX6_isBelow_0 rfl 0 rfl 1 rfl ?_
  refine vv_if_lt C 13 4 dX6_isBelow_1 (by decide) rfl (fun hc => ?_) (fun hc => ?_)
  · replace h := ite_t hc h
    refine vv_iconst C (v := 0) dX6_isBelow_13 (by decide) 14 rfl ?_
    obtain ⟨hz, h⟩ := chkZ_s h
    obtain rfl := Option.some.inj h
    exact ret _ _ hz dX6_isBelow_14
  · replace h := ite_f hc h
    refine vv_iload_n C dX6_isBelow_4 rfl 0 rfl 5 rfl ?_
    refine vv_iload_n C dX6_isBelow_5 rfl 1 rfl 6 rfl ?_
    refine vv_icmp_ge C 13 9 dX6_isBelow_6 (by decide) rfl (fun hc => ?_) (fun hc => ?_)
    · replace h := ite_t hc h
      refine vv_iconst C (v := 0) dX6_isBelow_13 (by decide) 14 rfl ?_
      obtain ⟨hz, h⟩ := chkZ_s h
      obtain rfl := Option.some.inj h
      exact ret _ _ hz dX6_isBelow_14
    · replace h := ite_f hc h
      refine vv_iconst C (v := 1) dX6_isBelow_9 (by decide) 10 rfl ?_
      refine vv_goto C 14 dX6_isBelow_10 (by decide) ?_
      obtain ⟨hz, h⟩ := chkZ_s h
      obtain rfl := Option.some.inj h
      exact ret _ _ hz dX6_isBelow_14
abbrev wX6_isFlow (c : Nat → ClassId)  : va_W := []
abbrev rmX6_isFlow : Room := { frames := 0, cells := 0, slots := 0, locals := 0 }
theorem yd_X6_isFlow : yX6_isFlow.cls ≠ "java/lang/invoke/MethodHandle" ∧ yX6_isFlow.cls ≠ "java/lang/invoke/VarHandle" ∧ (parseMethodDescriptor yX6_isFlow.desc).map (fun d => d.parameters.length) = some 1 := by decide +kernel
def jX6_isFlow (a1 : Int32) : Option (Int32) :=
  (if a1 < (-2) then chkZ 0 (some 0) else (if 2 < a1 then chkZ 0 (some 0) else chkZ 1 (some 1)))
set_option maxHeartbeats 4000000 in
set_option maxRecDepth 100000 in
theorem mt_X6_isFlow (l : Launch) (D : va_G) (c : Nat → ClassId) (a1 : Int32) (q0 : Int32) (h : jX6_isFlow a1 = some q0) : DTi l yX6_isFlow wsX6_isFlow rmX6_isFlow D c (wX6_isFlow c ) [.int a1] q0 (wX6_isFlow c ) 0 0 := by
  refine DTz_of (cc := cX6_isFlow) (nL := 1) RX6 rfl (by decide) rfl (Nat.le_of_ble_eq_true rfl) (fun g C ret => ?_)
  unfold jX6_isFlow at h
  refine vv_lv [0] [(0, .int a1)] rfl ?_
  refine vv_iload_n C dX6_isFlow_0 rfl 0 rfl 1 rfl ?_
  refine vv_bipush C (v := (-2)) dX6_isFlow_1 (by decide) 3 rfl ?_
  refine vv_icmp_lt C 15 6 dX6_isFlow_3 (by decide) rfl (fun hc => ?_) (fun hc => ?_)
  · replace h := ite_t hc h
    refine vv_iconst C (v := 0) dX6_isFlow_15 (by decide) 16 rfl ?_
    obtain ⟨hz, h⟩ := chkZ_s h
    obtain rfl := Option.some.inj h
    exact ret _ _ hz dX6_isFlow_16
  · replace h := ite_f hc h
    refine vv_iload_n C dX6_isFlow_6 rfl 0 rfl 7 rfl ?_
    refine vv_iconst C (v := 2) dX6_isFlow_7 (by decide) 8 rfl ?_
    refine vv_icmp_gt C 15 11 dX6_isFlow_8 (by decide) rfl (fun hc => ?_) (fun hc => ?_)
    · replace h := ite_t hc h
      refine vv_iconst C (v := 0) dX6_isFlow_15 (by decide) 16 rfl ?_
      obtain ⟨hz, h⟩ := chkZ_s h
      obtain rfl := Option.some.inj h
      exact ret _ _ hz dX6_isFlow_16
    · replace h := ite_f hc h
      refine vv_iconst C (v := 1) dX6_isFlow_11 (by decide) 12 rfl ?_
      refine vv_goto C 16 dX6_isFlow_12 (by decide) ?_
      obtain ⟨hz, h⟩ := chkZ_s h
      obtain rfl := Option.some.inj h
      exact ret _ _ hz dX6_isFlow_16
abbrev wX6_barrelFact (c : Nat → ClassId) (X : Nat → Nat) (W : Nat → Nat) (R : Nat → Nat) (B : Nat → Nat) (K : Nat → Nat) (Q : Nat → Nat) (T : Nat → Nat) (Y : Nat → Nat) (X_ropes : Int32) (R_hour : Int32) (R_broken : Int32) (B_number : Int32) (B_column : Nat → Int32) (B_row : Nat → Int32) (B_lift : Nat → Int32) (B_leak : Nat → Int32) (B_water : Nat → Int32) (B_goods : Nat → Int32) (B_people : Nat → Int32) (B_state : Nat → Int32) (B_x : Nat → Int32) (B_y : Nat → Int32) (B_piece : Nat → Int32) (Q_number : Int32) (Q_first : Nat → Int32) (Q_second : Nat → Int32) : va_W := [(X 0, .inr (6, [.ref (W 0), .ref (R 0), .ref (T 0), .ref (Y 0), .int X_ropes])), (R 0, .inr (3, [.ref (B 0), .ref (K 0), .ref (Q 0), .ref (R 1), .ref (R 2), .int R_hour, .int R_broken])), (B 0, .inr (0, [.ref (B 1), .ref (B 2), .ref (B 3), .ref (B 4), .ref (B 5), .ref (B 6), .ref (B 7), .ref (B 8), .ref (B 9), .ref (B 10), .ref (B 11), .int B_number])), aI c (B 1) 24 B_column, aI c (B 2) 24 B_row, aI c (B 3) 24 B_lift, aI c (B 4) 24 B_leak, aI c (B 5) 24 B_water, aI c (B 6) 24 B_goods, aI c (B 7) 24 B_people, aI c (B 8) 24 B_state, aI c (B 9) 24 B_x, aI c (B 10) 24 B_y, aI c (B 11) 24 B_piece, (Q 0, .inr (2, [.ref (Q 1), .ref (Q 2), .ref (Q 3), .ref (Q 4), .int Q_number])), aI c (Q 1) 48 Q_first, aI c (Q 2) 48 Q_second]
abbrev rmX6_barrelFact : Room := { frames := 1, cells := 0, slots := 0, locals := 23 }
theorem yd_X6_barrelFact : yX6_barrelFact.cls = RX6 ∧ yX6_barrelFact.cls ≠ "java/lang/invoke/MethodHandle" ∧ yX6_barrelFact.cls ≠ "java/lang/invoke/VarHandle" ∧ (parseMethodDescriptor yX6_barrelFact.desc).map (fun d => d.parameters.length) = some 2 := by decide +kernel
theorem kwX6_barrelFact_1 : Cond.fieldLink RX6 19 "BarrelRaft" "raft" "LBarrelRaft$Raft;" ∈ wsX6_barrelFact := List.mem_of_getElem? (i := 1) rfl
set_option maxRecDepth 20000 in
theorem kinX6_barrelFact_X6 : ∀ w ∈ u_ws RX6 TX6 5, w ∈ wsX6_barrelFact := by decide +kernel
theorem kwX6_barrelFact_2 : Cond.fieldLink RX6 94 "BarrelRaft$Raft" "barrels" "LBarrelRaft$Barrels;" ∈ wsX6_barrelFact := List.mem_of_getElem? (i := 2) rfl
set_option maxRecDepth 20000 in
theorem kinX6_barrelFact_X3 : ∀ w ∈ u_ws RX3 TX3 7, w ∈ wsX6_barrelFact := by decide +kernel
theorem kwX6_barrelFact_3 : Cond.fieldLink RX6 291 "BarrelRaft$Barrels" "column" "[I" ∈ wsX6_barrelFact := List.mem_of_getElem? (i := 3) rfl
set_option maxRecDepth 20000 in
theorem kinX6_barrelFact_X0 : ∀ w ∈ u_ws RX0 TX0 12, w ∈ wsX6_barrelFact := by decide +kernel
theorem kwX6_barrelFact_4 : Cond.fieldLink RX6 294 "BarrelRaft$Barrels" "row" "[I" ∈ wsX6_barrelFact := List.mem_of_getElem? (i := 4) rfl
theorem kwX6_barrelFact_5 : Cond.fieldLink RX6 297 "BarrelRaft$Barrels" "lift" "[I" ∈ wsX6_barrelFact := List.mem_of_getElem? (i := 5) rfl
theorem kwX6_barrelFact_6 : Cond.fieldLink RX6 300 "BarrelRaft$Barrels" "leak" "[I" ∈ wsX6_barrelFact := List.mem_of_getElem? (i := 6) rfl
theorem kwX6_barrelFact_7 : Cond.fieldLink RX6 221 "BarrelRaft$Barrels" "water" "[I" ∈ wsX6_barrelFact := List.mem_of_getElem? (i := 7) rfl
theorem kwX6_barrelFact_8 : Cond.fieldLink RX6 176 "BarrelRaft$Barrels" "goods" "[I" ∈ wsX6_barrelFact := List.mem_of_getElem? (i := 8) rfl
theorem kwX6_barrelFact_9 : Cond.fieldLink RX6 303 "BarrelRaft$Barrels" "state" "[I" ∈ wsX6_barrelFact := List.mem_of_getElem? (i := 9) rfl
theorem kwX6_barrelFact_10 : Cond.fieldLink RX6 250 "BarrelRaft$Barrels" "piece" "[I" ∈ wsX6_barrelFact := List.mem_of_getElem? (i := 10) rfl
theorem kwX6_barrelFact_11 : Cond.fieldLink RX6 306 "BarrelRaft$Barrels" "x" "[I" ∈ wsX6_barrelFact := List.mem_of_getElem? (i := 11) rfl
theorem kwX6_barrelFact_12 : Cond.fieldLink RX6 309 "BarrelRaft$Barrels" "y" "[I" ∈ wsX6_barrelFact := List.mem_of_getElem? (i := 12) rfl
theorem kwX6_barrelFact_13 : Cond.fieldLink RX6 136 "BarrelRaft$Raft" "lashings" "LBarrelRaft$Lashings;" ∈ wsX6_barrelFact := List.mem_of_getElem? (i := 13) rfl
def jX6_barrelFact (B_column : Nat → Int32) (B_row : Nat → Int32) (B_lift : Nat → Int32) (B_leak : Nat → Int32) (B_water : Nat → Int32) (B_goods : Nat → Int32) (B_people : Nat → Int32) (B_state : Nat → Int32) (B_x : Nat → Int32) (B_y : Nat → Int32) (B_piece : Nat → Int32) (Q_number : Int32) (Q_first : Nat → Int32) (Q_second : Nat → Int32) (a1 : Int32) (a2 : Int32) : Option (Int32) :=
  (if a2 = 0 then chk 24 a1 (some (rd B_column a1)) else (if a2 = 1 then chk 24 a1 (some (rd B_row a1)) else (if a2 = 2 then chk 24 a1 (some (rd B_lift a1)) else (if a2 = 3 then chk 24 a1 (some (rd B_leak a1)) else (if a2 = 4 then chk 24 a1 (some (rd B_water a1)) else (if a2 = 5 then chk 24 a1 (some (rd B_goods a1)) else (if a2 = 6 then chk 24 a1 (some (rd B_state a1)) else (if a2 = 7 then chk 24 a1 (some (rd B_piece a1)) else (if a2 = 8 then chk 24 a1 (some (rd B_x a1)) else (if a2 = 9 then chk 24 a1 (some (rd B_y a1)) else (if a2 = 10 then bnd (jX2_countAt Q_number Q_first Q_second a1) (fun r1 => some r1) else (if a2 = 11 then bnd (jX0_liftNow B_lift B_water a1) (fun r2 => some r2) else bnd (jX0_loadOf B_goods B_people a1) (fun r3 => some r3)))))))))))))
set_option maxHeartbeats 4000000 in
set_option maxRecDepth 100000 in
theorem mt_X6_barrelFact (l : Launch) (D : va_G) (c : Nat → ClassId) (X : Nat → Nat) (W : Nat → Nat) (R : Nat → Nat) (B : Nat → Nat) (K : Nat → Nat) (Q : Nat → Nat) (T : Nat → Nat) (Y : Nat → Nat) (X_ropes : Int32) (R_hour : Int32) (R_broken : Int32) (B_number : Int32) (B_column : Nat → Int32) (B_row : Nat → Int32) (B_lift : Nat → Int32) (B_leak : Nat → Int32) (B_water : Nat → Int32) (B_goods : Nat → Int32) (B_people : Nat → Int32) (B_state : Nat → Int32) (B_x : Nat → Int32) (B_y : Nat → Int32) (B_piece : Nat → Int32) (Q_number : Int32) (Q_first : Nat → Int32) (Q_second : Nat → Int32) (a1 : Int32) (a2 : Int32) (q0 : Int32) (h : jX6_barrelFact B_column B_row B_lift B_leak B_water B_goods B_people B_state B_x B_y B_piece Q_number Q_first Q_second a1 a2 = some q0) : DTi l yX6_barrelFact wsX6_barrelFact rmX6_barrelFact D c (wX6_barrelFact c X W R B K Q T Y X_ropes R_hour R_broken B_number B_column B_row B_lift B_leak B_water B_goods B_people B_state B_x B_y B_piece Q_number Q_first Q_second) [.ref (X 0), .int a1, .int a2] q0 (wX6_barrelFact c X W R B K Q T Y X_ropes R_hour R_broken B_number B_column B_row B_lift B_leak B_water B_goods B_people B_state B_x B_y B_piece Q_number Q_first Q_second) 0 0 := by
  refine DTi_of (cc := cX6_barrelFact) (nL := 4) RX6 rfl (by decide) rfl (Nat.le_of_ble_eq_true rfl) (fun g C ret => ?_)
  unfold jX6_barrelFact at h
  refine vv_lv [0, 1, 2] [(0, .ref (X 0)), (1, .int a1), (2, .int a2)] rfl ?_
  refine vv_aload_n C dX6_barrelFact_0 rfl 0 rfl 1 rfl ?_
  refine vv_get C (q0 := 0) (ci := 6) (k := 1) kinX6_barrelFact_X6 rfl rfl (by decide) kwX6_barrelFact_1 rfl rfl dX6_barrelFact_1 4 rfl ?_
  refine vv_get C (q0 := 1) (ci := 3) (k := 0) kinX6_barrelFact_X3 rfl rfl (by decide) kwX6_barrelFact_2 rfl rfl dX6_barrelFact_4 7 rfl ?_
  refine vv_astore_n C [(3, .ref (B 0)), (0, .ref (X 0)), (1, .int a1), (2, .int a2)] dX6_barrelFact_7 rfl (by decide) rfl 8 rfl ?_
  refine vv_iload_n C dX6_barrelFact_8 rfl 3 rfl 9 rfl ?_
  by_cases hn0 : a2 = 0
  · replace h := ite_t hn0 h
    refine vv_swIn C (off := 63) 72 dX6_barrelFact_9 (by rw [hn0]; decide) (by rw [hn0]; decide) (by rw [hn0]; rfl) (by decide) ?_
    refine vv_aload_n C dX6_barrelFact_72 rfl 0 rfl 73 rfl ?_
    refine vv_get C (q0 := 2) (ci := 0) (k := 0) kinX6_barrelFact_X0 rfl rfl (by decide) kwX6_barrelFact_3 rfl rfl dX6_barrelFact_73 76 rfl ?_
    refine vv_iload_n C dX6_barrelFact_76 rfl 2 rfl 77 rfl ?_
    obtain ⟨hi, h⟩ := chk_s h
    refine vv_iald C (q0 := 3) rfl hi dX6_barrelFact_77 78 rfl ?_
    obtain rfl := Option.some.inj h
    exact ret _ _ dX6_barrelFact_78
  · replace h := ite_f hn0 h
    by_cases hn1 : a2 = 1
    · replace h := ite_t hn1 h
      refine vv_swIn C (off := 70) 79 dX6_barrelFact_9 (by rw [hn1]; decide) (by rw [hn1]; decide) (by rw [hn1]; rfl) (by decide) ?_
      refine vv_aload_n C dX6_barrelFact_79 rfl 0 rfl 80 rfl ?_
      refine vv_get C (q0 := 2) (ci := 0) (k := 1) kinX6_barrelFact_X0 rfl rfl (by decide) kwX6_barrelFact_4 rfl rfl dX6_barrelFact_80 83 rfl ?_
      refine vv_iload_n C dX6_barrelFact_83 rfl 2 rfl 84 rfl ?_
      obtain ⟨hi, h⟩ := chk_s h
      refine vv_iald C (q0 := 4) rfl hi dX6_barrelFact_84 85 rfl ?_
      obtain rfl := Option.some.inj h
      exact ret _ _ dX6_barrelFact_85
    · replace h := ite_f hn1 h
      by_cases hn2 : a2 = 2
      · replace h := ite_t hn2 h
        refine vv_swIn C (off := 77) 86 dX6_barrelFact_9 (by rw [hn2]; decide) (by rw [hn2]; decide) (by rw [hn2]; rfl) (by decide) ?_
        refine vv_aload_n C dX6_barrelFact_86 rfl 0 rfl 87 rfl ?_
        refine vv_get C (q0 := 2) (ci := 0) (k := 2) kinX6_barrelFact_X0 rfl rfl (by decide) kwX6_barrelFact_5 rfl rfl dX6_barrelFact_87 90 rfl ?_
        refine vv_iload_n C dX6_barrelFact_90 rfl 2 rfl 91 rfl ?_
        obtain ⟨hi, h⟩ := chk_s h
        refine vv_iald C (q0 := 5) rfl hi dX6_barrelFact_91 92 rfl ?_
        obtain rfl := Option.some.inj h
        exact ret _ _ dX6_barrelFact_92
      · replace h := ite_f hn2 h
        by_cases hn3 : a2 = 3
        · replace h := ite_t hn3 h
          refine vv_swIn C (off := 84) 93 dX6_barrelFact_9 (by rw [hn3]; decide) (by rw [hn3]; decide) (by rw [hn3]; rfl) (by decide) ?_
          refine vv_aload_n C dX6_barrelFact_93 rfl 0 rfl 94 rfl ?_
          refine vv_get C (q0 := 2) (ci := 0) (k := 3) kinX6_barrelFact_X0 rfl rfl (by decide) kwX6_barrelFact_6 rfl rfl dX6_barrelFact_94 97 rfl ?_
          refine vv_iload_n C dX6_barrelFact_97 rfl 2 rfl 98 rfl ?_
          obtain ⟨hi, h⟩ := chk_s h
          refine vv_iald C (q0 := 6) rfl hi dX6_barrelFact_98 99 rfl ?_
          obtain rfl := Option.some.inj h
          exact ret _ _ dX6_barrelFact_99
        · replace h := ite_f hn3 h
          by_cases hn4 : a2 = 4
          · replace h := ite_t hn4 h
            refine vv_swIn C (off := 91) 100 dX6_barrelFact_9 (by rw [hn4]; decide) (by rw [hn4]; decide) (by rw [hn4]; rfl) (by decide) ?_
            refine vv_aload_n C dX6_barrelFact_100 rfl 0 rfl 101 rfl ?_
            refine vv_get C (q0 := 2) (ci := 0) (k := 4) kinX6_barrelFact_X0 rfl rfl (by decide) kwX6_barrelFact_7 rfl rfl dX6_barrelFact_101 104 rfl ?_
            refine vv_iload_n C dX6_barrelFact_104 rfl 2 rfl 105 rfl ?_
            obtain ⟨hi, h⟩ := chk_s h
            refine vv_iald C (q0 := 7) rfl hi dX6_barrelFact_105 106 rfl ?_
            obtain rfl := Option.some.inj h
            exact ret _ _ dX6_barrelFact_106
          · replace h := ite_f hn4 h
            by_cases hn5 : a2 = 5
            · replace h := ite_t hn5 h
              refine vv_swIn C (off := 98) 107 dX6_barrelFact_9 (by rw [hn5]; decide) (by rw [hn5]; decide) (by rw [hn5]; rfl) (by decide) ?_
              refine vv_aload_n C dX6_barrelFact_107 rfl 0 rfl 108 rfl ?_
              refine vv_get C (q0 := 2) (ci := 0) (k := 5) kinX6_barrelFact_X0 rfl rfl (by decide) kwX6_barrelFact_8 rfl rfl dX6_barrelFact_108 111 rfl ?_
              refine vv_iload_n C dX6_barrelFact_111 rfl 2 rfl 112 rfl ?_
              obtain ⟨hi, h⟩ := chk_s h
              refine vv_iald C (q0 := 8) rfl hi dX6_barrelFact_112 113 rfl ?_
              obtain rfl := Option.some.inj h
              exact ret _ _ dX6_barrelFact_113
            · replace h := ite_f hn5 h
              by_cases hn6 : a2 = 6
              · replace h := ite_t hn6 h
                refine vv_swIn C (off := 105) 114 dX6_barrelFact_9 (by rw [hn6]; decide) (by rw [hn6]; decide) (by rw [hn6]; rfl) (by decide) ?_
                refine vv_aload_n C dX6_barrelFact_114 rfl 0 rfl 115 rfl ?_
                refine vv_get C (q0 := 2) (ci := 0) (k := 7) kinX6_barrelFact_X0 rfl rfl (by decide) kwX6_barrelFact_9 rfl rfl dX6_barrelFact_115 118 rfl ?_
                refine vv_iload_n C dX6_barrelFact_118 rfl 2 rfl 119 rfl ?_
                obtain ⟨hi, h⟩ := chk_s h
                refine vv_iald C (q0 := 10) rfl hi dX6_barrelFact_119 120 rfl ?_
                obtain rfl := Option.some.inj h
                exact ret _ _ dX6_barrelFact_120
              · replace h := ite_f hn6 h
                by_cases hn7 : a2 = 7
                · replace h := ite_t hn7 h
                  refine vv_swIn C (off := 112) 121 dX6_barrelFact_9 (by rw [hn7]; decide) (by rw [hn7]; decide) (by rw [hn7]; rfl) (by decide) ?_
                  refine vv_aload_n C dX6_barrelFact_121 rfl 0 rfl 122 rfl ?_
                  refine vv_get C (q0 := 2) (ci := 0) (k := 10) kinX6_barrelFact_X0 rfl rfl (by decide) kwX6_barrelFact_10 rfl rfl dX6_barrelFact_122 125 rfl ?_
                  refine vv_iload_n C dX6_barrelFact_125 rfl 2 rfl 126 rfl ?_
                  obtain ⟨hi, h⟩ := chk_s h
                  refine vv_iald C (q0 := 13) rfl hi dX6_barrelFact_126 127 rfl ?_
                  obtain rfl := Option.some.inj h
                  exact ret _ _ dX6_barrelFact_127
                · replace h := ite_f hn7 h
                  by_cases hn8 : a2 = 8
                  · replace h := ite_t hn8 h
                    refine vv_swIn C (off := 119) 128 dX6_barrelFact_9 (by rw [hn8]; decide) (by rw [hn8]; decide) (by rw [hn8]; rfl) (by decide) ?_
                    refine vv_aload_n C dX6_barrelFact_128 rfl 0 rfl 129 rfl ?_
                    refine vv_get C (q0 := 2) (ci := 0) (k := 8) kinX6_barrelFact_X0 rfl rfl (by decide) kwX6_barrelFact_11 rfl rfl dX6_barrelFact_129 132 rfl ?_
                    refine vv_iload_n C dX6_barrelFact_132 rfl 2 rfl 133 rfl ?_
                    obtain ⟨hi, h⟩ := chk_s h
                    refine vv_iald C (q0 := 11) rfl hi dX6_barrelFact_133 134 rfl ?_
                    obtain rfl := Option.some.inj h
                    exact ret _ _ dX6_barrelFact_134
                  · replace h := ite_f hn8 h
                    by_cases hn9 : a2 = 9
                    · replace h := ite_t hn9 h
                      refine vv_swIn C (off := 126) 135 dX6_barrelFact_9 (by rw [hn9]; decide) (by rw [hn9]; decide) (by rw [hn9]; rfl) (by decide) ?_
                      refine vv_aload_n C dX6_barrelFact_135 rfl 0 rfl 136 rfl ?_
                      refine vv_get C (q0 := 2) (ci := 0) (k := 9) kinX6_barrelFact_X0 rfl rfl (by decide) kwX6_barrelFact_12 rfl rfl dX6_barrelFact_136 139 rfl ?_
                      refine vv_iload_n C dX6_barrelFact_139 rfl 2 rfl 140 rfl ?_
                      obtain ⟨hi, h⟩ := chk_s h
                      refine vv_iald C (q0 := 12) rfl hi dX6_barrelFact_140 141 rfl ?_
                      obtain rfl := Option.some.inj h
                      exact ret _ _ dX6_barrelFact_141
                    · replace h := ite_f hn9 h
                      by_cases hn10 : a2 = 10
                      · replace h := ite_t hn10 h
                        refine vv_swIn C (off := 133) 142 dX6_barrelFact_9 (by rw [hn10]; decide) (by rw [hn10]; decide) (by rw [hn10]; rfl) (by decide) ?_
                        refine vv_aload_n C dX6_barrelFact_142 rfl 1 rfl 143 rfl ?_
                        refine vv_get C (q0 := 0) (ci := 6) (k := 1) kinX6_barrelFact_X6 rfl rfl (by decide) kwX6_barrelFact_1 rfl rfl dX6_barrelFact_143 146 rfl ?_
                        refine vv_get C (q0 := 1) (ci := 3) (k := 2) kinX6_barrelFact_X3 rfl rfl (by decide) kwX6_barrelFact_13 rfl rfl dX6_barrelFact_146 149 rfl ?_
                        refine vv_iload_n C dX6_barrelFact_149 rfl 2 rfl 150 rfl ?_
                        obtain ⟨r1, hr1, h⟩ := bnd_s h
                        refine vv_callVi C (fun l => mt_X2_countAt l D c Q Q_number Q_first Q_second a1 r1 hr1) gX6_barrelFact_X2_countAt rfl rfl rfl yd_X2_countAt ⟨Nat.le_of_ble_eq_true rfl, Nat.le_of_ble_eq_true rfl⟩ [14, 15, 16] rfl (by decide) 0 rfl rfl (wX6_barrelFact c X W R B K Q T Y X_ropes R_hour R_broken B_number B_column B_row B_lift B_leak B_water B_goods B_people B_state B_x B_y B_piece Q_number Q_first Q_second) [(false, 0), (false, 1), (false, 2), (false, 3), (false, 4), (false, 5), (false, 6), (false, 7), (false, 8), (false, 9), (false, 10), (false, 11), (false, 12), (false, 13), (true, 0), (true, 1), (true, 2)] rfl (by decide) rfl rfl [] rfl (Nat.le_of_ble_eq_true rfl) ⟨Nat.le_of_ble_eq_true rfl, Nat.le_of_ble_eq_true rfl⟩ dX6_barrelFact_150 153 0 0 rfl ⟨rfl, rfl⟩ ?_
                        obtain rfl := Option.some.inj h
                        exact ret _ _ dX6_barrelFact_153
                      · replace h := ite_f hn10 h
                        by_cases hn11 : a2 = 11
                        · replace h := ite_t hn11 h
                          refine vv_swIn C (off := 145) 154 dX6_barrelFact_9 (by rw [hn11]; decide) (by rw [hn11]; decide) (by rw [hn11]; rfl) (by decide) ?_
                          refine vv_aload_n C dX6_barrelFact_154 rfl 0 rfl 155 rfl ?_
                          refine vv_iload_n C dX6_barrelFact_155 rfl 2 rfl 156 rfl ?_
                          obtain ⟨r2, hr2, h⟩ := bnd_s h
                          refine vv_callVi C (fun l => mt_X0_liftNow l D c B B_number B_lift B_water a1 r2 hr2) gX6_barrelFact_X0_liftNow rfl rfl rfl yd_X0_liftNow ⟨Nat.le_of_ble_eq_true rfl, Nat.le_of_ble_eq_true rfl⟩ [2, 5, 7] rfl (by decide) 0 rfl rfl (wX6_barrelFact c X W R B K Q T Y X_ropes R_hour R_broken B_number B_column B_row B_lift B_leak B_water B_goods B_people B_state B_x B_y B_piece Q_number Q_first Q_second) [(false, 0), (false, 1), (true, 0), (false, 3), (false, 4), (true, 1), (false, 6), (true, 2), (false, 8), (false, 9), (false, 10), (false, 11), (false, 12), (false, 13), (false, 14), (false, 15), (false, 16)] rfl (by decide) rfl rfl [] rfl (Nat.le_of_ble_eq_true rfl) ⟨Nat.le_of_ble_eq_true rfl, Nat.le_of_ble_eq_true rfl⟩ dX6_barrelFact_156 159 0 0 rfl ⟨rfl, rfl⟩ ?_
                          obtain rfl := Option.some.inj h
                          exact ret _ _ dX6_barrelFact_159
                        · replace h := ite_f hn11 h
                          refine vv_swOut C 160 dX6_barrelFact_9 (sw_out (fun j hj => ?_)) (by decide) ?_
                          · rcases (show j = 0 ∨ j = 1 ∨ j = 2 ∨ j = 3 ∨ j = 4 ∨ j = 5 ∨ j = 6 ∨ j = 7 ∨ j = 8 ∨ j = 9 ∨ j = 10 ∨ j = 11 by omega) with rfl | rfl | rfl | rfl | rfl | rfl | rfl | rfl | rfl | rfl | rfl | rfl
                            · exact fun e => hn0 (e.trans (by decide))
                            · exact fun e => hn1 (e.trans (by decide))
                            · exact fun e => hn2 (e.trans (by decide))
                            · exact fun e => hn3 (e.trans (by decide))
                            · exact fun e => hn4 (e.trans (by decide))
                            · exact fun e => hn5 (e.trans (by decide))
                            · exact fun e => hn6 (e.trans (by decide))
                            · exact fun e => hn7 (e.trans (by decide))
                            · exact fun e => hn8 (e.trans (by decide))
                            · exact fun e => hn9 (e.trans (by decide))
                            · exact fun e => hn10 (e.trans (by decide))
                            · exact fun e => hn11 (e.trans (by decide))
                          · refine vv_aload_n C dX6_barrelFact_160 rfl 0 rfl 161 rfl ?_
                            refine vv_iload_n C dX6_barrelFact_161 rfl 2 rfl 162 rfl ?_
                            obtain ⟨r3, hr3, h⟩ := bnd_s h
                            refine vv_callVi C (fun l => mt_X0_loadOf l D c B B_number B_goods B_people a1 r3 hr3) gX6_barrelFact_X0_loadOf rfl rfl rfl yd_X0_loadOf ⟨Nat.le_of_ble_eq_true rfl, Nat.le_of_ble_eq_true rfl⟩ [2, 8, 9] rfl (by decide) 0 rfl rfl (wX6_barrelFact c X W R B K Q T Y X_ropes R_hour R_broken B_number B_column B_row B_lift B_leak B_water B_goods B_people B_state B_x B_y B_piece Q_number Q_first Q_second) [(false, 0), (false, 1), (true, 0), (false, 3), (false, 4), (false, 5), (false, 6), (false, 7), (true, 1), (true, 2), (false, 10), (false, 11), (false, 12), (false, 13), (false, 14), (false, 15), (false, 16)] rfl (by decide) rfl rfl [] rfl (Nat.le_of_ble_eq_true rfl) ⟨Nat.le_of_ble_eq_true rfl, Nat.le_of_ble_eq_true rfl⟩ dX6_barrelFact_162 165 0 0 rfl ⟨rfl, rfl⟩ ?_
                            obtain rfl := Option.some.inj h
                            exact ret _ _ dX6_barrelFact_165
abbrev wX6_castawayFact (c : Nat → ClassId) (X : Nat → Nat) (W : Nat → Nat) (R : Nat → Nat) (B : Nat → Nat) (K : Nat → Nat) (Q : Nat → Nat) (T : Nat → Nat) (Y : Nat → Nat) (X_ropes : Int32) (R_hour : Int32) (R_broken : Int32) (K_number : Int32) (K_seat : Nat → Int32) (K_state : Nat → Int32) : va_W := [(X 0, .inr (6, [.ref (W 0), .ref (R 0), .ref (T 0), .ref (Y 0), .int X_ropes])), (R 0, .inr (3, [.ref (B 0), .ref (K 0), .ref (Q 0), .ref (R 1), .ref (R 2), .int R_hour, .int R_broken])), (K 0, .inr (1, [.ref (K 1), .ref (K 2), .int K_number])), aI c (K 1) 8 K_seat, aI c (K 2) 8 K_state]
abbrev rmX6_castawayFact : Room := { frames := 0, cells := 0, slots := 0, locals := 0 }
theorem yd_X6_castawayFact : yX6_castawayFact.cls = RX6 ∧ yX6_castawayFact.cls ≠ "java/lang/invoke/MethodHandle" ∧ yX6_castawayFact.cls ≠ "java/lang/invoke/VarHandle" ∧ (parseMethodDescriptor yX6_castawayFact.desc).map (fun d => d.parameters.length) = some 2 := by decide +kernel
theorem kwX6_castawayFact_1 : Cond.fieldLink RX6 19 "BarrelRaft" "raft" "LBarrelRaft$Raft;" ∈ wsX6_castawayFact := List.mem_of_getElem? (i := 1) rfl
set_option maxRecDepth 20000 in
theorem kinX6_castawayFact_X6 : ∀ w ∈ u_ws RX6 TX6 5, w ∈ wsX6_castawayFact := by decide +kernel
theorem kwX6_castawayFact_2 : Cond.fieldLink RX6 195 "BarrelRaft$Raft" "castaways" "LBarrelRaft$Castaways;" ∈ wsX6_castawayFact := List.mem_of_getElem? (i := 2) rfl
set_option maxRecDepth 20000 in
theorem kinX6_castawayFact_X3 : ∀ w ∈ u_ws RX3 TX3 7, w ∈ wsX6_castawayFact := by decide +kernel
theorem kwX6_castawayFact_4 : Cond.fieldLink RX6 315 "BarrelRaft$Castaways" "state" "[I" ∈ wsX6_castawayFact := List.mem_of_getElem? (i := 4) rfl
set_option maxRecDepth 20000 in
theorem kinX6_castawayFact_X1 : ∀ w ∈ u_ws RX1 TX1 3, w ∈ wsX6_castawayFact := by decide +kernel
theorem kwX6_castawayFact_3 : Cond.fieldLink RX6 212 "BarrelRaft$Castaways" "seat" "[I" ∈ wsX6_castawayFact := List.mem_of_getElem? (i := 3) rfl
def jX6_castawayFact (K_seat : Nat → Int32) (K_state : Nat → Int32) (a1 : Int32) (a2 : Int32) : Option (Int32) :=
  (if a2 = 0 then chk 8 a1 (some (rd K_seat a1)) else chk 8 a1 (some (rd K_state a1)))
set_option maxHeartbeats 4000000 in
set_option maxRecDepth 100000 in
theorem mt_X6_castawayFact (l : Launch) (D : va_G) (c : Nat → ClassId) (X : Nat → Nat) (W : Nat → Nat) (R : Nat → Nat) (B : Nat → Nat) (K : Nat → Nat) (Q : Nat → Nat) (T : Nat → Nat) (Y : Nat → Nat) (X_ropes : Int32) (R_hour : Int32) (R_broken : Int32) (K_number : Int32) (K_seat : Nat → Int32) (K_state : Nat → Int32) (a1 : Int32) (a2 : Int32) (q0 : Int32) (h : jX6_castawayFact K_seat K_state a1 a2 = some q0) : DTi l yX6_castawayFact wsX6_castawayFact rmX6_castawayFact D c (wX6_castawayFact c X W R B K Q T Y X_ropes R_hour R_broken K_number K_seat K_state) [.ref (X 0), .int a1, .int a2] q0 (wX6_castawayFact c X W R B K Q T Y X_ropes R_hour R_broken K_number K_seat K_state) 0 0 := by
  refine DTi_of (cc := cX6_castawayFact) (nL := 3) RX6 rfl (by decide) rfl (Nat.le_of_ble_eq_true rfl) (fun g C ret => ?_)
  unfold jX6_castawayFact at h
  refine vv_lv [0, 1, 2] [(0, .ref (X 0)), (1, .int a1), (2, .int a2)] rfl ?_
  refine vv_iload_n C dX6_castawayFact_0 rfl 2 rfl 1 rfl ?_
  refine vv_if_ne C 19 4 dX6_castawayFact_1 (by decide) rfl (fun hc => ?_) (fun hc => ?_)
  · replace h := ite_f hc h
    refine vv_aload_n C dX6_castawayFact_19 rfl 0 rfl 20 rfl ?_
    refine vv_get C (q0 := 0) (ci := 6) (k := 1) kinX6_castawayFact_X6 rfl rfl (by decide) kwX6_castawayFact_1 rfl rfl dX6_castawayFact_20 23 rfl ?_
    refine vv_get C (q0 := 1) (ci := 3) (k := 1) kinX6_castawayFact_X3 rfl rfl (by decide) kwX6_castawayFact_2 rfl rfl dX6_castawayFact_23 26 rfl ?_
    refine vv_get C (q0 := 2) (ci := 1) (k := 1) kinX6_castawayFact_X1 rfl rfl (by decide) kwX6_castawayFact_4 rfl rfl dX6_castawayFact_26 29 rfl ?_
    refine vv_iload_n C dX6_castawayFact_29 rfl 1 rfl 30 rfl ?_
    obtain ⟨hi, h⟩ := chk_s h
    refine vv_iald C (q0 := 4) rfl hi dX6_castawayFact_30 31 rfl ?_
    obtain rfl := Option.some.inj h
    exact ret _ _ dX6_castawayFact_31
  · replace h := ite_t hc h
    refine vv_aload_n C dX6_castawayFact_4 rfl 0 rfl 5 rfl ?_
    refine vv_get C (q0 := 0) (ci := 6) (k := 1) kinX6_castawayFact_X6 rfl rfl (by decide) kwX6_castawayFact_1 rfl rfl dX6_castawayFact_5 8 rfl ?_
    refine vv_get C (q0 := 1) (ci := 3) (k := 1) kinX6_castawayFact_X3 rfl rfl (by decide) kwX6_castawayFact_2 rfl rfl dX6_castawayFact_8 11 rfl ?_
    refine vv_get C (q0 := 2) (ci := 1) (k := 0) kinX6_castawayFact_X1 rfl rfl (by decide) kwX6_castawayFact_3 rfl rfl dX6_castawayFact_11 14 rfl ?_
    refine vv_iload_n C dX6_castawayFact_14 rfl 1 rfl 15 rfl ?_
    obtain ⟨hi, h⟩ := chk_s h
    refine vv_iald C (q0 := 3) rfl hi dX6_castawayFact_15 16 rfl ?_
    refine vv_goto C 31 dX6_castawayFact_16 (by decide) ?_
    obtain rfl := Option.some.inj h
    exact ret _ _ dX6_castawayFact_31
abbrev wX6_countFact (c : Nat → ClassId) (X : Nat → Nat) (W : Nat → Nat) (R : Nat → Nat) (B : Nat → Nat) (K : Nat → Nat) (Q : Nat → Nat) (T : Nat → Nat) (Y : Nat → Nat) (X_ropes : Int32) (R_hour : Int32) (R_broken : Int32) (B_number : Int32) (B_goods : Nat → Int32) (B_state : Nat → Int32) (B_piece : Nat → Int32) (K_number : Int32) (K_state : Nat → Int32) (Q_number : Int32) : va_W := [(X 0, .inr (6, [.ref (W 0), .ref (R 0), .ref (T 0), .ref (Y 0), .int X_ropes])), (R 0, .inr (3, [.ref (B 0), .ref (K 0), .ref (Q 0), .ref (R 1), .ref (R 2), .int R_hour, .int R_broken])), (B 0, .inr (0, [.ref (B 1), .ref (B 2), .ref (B 3), .ref (B 4), .ref (B 5), .ref (B 6), .ref (B 7), .ref (B 8), .ref (B 9), .ref (B 10), .ref (B 11), .int B_number])), aI c (B 6) 24 B_goods, aI c (B 8) 24 B_state, aI c (B 11) 24 B_piece, (K 0, .inr (1, [.ref (K 1), .ref (K 2), .int K_number])), aI c (K 2) 8 K_state, (Q 0, .inr (2, [.ref (Q 1), .ref (Q 2), .ref (Q 3), .ref (Q 4), .int Q_number]))]
abbrev rmX6_countFact : Room := { frames := 1, cells := 0, slots := 0, locals := 23 }
theorem yd_X6_countFact : yX6_countFact.cls = RX6 ∧ yX6_countFact.cls ≠ "java/lang/invoke/MethodHandle" ∧ yX6_countFact.cls ≠ "java/lang/invoke/VarHandle" ∧ (parseMethodDescriptor yX6_countFact.desc).map (fun d => d.parameters.length) = some 1 := by decide +kernel
theorem kwX6_countFact_1 : Cond.fieldLink RX6 19 "BarrelRaft" "raft" "LBarrelRaft$Raft;" ∈ wsX6_countFact := List.mem_of_getElem? (i := 1) rfl
set_option maxRecDepth 20000 in
theorem kinX6_countFact_X6 : ∀ w ∈ u_ws RX6 TX6 5, w ∈ wsX6_countFact := by decide +kernel
theorem kwX6_countFact_2 : Cond.fieldLink RX6 316 "BarrelRaft$Raft" "hour" "I" ∈ wsX6_countFact := List.mem_of_getElem? (i := 2) rfl
set_option maxRecDepth 20000 in
theorem kinX6_countFact_X3 : ∀ w ∈ u_ws RX3 TX3 7, w ∈ wsX6_countFact := by decide +kernel
theorem kwX6_countFact_3 : Cond.fieldLink RX6 94 "BarrelRaft$Raft" "barrels" "LBarrelRaft$Barrels;" ∈ wsX6_countFact := List.mem_of_getElem? (i := 3) rfl
theorem kwX6_countFact_4 : Cond.fieldLink RX6 118 "BarrelRaft$Barrels" "number" "I" ∈ wsX6_countFact := List.mem_of_getElem? (i := 4) rfl
set_option maxRecDepth 20000 in
theorem kinX6_countFact_X0 : ∀ w ∈ u_ws RX0 TX0 12, w ∈ wsX6_countFact := by decide +kernel
theorem kwX6_countFact_5 : Cond.fieldLink RX6 195 "BarrelRaft$Raft" "castaways" "LBarrelRaft$Castaways;" ∈ wsX6_countFact := List.mem_of_getElem? (i := 5) rfl
theorem kwX6_countFact_6 : Cond.fieldLink RX6 199 "BarrelRaft$Castaways" "number" "I" ∈ wsX6_countFact := List.mem_of_getElem? (i := 6) rfl
set_option maxRecDepth 20000 in
theorem kinX6_countFact_X1 : ∀ w ∈ u_ws RX1 TX1 3, w ∈ wsX6_countFact := by decide +kernel
theorem kwX6_countFact_7 : Cond.fieldLink RX6 136 "BarrelRaft$Raft" "lashings" "LBarrelRaft$Lashings;" ∈ wsX6_countFact := List.mem_of_getElem? (i := 7) rfl
theorem kwX6_countFact_8 : Cond.fieldLink RX6 271 "BarrelRaft$Lashings" "number" "I" ∈ wsX6_countFact := List.mem_of_getElem? (i := 8) rfl
set_option maxRecDepth 20000 in
theorem kinX6_countFact_X2 : ∀ w ∈ u_ws RX2 TX2 5, w ∈ wsX6_countFact := by decide +kernel
theorem kwX6_countFact_9 : Cond.fieldLink RX6 33 "BarrelRaft" "ropes" "I" ∈ wsX6_countFact := List.mem_of_getElem? (i := 9) rfl
theorem kwX6_countFact_10 : Cond.fieldLink RX6 231 "BarrelRaft$Raft" "broken" "I" ∈ wsX6_countFact := List.mem_of_getElem? (i := 10) rfl
def jX6_countFact (X_ropes : Int32) (R_hour : Int32) (R_broken : Int32) (B_number : Int32) (B_goods : Nat → Int32) (B_state : Nat → Int32) (B_piece : Nat → Int32) (K_number : Int32) (K_state : Nat → Int32) (Q_number : Int32) (a1 : Int32) : Option (Int32) :=
  (if a1 = 0 then some R_hour else (if a1 = 1 then some B_number else (if a1 = 2 then bnd (jX0_countOf B_number B_state 0) (fun r1 => some r1) else (if a1 = 3 then bnd (jX0_countOf B_number B_state 2) (fun r2 => some r2) else (if a1 = 4 then some K_number else (if a1 = 5 then bnd (jX1_countOf K_number K_state 0) (fun r3 => some r3) else (if a1 = 6 then bnd (jX1_countOf K_number K_state 2) (fun r4 => some r4) else (if a1 = 7 then some Q_number else (if a1 = 8 then bnd (jX0_pieces B_number B_piece) (fun r5 => some r5) else (if a1 = 9 then some X_ropes else (if a1 = 10 then some R_broken else bnd (jX0_goodsSaved B_number B_goods B_state) (fun r6 => some r6))))))))))))
set_option maxHeartbeats 4000000 in
set_option maxRecDepth 100000 in
theorem mt_X6_countFact (l : Launch) (D : va_G) (c : Nat → ClassId) (X : Nat → Nat) (W : Nat → Nat) (R : Nat → Nat) (B : Nat → Nat) (K : Nat → Nat) (Q : Nat → Nat) (T : Nat → Nat) (Y : Nat → Nat) (X_ropes : Int32) (R_hour : Int32) (R_broken : Int32) (B_number : Int32) (B_goods : Nat → Int32) (B_state : Nat → Int32) (B_piece : Nat → Int32) (K_number : Int32) (K_state : Nat → Int32) (Q_number : Int32) (a1 : Int32) (q0 : Int32) (h : jX6_countFact X_ropes R_hour R_broken B_number B_goods B_state B_piece K_number K_state Q_number a1 = some q0) : DTi l yX6_countFact wsX6_countFact rmX6_countFact D c (wX6_countFact c X W R B K Q T Y X_ropes R_hour R_broken B_number B_goods B_state B_piece K_number K_state Q_number) [.ref (X 0), .int a1] q0 (wX6_countFact c X W R B K Q T Y X_ropes R_hour R_broken B_number B_goods B_state B_piece K_number K_state Q_number) 0 0 := by
  refine DTi_of (cc := cX6_countFact) (nL := 2) RX6 rfl (by decide) rfl (Nat.le_of_ble_eq_true rfl) (fun g C ret => ?_)
  unfold jX6_countFact at h
  refine vv_lv [0, 1] [(0, .ref (X 0)), (1, .int a1)] rfl ?_
  refine vv_iload_n C dX6_countFact_0 rfl 1 rfl 1 rfl ?_
  by_cases hn0 : a1 = 0
  · replace h := ite_t hn0 h
    refine vv_swIn C (off := 59) 60 dX6_countFact_1 (by rw [hn0]; decide) (by rw [hn0]; decide) (by rw [hn0]; rfl) (by decide) ?_
    refine vv_aload_n C dX6_countFact_60 rfl 0 rfl 61 rfl ?_
    refine vv_get C (q0 := 0) (ci := 6) (k := 1) kinX6_countFact_X6 rfl rfl (by decide) kwX6_countFact_1 rfl rfl dX6_countFact_61 64 rfl ?_
    refine vv_get C (q0 := 1) (ci := 3) (k := 5) kinX6_countFact_X3 rfl rfl (by decide) kwX6_countFact_2 rfl rfl dX6_countFact_64 67 rfl ?_
    obtain rfl := Option.some.inj h
    exact ret _ _ dX6_countFact_67
  · replace h := ite_f hn0 h
    by_cases hn1 : a1 = 1
    · replace h := ite_t hn1 h
      refine vv_swIn C (off := 67) 68 dX6_countFact_1 (by rw [hn1]; decide) (by rw [hn1]; decide) (by rw [hn1]; rfl) (by decide) ?_
      refine vv_aload_n C dX6_countFact_68 rfl 0 rfl 69 rfl ?_
      refine vv_get C (q0 := 0) (ci := 6) (k := 1) kinX6_countFact_X6 rfl rfl (by decide) kwX6_countFact_1 rfl rfl dX6_countFact_69 72 rfl ?_
      refine vv_get C (q0 := 1) (ci := 3) (k := 0) kinX6_countFact_X3 rfl rfl (by decide) kwX6_countFact_3 rfl rfl dX6_countFact_72 75 rfl ?_
      refine vv_get C (q0 := 2) (ci := 0) (k := 11) kinX6_countFact_X0 rfl rfl (by decide) kwX6_countFact_4 rfl rfl dX6_countFact_75 78 rfl ?_
      obtain rfl := Option.some.inj h
      exact ret _ _ dX6_countFact_78
    · replace h := ite_f hn1 h
      by_cases hn2 : a1 = 2
      · replace h := ite_t hn2 h
        refine vv_swIn C (off := 78) 79 dX6_countFact_1 (by rw [hn2]; decide) (by rw [hn2]; decide) (by rw [hn2]; rfl) (by decide) ?_
        refine vv_aload_n C dX6_countFact_79 rfl 0 rfl 80 rfl ?_
        refine vv_get C (q0 := 0) (ci := 6) (k := 1) kinX6_countFact_X6 rfl rfl (by decide) kwX6_countFact_1 rfl rfl dX6_countFact_80 83 rfl ?_
        refine vv_get C (q0 := 1) (ci := 3) (k := 0) kinX6_countFact_X3 rfl rfl (by decide) kwX6_countFact_3 rfl rfl dX6_countFact_83 86 rfl ?_
        refine vv_iconst C (v := 0) dX6_countFact_86 (by decide) 87 rfl ?_
        obtain ⟨r1, hr1, h⟩ := bnd_s h
        refine vv_callVi C (fun l => mt_X0_countOf l D c B B_number B_state 0 r1 hr1) gX6_countFact_X0_countOf rfl rfl rfl yd_X0_countOf ⟨Nat.le_of_ble_eq_true rfl, Nat.le_of_ble_eq_true rfl⟩ [2, 4] rfl (by decide) 0 rfl rfl (wX6_countFact c X W R B K Q T Y X_ropes R_hour R_broken B_number B_goods B_state B_piece K_number K_state Q_number) [(false, 0), (false, 1), (true, 0), (false, 3), (true, 1), (false, 5), (false, 6), (false, 7), (false, 8)] rfl (by decide) rfl rfl [] rfl (Nat.le_of_ble_eq_true rfl) ⟨Nat.le_of_ble_eq_true rfl, Nat.le_of_ble_eq_true rfl⟩ dX6_countFact_87 90 0 0 rfl ⟨rfl, rfl⟩ ?_
        obtain rfl := Option.some.inj h
        exact ret _ _ dX6_countFact_90
      · replace h := ite_f hn2 h
        by_cases hn3 : a1 = 3
        · replace h := ite_t hn3 h
          refine vv_swIn C (off := 90) 91 dX6_countFact_1 (by rw [hn3]; decide) (by rw [hn3]; decide) (by rw [hn3]; rfl) (by decide) ?_
          refine vv_aload_n C dX6_countFact_91 rfl 0 rfl 92 rfl ?_
          refine vv_get C (q0 := 0) (ci := 6) (k := 1) kinX6_countFact_X6 rfl rfl (by decide) kwX6_countFact_1 rfl rfl dX6_countFact_92 95 rfl ?_
          refine vv_get C (q0 := 1) (ci := 3) (k := 0) kinX6_countFact_X3 rfl rfl (by decide) kwX6_countFact_3 rfl rfl dX6_countFact_95 98 rfl ?_
          refine vv_iconst C (v := 2) dX6_countFact_98 (by decide) 99 rfl ?_
          obtain ⟨r2, hr2, h⟩ := bnd_s h
          refine vv_callVi C (fun l => mt_X0_countOf l D c B B_number B_state 2 r2 hr2) gX6_countFact_X0_countOf rfl rfl rfl yd_X0_countOf ⟨Nat.le_of_ble_eq_true rfl, Nat.le_of_ble_eq_true rfl⟩ [2, 4] rfl (by decide) 0 rfl rfl (wX6_countFact c X W R B K Q T Y X_ropes R_hour R_broken B_number B_goods B_state B_piece K_number K_state Q_number) [(false, 0), (false, 1), (true, 0), (false, 3), (true, 1), (false, 5), (false, 6), (false, 7), (false, 8)] rfl (by decide) rfl rfl [] rfl (Nat.le_of_ble_eq_true rfl) ⟨Nat.le_of_ble_eq_true rfl, Nat.le_of_ble_eq_true rfl⟩ dX6_countFact_99 102 0 0 rfl ⟨rfl, rfl⟩ ?_
          obtain rfl := Option.some.inj h
          exact ret _ _ dX6_countFact_102
        · replace h := ite_f hn3 h
          by_cases hn4 : a1 = 4
          · replace h := ite_t hn4 h
            refine vv_swIn C (off := 102) 103 dX6_countFact_1 (by rw [hn4]; decide) (by rw [hn4]; decide) (by rw [hn4]; rfl) (by decide) ?_
            refine vv_aload_n C dX6_countFact_103 rfl 0 rfl 104 rfl ?_
            refine vv_get C (q0 := 0) (ci := 6) (k := 1) kinX6_countFact_X6 rfl rfl (by decide) kwX6_countFact_1 rfl rfl dX6_countFact_104 107 rfl ?_
            refine vv_get C (q0 := 1) (ci := 3) (k := 1) kinX6_countFact_X3 rfl rfl (by decide) kwX6_countFact_5 rfl rfl dX6_countFact_107 110 rfl ?_
            refine vv_get C (q0 := 6) (ci := 1) (k := 2) kinX6_countFact_X1 rfl rfl (by decide) kwX6_countFact_6 rfl rfl dX6_countFact_110 113 rfl ?_
            obtain rfl := Option.some.inj h
            exact ret _ _ dX6_countFact_113
          · replace h := ite_f hn4 h
            by_cases hn5 : a1 = 5
            · replace h := ite_t hn5 h
              refine vv_swIn C (off := 113) 114 dX6_countFact_1 (by rw [hn5]; decide) (by rw [hn5]; decide) (by rw [hn5]; rfl) (by decide) ?_
              refine vv_aload_n C dX6_countFact_114 rfl 0 rfl 115 rfl ?_
              refine vv_get C (q0 := 0) (ci := 6) (k := 1) kinX6_countFact_X6 rfl rfl (by decide) kwX6_countFact_1 rfl rfl dX6_countFact_115 118 rfl ?_
              refine vv_get C (q0 := 1) (ci := 3) (k := 1) kinX6_countFact_X3 rfl rfl (by decide) kwX6_countFact_5 rfl rfl dX6_countFact_118 121 rfl ?_
              refine vv_iconst C (v := 0) dX6_countFact_121 (by decide) 122 rfl ?_
              obtain ⟨r3, hr3, h⟩ := bnd_s h
              refine vv_callVi C (fun l => mt_X1_countOf l D c K K_number K_state 0 r3 hr3) gX6_countFact_X1_countOf rfl rfl rfl yd_X1_countOf ⟨Nat.le_of_ble_eq_true rfl, Nat.le_of_ble_eq_true rfl⟩ [6, 7] rfl (by decide) 0 rfl rfl (wX6_countFact c X W R B K Q T Y X_ropes R_hour R_broken B_number B_goods B_state B_piece K_number K_state Q_number) [(false, 0), (false, 1), (false, 2), (false, 3), (false, 4), (false, 5), (true, 0), (true, 1), (false, 8)] rfl (by decide) rfl rfl [] rfl (Nat.le_of_ble_eq_true rfl) ⟨Nat.le_of_ble_eq_true rfl, Nat.le_of_ble_eq_true rfl⟩ dX6_countFact_122 125 0 0 rfl ⟨rfl, rfl⟩ ?_
              obtain rfl := Option.some.inj h
              exact ret _ _ dX6_countFact_125
            · replace h := ite_f hn5 h
              by_cases hn6 : a1 = 6
              · replace h := ite_t hn6 h
                refine vv_swIn C (off := 125) 126 dX6_countFact_1 (by rw [hn6]; decide) (by rw [hn6]; decide) (by rw [hn6]; rfl) (by decide) ?_
                refine vv_aload_n C dX6_countFact_126 rfl 0 rfl 127 rfl ?_
                refine vv_get C (q0 := 0) (ci := 6) (k := 1) kinX6_countFact_X6 rfl rfl (by decide) kwX6_countFact_1 rfl rfl dX6_countFact_127 130 rfl ?_
                refine vv_get C (q0 := 1) (ci := 3) (k := 1) kinX6_countFact_X3 rfl rfl (by decide) kwX6_countFact_5 rfl rfl dX6_countFact_130 133 rfl ?_
                refine vv_iconst C (v := 2) dX6_countFact_133 (by decide) 134 rfl ?_
                obtain ⟨r4, hr4, h⟩ := bnd_s h
                refine vv_callVi C (fun l => mt_X1_countOf l D c K K_number K_state 2 r4 hr4) gX6_countFact_X1_countOf rfl rfl rfl yd_X1_countOf ⟨Nat.le_of_ble_eq_true rfl, Nat.le_of_ble_eq_true rfl⟩ [6, 7] rfl (by decide) 0 rfl rfl (wX6_countFact c X W R B K Q T Y X_ropes R_hour R_broken B_number B_goods B_state B_piece K_number K_state Q_number) [(false, 0), (false, 1), (false, 2), (false, 3), (false, 4), (false, 5), (true, 0), (true, 1), (false, 8)] rfl (by decide) rfl rfl [] rfl (Nat.le_of_ble_eq_true rfl) ⟨Nat.le_of_ble_eq_true rfl, Nat.le_of_ble_eq_true rfl⟩ dX6_countFact_134 137 0 0 rfl ⟨rfl, rfl⟩ ?_
                obtain rfl := Option.some.inj h
                exact ret _ _ dX6_countFact_137
              · replace h := ite_f hn6 h
                by_cases hn7 : a1 = 7
                · replace h := ite_t hn7 h
                  refine vv_swIn C (off := 137) 138 dX6_countFact_1 (by rw [hn7]; decide) (by rw [hn7]; decide) (by rw [hn7]; rfl) (by decide) ?_
                  refine vv_aload_n C dX6_countFact_138 rfl 0 rfl 139 rfl ?_
                  refine vv_get C (q0 := 0) (ci := 6) (k := 1) kinX6_countFact_X6 rfl rfl (by decide) kwX6_countFact_1 rfl rfl dX6_countFact_139 142 rfl ?_
                  refine vv_get C (q0 := 1) (ci := 3) (k := 2) kinX6_countFact_X3 rfl rfl (by decide) kwX6_countFact_7 rfl rfl dX6_countFact_142 145 rfl ?_
                  refine vv_get C (q0 := 8) (ci := 2) (k := 4) kinX6_countFact_X2 rfl rfl (by decide) kwX6_countFact_8 rfl rfl dX6_countFact_145 148 rfl ?_
                  obtain rfl := Option.some.inj h
                  exact ret _ _ dX6_countFact_148
                · replace h := ite_f hn7 h
                  by_cases hn8 : a1 = 8
                  · replace h := ite_t hn8 h
                    refine vv_swIn C (off := 148) 149 dX6_countFact_1 (by rw [hn8]; decide) (by rw [hn8]; decide) (by rw [hn8]; rfl) (by decide) ?_
                    refine vv_aload_n C dX6_countFact_149 rfl 0 rfl 150 rfl ?_
                    refine vv_get C (q0 := 0) (ci := 6) (k := 1) kinX6_countFact_X6 rfl rfl (by decide) kwX6_countFact_1 rfl rfl dX6_countFact_150 153 rfl ?_
                    refine vv_get C (q0 := 1) (ci := 3) (k := 0) kinX6_countFact_X3 rfl rfl (by decide) kwX6_countFact_3 rfl rfl dX6_countFact_153 156 rfl ?_
                    obtain ⟨r5, hr5, h⟩ := bnd_s h
                    refine vv_callVi C (fun l => mt_X0_pieces l D c B B_number B_piece r5 hr5) gX6_countFact_X0_pieces rfl rfl rfl yd_X0_pieces ⟨Nat.le_of_ble_eq_true rfl, Nat.le_of_ble_eq_true rfl⟩ [2, 5] rfl (by decide) 0 rfl rfl (wX6_countFact c X W R B K Q T Y X_ropes R_hour R_broken B_number B_goods B_state B_piece K_number K_state Q_number) [(false, 0), (false, 1), (true, 0), (false, 3), (false, 4), (true, 1), (false, 6), (false, 7), (false, 8)] rfl (by decide) rfl rfl [] rfl (Nat.le_of_ble_eq_true rfl) ⟨Nat.le_of_ble_eq_true rfl, Nat.le_of_ble_eq_true rfl⟩ dX6_countFact_156 159 0 0 rfl ⟨rfl, rfl⟩ ?_
                    obtain rfl := Option.some.inj h
                    exact ret _ _ dX6_countFact_159
                  · replace h := ite_f hn8 h
                    by_cases hn9 : a1 = 9
                    · replace h := ite_t hn9 h
                      refine vv_swIn C (off := 159) 160 dX6_countFact_1 (by rw [hn9]; decide) (by rw [hn9]; decide) (by rw [hn9]; rfl) (by decide) ?_
                      refine vv_aload_n C dX6_countFact_160 rfl 0 rfl 161 rfl ?_
                      refine vv_get C (q0 := 0) (ci := 6) (k := 4) kinX6_countFact_X6 rfl rfl (by decide) kwX6_countFact_9 rfl rfl dX6_countFact_161 164 rfl ?_
                      obtain rfl := Option.some.inj h
                      exact ret _ _ dX6_countFact_164
                    · replace h := ite_f hn9 h
                      by_cases hn10 : a1 = 10
                      · replace h := ite_t hn10 h
                        refine vv_swIn C (off := 164) 165 dX6_countFact_1 (by rw [hn10]; decide) (by rw [hn10]; decide) (by rw [hn10]; rfl) (by decide) ?_
                        refine vv_aload_n C dX6_countFact_165 rfl 0 rfl 166 rfl ?_
                        refine vv_get C (q0 := 0) (ci := 6) (k := 1) kinX6_countFact_X6 rfl rfl (by decide) kwX6_countFact_1 rfl rfl dX6_countFact_166 169 rfl ?_
                        refine vv_get C (q0 := 1) (ci := 3) (k := 6) kinX6_countFact_X3 rfl rfl (by decide) kwX6_countFact_10 rfl rfl dX6_countFact_169 172 rfl ?_
                        obtain rfl := Option.some.inj h
                        exact ret _ _ dX6_countFact_172
                      · replace h := ite_f hn10 h
                        refine vv_swOut C 173 dX6_countFact_1 (sw_out (fun j hj => ?_)) (by decide) ?_
                        · rcases (show j = 0 ∨ j = 1 ∨ j = 2 ∨ j = 3 ∨ j = 4 ∨ j = 5 ∨ j = 6 ∨ j = 7 ∨ j = 8 ∨ j = 9 ∨ j = 10 by omega) with rfl | rfl | rfl | rfl | rfl | rfl | rfl | rfl | rfl | rfl | rfl
                          · exact fun e => hn0 (e.trans (by decide))
                          · exact fun e => hn1 (e.trans (by decide))
                          · exact fun e => hn2 (e.trans (by decide))
                          · exact fun e => hn3 (e.trans (by decide))
                          · exact fun e => hn4 (e.trans (by decide))
                          · exact fun e => hn5 (e.trans (by decide))
                          · exact fun e => hn6 (e.trans (by decide))
                          · exact fun e => hn7 (e.trans (by decide))
                          · exact fun e => hn8 (e.trans (by decide))
                          · exact fun e => hn9 (e.trans (by decide))
                          · exact fun e => hn10 (e.trans (by decide))
                        · refine vv_aload_n C dX6_countFact_173 rfl 0 rfl 174 rfl ?_
                          refine vv_get C (q0 := 0) (ci := 6) (k := 1) kinX6_countFact_X6 rfl rfl (by decide) kwX6_countFact_1 rfl rfl dX6_countFact_174 177 rfl ?_
                          refine vv_get C (q0 := 1) (ci := 3) (k := 0) kinX6_countFact_X3 rfl rfl (by decide) kwX6_countFact_3 rfl rfl dX6_countFact_177 180 rfl ?_
                          obtain ⟨r6, hr6, h⟩ := bnd_s h
                          refine vv_callVi C (fun l => mt_X0_goodsSaved l D c B B_number B_goods B_state r6 hr6) gX6_countFact_X0_goodsSaved rfl rfl rfl yd_X0_goodsSaved ⟨Nat.le_of_ble_eq_true rfl, Nat.le_of_ble_eq_true rfl⟩ [2, 3, 4] rfl (by decide) 0 rfl rfl (wX6_countFact c X W R B K Q T Y X_ropes R_hour R_broken B_number B_goods B_state B_piece K_number K_state Q_number) [(false, 0), (false, 1), (true, 0), (true, 1), (true, 2), (false, 5), (false, 6), (false, 7), (false, 8)] rfl (by decide) rfl rfl [] rfl (Nat.le_of_ble_eq_true rfl) ⟨Nat.le_of_ble_eq_true rfl, Nat.le_of_ble_eq_true rfl⟩ dX6_countFact_180 183 0 0 rfl ⟨rfl, rfl⟩ ?_
                          obtain rfl := Option.some.inj h
                          exact ret _ _ dX6_countFact_183
abbrev wX6_singleLashings (c : Nat → ClassId) (X : Nat → Nat) (W : Nat → Nat) (R : Nat → Nat) (B : Nat → Nat) (K : Nat → Nat) (Q : Nat → Nat) (T : Nat → Nat) (Y : Nat → Nat) (X_ropes : Int32) (R_hour : Int32) (R_broken : Int32) (B_number : Int32) (B_piece : Nat → Int32) (Q_number : Int32) (Q_first : Nat → Int32) (Q_second : Nat → Int32) (Y_used : Nat → Int32) (Y_cameBy : Nat → Int32) (Y_reached : Nat → Int32) : va_W := [(X 0, .inr (6, [.ref (W 0), .ref (R 0), .ref (T 0), .ref (Y 0), .int X_ropes])), (R 0, .inr (3, [.ref (B 0), .ref (K 0), .ref (Q 0), .ref (R 1), .ref (R 2), .int R_hour, .int R_broken])), (B 0, .inr (0, [.ref (B 1), .ref (B 2), .ref (B 3), .ref (B 4), .ref (B 5), .ref (B 6), .ref (B 7), .ref (B 8), .ref (B 9), .ref (B 10), .ref (B 11), .int B_number])), aI c (B 11) 24 B_piece, (Q 0, .inr (2, [.ref (Q 1), .ref (Q 2), .ref (Q 3), .ref (Q 4), .int Q_number])), aI c (Q 1) 48 Q_first, aI c (Q 2) 48 Q_second, (Y 0, .inr (5, [.ref (Y 1), .ref (Y 2), .ref (Y 3), .ref (Y 4)])), aI c (Y 1) 48 Y_used, aI c (Y 2) 24 Y_cameBy, aI c (Y 3) 24 Y_reached]
abbrev rmX6_singleLashings : Room := { frames := 4, cells := 0, slots := 0, locals := 99 }
theorem yd_X6_singleLashings : yX6_singleLashings.cls = RX6 ∧ yX6_singleLashings.cls ≠ "java/lang/invoke/MethodHandle" ∧ yX6_singleLashings.cls ≠ "java/lang/invoke/VarHandle" ∧ (parseMethodDescriptor yX6_singleLashings.desc).map (fun d => d.parameters.length) = some 1 := by decide +kernel
theorem kwX6_singleLashings_1 : Cond.fieldLink RX6 19 "BarrelRaft" "raft" "LBarrelRaft$Raft;" ∈ wsX6_singleLashings := List.mem_of_getElem? (i := 1) rfl
set_option maxRecDepth 20000 in
theorem kinX6_singleLashings_X6 : ∀ w ∈ u_ws RX6 TX6 5, w ∈ wsX6_singleLashings := by decide +kernel
theorem kwX6_singleLashings_2 : Cond.fieldLink RX6 136 "BarrelRaft$Raft" "lashings" "LBarrelRaft$Lashings;" ∈ wsX6_singleLashings := List.mem_of_getElem? (i := 2) rfl
set_option maxRecDepth 20000 in
theorem kinX6_singleLashings_X3 : ∀ w ∈ u_ws RX3 TX3 7, w ∈ wsX6_singleLashings := by decide +kernel
theorem kwX6_singleLashings_3 : Cond.fieldLink RX6 271 "BarrelRaft$Lashings" "number" "I" ∈ wsX6_singleLashings := List.mem_of_getElem? (i := 3) rfl
set_option maxRecDepth 20000 in
theorem kinX6_singleLashings_X2 : ∀ w ∈ u_ws RX2 TX2 5, w ∈ wsX6_singleLashings := by decide +kernel
theorem kwX6_singleLashings_4 : Cond.fieldLink RX6 275 "BarrelRaft$Lashings" "first" "[I" ∈ wsX6_singleLashings := List.mem_of_getElem? (i := 4) rfl
theorem kwX6_singleLashings_5 : Cond.fieldLink RX6 94 "BarrelRaft$Raft" "barrels" "LBarrelRaft$Barrels;" ∈ wsX6_singleLashings := List.mem_of_getElem? (i := 5) rfl
theorem kwX6_singleLashings_6 : Cond.fieldLink RX6 250 "BarrelRaft$Barrels" "piece" "[I" ∈ wsX6_singleLashings := List.mem_of_getElem? (i := 6) rfl
set_option maxRecDepth 20000 in
theorem kinX6_singleLashings_X0 : ∀ w ∈ u_ws RX0 TX0 12, w ∈ wsX6_singleLashings := by decide +kernel
theorem kwX6_singleLashings_7 : Cond.fieldLink RX6 29 "BarrelRaft" "ways" "LBarrelRaft$Ways;" ∈ wsX6_singleLashings := List.mem_of_getElem? (i := 7) rfl
theorem kwX6_singleLashings_8 : Cond.fieldLink RX6 278 "BarrelRaft$Lashings" "second" "[I" ∈ wsX6_singleLashings := List.mem_of_getElem? (i := 8) rfl
def jX6_singleLashings_L13 (B_piece : Nat → Int32) (Q_number : Int32) (Q_first : Nat → Int32) (Q_second : Nat → Int32) (u1 : Int32) (n : Nat) (Y_used_13 : Nat → Int32) (Y_cameBy_13 : Nat → Int32) (Y_reached_13 : Nat → Int32) (v3_13 : Int32) (v4_13 : Int32) : Option ((Nat → Int32) × (Nat → Int32) × (Nat → Int32) × Int32) :=
  match n with
  | 0 => none
  | n + 1 => (if Q_number ≤ v4_13 then some (Y_used_13, Y_cameBy_13, Y_reached_13, v3_13) else chk 48 v4_13 (chk 24 (rd Q_first v4_13) ((if rd B_piece (rd Q_first v4_13) = u1 then chk 48 v4_13 (bnd (jX5_countApart Y_used_13 Y_cameBy_13 Y_reached_13 Q_number Q_first Q_second (rd Q_first v4_13) (rd Q_second v4_13)) (fun r1 => (if r1.1 = 1 then jX6_singleLashings_L13 B_piece Q_number Q_first Q_second u1 n r1.2.1 r1.2.2.1 r1.2.2.2 (v3_13 + 1) (v4_13 + 1) else jX6_singleLashings_L13 B_piece Q_number Q_first Q_second u1 n r1.2.1 r1.2.2.1 r1.2.2.2 v3_13 (v4_13 + 1)))) else jX6_singleLashings_L13 B_piece Q_number Q_first Q_second u1 n Y_used_13 Y_cameBy_13 Y_reached_13 v3_13 (v4_13 + 1)))))
def jX6_singleLashings (B_piece : Nat → Int32) (Q_number : Int32) (Q_first : Nat → Int32) (Q_second : Nat → Int32) (Y_used : Nat → Int32) (Y_cameBy : Nat → Int32) (Y_reached : Nat → Int32) (a1 : Int32) : Option (Int32 × (Nat → Int32) × (Nat → Int32) × (Nat → Int32)) :=
  bnd (jX6_singleLashings_L13 B_piece Q_number Q_first Q_second a1 FU Y_used Y_cameBy Y_reached 0 0) (fun r2 => some (r2.2.2.2, r2.1, r2.2.1, r2.2.2.1))
set_option maxHeartbeats 4000000 in
set_option maxRecDepth 100000 in
theorem mt_X6_singleLashings (l : Launch) (D : va_G) (c : Nat → ClassId) (X : Nat → Nat) (W : Nat → Nat) (R : Nat → Nat) (B : Nat → Nat) (K : Nat → Nat) (Q : Nat → Nat) (T : Nat → Nat) (Y : Nat → Nat) (X_ropes : Int32) (R_hour : Int32) (R_broken : Int32) (B_number : Int32) (B_piece : Nat → Int32) (Q_number : Int32) (Q_first : Nat → Int32) (Q_second : Nat → Int32) (Y_used : Nat → Int32) (Y_cameBy : Nat → Int32) (Y_reached : Nat → Int32) (a1 : Int32) (q0 : Int32 × (Nat → Int32) × (Nat → Int32) × (Nat → Int32)) (h : jX6_singleLashings B_piece Q_number Q_first Q_second Y_used Y_cameBy Y_reached a1 = some q0) : DTi l yX6_singleLashings wsX6_singleLashings rmX6_singleLashings D c (wX6_singleLashings c X W R B K Q T Y X_ropes R_hour R_broken B_number B_piece Q_number Q_first Q_second Y_used Y_cameBy Y_reached) [.ref (X 0), .int a1] q0.1 (wX6_singleLashings c X W R B K Q T Y X_ropes R_hour R_broken B_number B_piece Q_number Q_first Q_second q0.2.1 q0.2.2.1 q0.2.2.2) 0 0 := by
  refine DTi_of (cc := cX6_singleLashings) (nL := 6) RX6 rfl (by decide) rfl (Nat.le_of_ble_eq_true rfl) (fun g C ret => ?_)
  unfold jX6_singleLashings at h
  refine vv_lv [0, 1] [(0, .ref (X 0)), (1, .int a1)] rfl ?_
  refine vv_aload_n C dX6_singleLashings_0 rfl 0 rfl 1 rfl ?_
  refine vv_get C (q0 := 0) (ci := 6) (k := 1) kinX6_singleLashings_X6 rfl rfl (by decide) kwX6_singleLashings_1 rfl rfl dX6_singleLashings_1 4 rfl ?_
  refine vv_get C (q0 := 1) (ci := 3) (k := 2) kinX6_singleLashings_X3 rfl rfl (by decide) kwX6_singleLashings_2 rfl rfl dX6_singleLashings_4 7 rfl ?_
  refine vv_astore_n C [(2, .ref (Q 0)), (0, .ref (X 0)), (1, .int a1)] dX6_singleLashings_7 rfl (by decide) rfl 8 rfl ?_
  refine vv_iconst C (v := 0) dX6_singleLashings_8 (by decide) 9 rfl ?_
  refine vv_istore_n C [(3, .int 0), (2, .ref (Q 0)), (0, .ref (X 0)), (1, .int a1)] dX6_singleLashings_9 rfl (by decide) rfl 10 rfl ?_
  refine vv_iconst C (v := 0) dX6_singleLashings_10 (by decide) 11 rfl ?_
  refine vv_istore C [(4, .int 0), (3, .int 0), (2, .ref (Q 0)), (0, .ref (X 0)), (1, .int a1)] dX6_singleLashings_11 (by decide) rfl 13 rfl ?_
  refine vv_lv [3, 4, 2, 1, 0] [(0, .ref (X 0)), (1, .int a1), (2, .ref (Q 0)), (3, .int 0), (4, .int 0)] rfl ?_
  have L13 : ∀ (n : Nat) (Y_used_13 : Nat → Int32) (Y_cameBy_13 : Nat → Int32) (Y_reached_13 : Nat → Int32) (v3_13 : Int32) (v4_13 : Int32) (q13 : (Nat → Int32) × (Nat → Int32) × (Nat → Int32) × Int32), jX6_singleLashings_L13 B_piece Q_number Q_first Q_second a1 n Y_used_13 Y_cameBy_13 Y_reached_13 v3_13 v4_13 = some q13 → (VV g D 6 0 0 (wX6_singleLashings c X W R B K Q T Y X_ropes R_hour R_broken B_number B_piece Q_number Q_first Q_second q13.1 q13.2.1 q13.2.2.1) [(3, .int q13.2.2.2)] 78 []) → VV g D 6 0 0 (wX6_singleLashings c X W R B K Q T Y X_ropes R_hour R_broken B_number B_piece Q_number Q_first Q_second Y_used_13 Y_cameBy_13 Y_reached_13) [(0, .ref (X 0)), (1, .int a1), (2, .ref (Q 0)), (3, .int v3_13), (4, .int v4_13)] 13 [] := by
    intro n
    induction n with
    | zero =>
      intro Y_used_13 Y_cameBy_13 Y_reached_13 v3_13 v4_13 q13 h _
      rw [jX6_singleLashings_L13] at h
      cases h
    | succ n ih13 =>
      intro Y_used_13 Y_cameBy_13 Y_reached_13 v3_13 v4_13 q13 h kk13
      rw [jX6_singleLashings_L13] at h
      refine vv_iload C dX6_singleLashings_13 4 rfl 15 rfl ?_
      refine vv_aload_n C dX6_singleLashings_15 rfl 2 rfl 16 rfl ?_
      refine vv_get C (q0 := 4) (ci := 2) (k := 4) kinX6_singleLashings_X2 rfl rfl (by decide) kwX6_singleLashings_3 rfl rfl dX6_singleLashings_16 19 rfl ?_
      refine vv_icmp_ge C 78 22 dX6_singleLashings_19 (by decide) rfl (fun hc => ?_) (fun hc => ?_)
      · replace h := ite_t hc h
        refine vv_lv [3] [(3, .int v3_13)] rfl ?_
        obtain rfl := Option.some.inj h
        exact kk13
      · replace h := ite_f hc h
        refine vv_aload_n C dX6_singleLashings_22 rfl 2 rfl 23 rfl ?_
        refine vv_get C (q0 := 4) (ci := 2) (k := 0) kinX6_singleLashings_X2 rfl rfl (by decide) kwX6_singleLashings_4 rfl rfl dX6_singleLashings_23 26 rfl ?_
        refine vv_iload C dX6_singleLashings_26 4 rfl 28 rfl ?_
        obtain ⟨hi, h⟩ := chk_s h
        refine vv_iald C (q0 := 5) rfl hi dX6_singleLashings_28 29 rfl ?_
        refine vv_istore C [(5, .int (rd Q_first v4_13)), (0, .ref (X 0)), (1, .int a1), (2, .ref (Q 0)), (3, .int v3_13), (4, .int v4_13)] dX6_singleLashings_29 (by decide) rfl 31 rfl ?_
        refine vv_aload_n C dX6_singleLashings_31 rfl 1 rfl 32 rfl ?_
        refine vv_get C (q0 := 0) (ci := 6) (k := 1) kinX6_singleLashings_X6 rfl rfl (by decide) kwX6_singleLashings_1 rfl rfl dX6_singleLashings_32 35 rfl ?_
        refine vv_get C (q0 := 1) (ci := 3) (k := 0) kinX6_singleLashings_X3 rfl rfl (by decide) kwX6_singleLashings_5 rfl rfl dX6_singleLashings_35 38 rfl ?_
        refine vv_get C (q0 := 2) (ci := 0) (k := 10) kinX6_singleLashings_X0 rfl rfl (by decide) kwX6_singleLashings_6 rfl rfl dX6_singleLashings_38 41 rfl ?_
        refine vv_iload C dX6_singleLashings_41 0 rfl 43 rfl ?_
        obtain ⟨hi, h⟩ := chk_s h
        refine vv_iald C (q0 := 3) rfl hi dX6_singleLashings_43 44 rfl ?_
        refine vv_iload_n C dX6_singleLashings_44 rfl 2 rfl 45 rfl ?_
        refine vv_icmp_ne C 72 48 dX6_singleLashings_45 (by decide) rfl (fun hc => ?_) (fun hc => ?_)
        · replace h := ite_f hc h
          refine vv_iinc C (k := 5) [(4, .int (v4_13 + 1)), (5, .int (rd Q_first v4_13)), (0, .ref (X 0)), (1, .int a1), (2, .ref (Q 0)), (3, .int v3_13)] dX6_singleLashings_72 rfl rfl (by decide) rfl 75 rfl ?_
          refine vv_goto C 13 dX6_singleLashings_75 (by decide) ?_
          refine vv_lv [2, 3, 4, 5, 0] [(0, .ref (X 0)), (1, .int a1), (2, .ref (Q 0)), (3, .int v3_13), (4, .int (v4_13 + 1))] rfl ?_
          exact ih13 Y_used_13 Y_cameBy_13 Y_reached_13 v3_13 (v4_13 + 1) _ h kk13
        · replace h := ite_t hc h
          refine vv_aload_n C dX6_singleLashings_48 rfl 1 rfl 49 rfl ?_
          refine vv_get C (q0 := 0) (ci := 6) (k := 3) kinX6_singleLashings_X6 rfl rfl (by decide) kwX6_singleLashings_7 rfl rfl dX6_singleLashings_49 52 rfl ?_
          refine vv_aload_n C dX6_singleLashings_52 rfl 3 rfl 53 rfl ?_
          refine vv_iload C dX6_singleLashings_53 0 rfl 55 rfl ?_
          refine vv_aload_n C dX6_singleLashings_55 rfl 3 rfl 56 rfl ?_
          refine vv_get C (q0 := 4) (ci := 2) (k := 1) kinX6_singleLashings_X2 rfl rfl (by decide) kwX6_singleLashings_8 rfl rfl dX6_singleLashings_56 59 rfl ?_
          refine vv_iload C dX6_singleLashings_59 5 rfl 61 rfl ?_
          obtain ⟨hi, h⟩ := chk_s h
          refine vv_iald C (q0 := 6) rfl hi dX6_singleLashings_61 62 rfl ?_
          obtain ⟨r1, hr1, h⟩ := bnd_s h
          refine vv_callVi C (fun l => mt_X5_countApart l D c Y Q Y_used_13 Y_cameBy_13 Y_reached_13 Q_number Q_first Q_second (rd Q_first v4_13) (rd Q_second v4_13) r1 hr1) gX6_singleLashings_X5_countApart rfl rfl rfl yd_X5_countApart ⟨Nat.le_of_ble_eq_true rfl, Nat.le_of_ble_eq_true rfl⟩ [7, 8, 9, 10, 4, 5, 6] rfl (by decide) 0 rfl rfl (wX6_singleLashings c X W R B K Q T Y X_ropes R_hour R_broken B_number B_piece Q_number Q_first Q_second r1.2.1 r1.2.2.1 r1.2.2.2) [(false, 0), (false, 1), (false, 2), (false, 3), (true, 4), (true, 5), (true, 6), (true, 0), (true, 1), (true, 2), (true, 3)] rfl (by decide) rfl rfl [] rfl (Nat.le_of_ble_eq_true rfl) ⟨Nat.le_of_ble_eq_true rfl, Nat.le_of_ble_eq_true rfl⟩ dX6_singleLashings_62 65 0 0 rfl ⟨rfl, rfl⟩ ?_
          refine vv_iconst C (v := 1) dX6_singleLashings_65 (by decide) 66 rfl ?_
          refine vv_icmp_ne C 72 69 dX6_singleLashings_66 (by decide) rfl (fun hc => ?_) (fun hc => ?_)
          · replace h := ite_f hc h
            refine vv_iinc C (k := 5) [(4, .int (v4_13 + 1)), (5, .int (rd Q_first v4_13)), (0, .ref (X 0)), (1, .int a1), (2, .ref (Q 0)), (3, .int v3_13)] dX6_singleLashings_72 rfl rfl (by decide) rfl 75 rfl ?_
            refine vv_goto C 13 dX6_singleLashings_75 (by decide) ?_
            refine vv_lv [2, 3, 4, 5, 0] [(0, .ref (X 0)), (1, .int a1), (2, .ref (Q 0)), (3, .int v3_13), (4, .int (v4_13 + 1))] rfl ?_
            exact ih13 r1.2.1 r1.2.2.1 r1.2.2.2 v3_13 (v4_13 + 1) _ h kk13
          · replace h := ite_t hc h
            refine vv_iinc C (k := 4) [(3, .int (v3_13 + 1)), (5, .int (rd Q_first v4_13)), (0, .ref (X 0)), (1, .int a1), (2, .ref (Q 0)), (4, .int v4_13)] dX6_singleLashings_69 rfl rfl (by decide) rfl 72 rfl ?_
            refine vv_iinc C (k := 5) [(4, .int (v4_13 + 1)), (3, .int (v3_13 + 1)), (5, .int (rd Q_first v4_13)), (0, .ref (X 0)), (1, .int a1), (2, .ref (Q 0))] dX6_singleLashings_72 rfl rfl (by decide) rfl 75 rfl ?_
            refine vv_goto C 13 dX6_singleLashings_75 (by decide) ?_
            refine vv_lv [3, 4, 5, 1, 0] [(0, .ref (X 0)), (1, .int a1), (2, .ref (Q 0)), (3, .int (v3_13 + 1)), (4, .int (v4_13 + 1))] rfl ?_
            exact ih13 r1.2.1 r1.2.2.1 r1.2.2.2 (v3_13 + 1) (v4_13 + 1) _ h kk13
  obtain ⟨r2, hr2, h⟩ := bnd_s h
  refine L13 FU Y_used Y_cameBy Y_reached 0 0 r2 hr2 ?_
  refine vv_iload_n C dX6_singleLashings_78 rfl 0 rfl 79 rfl ?_
  obtain rfl := Option.some.inj h
  exact ret _ _ dX6_singleLashings_79
abbrev wX6_pieceSum (c : Nat → ClassId) (X : Nat → Nat) (W : Nat → Nat) (R : Nat → Nat) (B : Nat → Nat) (K : Nat → Nat) (Q : Nat → Nat) (T : Nat → Nat) (Y : Nat → Nat) (X_ropes : Int32) (R_hour : Int32) (R_broken : Int32) (B_number : Int32) (B_lift : Nat → Int32) (B_water : Nat → Int32) (B_goods : Nat → Int32) (B_people : Nat → Int32) (B_piece : Nat → Int32) : va_W := [(X 0, .inr (6, [.ref (W 0), .ref (R 0), .ref (T 0), .ref (Y 0), .int X_ropes])), (R 0, .inr (3, [.ref (B 0), .ref (K 0), .ref (Q 0), .ref (R 1), .ref (R 2), .int R_hour, .int R_broken])), (B 0, .inr (0, [.ref (B 1), .ref (B 2), .ref (B 3), .ref (B 4), .ref (B 5), .ref (B 6), .ref (B 7), .ref (B 8), .ref (B 9), .ref (B 10), .ref (B 11), .int B_number])), aI c (B 3) 24 B_lift, aI c (B 5) 24 B_water, aI c (B 6) 24 B_goods, aI c (B 7) 24 B_people, aI c (B 11) 24 B_piece]
abbrev rmX6_pieceSum : Room := { frames := 1, cells := 0, slots := 0, locals := 21 }
theorem yd_X6_pieceSum : yX6_pieceSum.cls = RX6 ∧ yX6_pieceSum.cls ≠ "java/lang/invoke/MethodHandle" ∧ yX6_pieceSum.cls ≠ "java/lang/invoke/VarHandle" ∧ (parseMethodDescriptor yX6_pieceSum.desc).map (fun d => d.parameters.length) = some 2 := by decide +kernel
theorem kwX6_pieceSum_1 : Cond.fieldLink RX6 19 "BarrelRaft" "raft" "LBarrelRaft$Raft;" ∈ wsX6_pieceSum := List.mem_of_getElem? (i := 1) rfl
set_option maxRecDepth 20000 in
theorem kinX6_pieceSum_X6 : ∀ w ∈ u_ws RX6 TX6 5, w ∈ wsX6_pieceSum := by decide +kernel
theorem kwX6_pieceSum_2 : Cond.fieldLink RX6 94 "BarrelRaft$Raft" "barrels" "LBarrelRaft$Barrels;" ∈ wsX6_pieceSum := List.mem_of_getElem? (i := 2) rfl
set_option maxRecDepth 20000 in
theorem kinX6_pieceSum_X3 : ∀ w ∈ u_ws RX3 TX3 7, w ∈ wsX6_pieceSum := by decide +kernel
theorem kwX6_pieceSum_3 : Cond.fieldLink RX6 118 "BarrelRaft$Barrels" "number" "I" ∈ wsX6_pieceSum := List.mem_of_getElem? (i := 3) rfl
set_option maxRecDepth 20000 in
theorem kinX6_pieceSum_X0 : ∀ w ∈ u_ws RX0 TX0 12, w ∈ wsX6_pieceSum := by decide +kernel
theorem kwX6_pieceSum_4 : Cond.fieldLink RX6 250 "BarrelRaft$Barrels" "piece" "[I" ∈ wsX6_pieceSum := List.mem_of_getElem? (i := 4) rfl
theorem kwX6_pieceSum_5 : Cond.fieldLink RX6 204 "BarrelRaft$Barrels" "people" "[I" ∈ wsX6_pieceSum := List.mem_of_getElem? (i := 5) rfl
def jX6_pieceSum_L14 (B_number : Int32) (B_lift : Nat → Int32) (B_water : Nat → Int32) (B_goods : Nat → Int32) (B_people : Nat → Int32) (B_piece : Nat → Int32) (u1 : Int32) (u2 : Int32) (n : Nat) (v4_14 : Int32) (v5_14 : Int32) : Option (Int32) :=
  match n with
  | 0 => none
  | n + 1 => (if B_number ≤ v5_14 then some v4_14 else chk 24 v5_14 ((if rd B_piece v5_14 = u1 then (if u2 = 0 then jX6_pieceSum_L14 B_number B_lift B_water B_goods B_people B_piece u1 u2 n (v4_14 + 1) (v5_14 + 1) else (if u2 = 1 then bnd (jX0_liftNow B_lift B_water v5_14) (fun r1 => jX6_pieceSum_L14 B_number B_lift B_water B_goods B_people B_piece u1 u2 n (v4_14 + r1) (v5_14 + 1)) else (if u2 = 2 then bnd (jX0_loadOf B_goods B_people v5_14) (fun r2 => jX6_pieceSum_L14 B_number B_lift B_water B_goods B_people B_piece u1 u2 n (v4_14 + r2) (v5_14 + 1)) else chk 24 v5_14 (jX6_pieceSum_L14 B_number B_lift B_water B_goods B_people B_piece u1 u2 n (v4_14 + (rd B_people v5_14)) (v5_14 + 1))))) else jX6_pieceSum_L14 B_number B_lift B_water B_goods B_people B_piece u1 u2 n v4_14 (v5_14 + 1))))
def jX6_pieceSum (B_number : Int32) (B_lift : Nat → Int32) (B_water : Nat → Int32) (B_goods : Nat → Int32) (B_people : Nat → Int32) (B_piece : Nat → Int32) (a1 : Int32) (a2 : Int32) : Option (Int32) :=
  bnd (jX6_pieceSum_L14 B_number B_lift B_water B_goods B_people B_piece a1 a2 FU 0 0) (fun r3 => some r3)
set_option maxHeartbeats 4000000 in
set_option maxRecDepth 100000 in
theorem mt_X6_pieceSum (l : Launch) (D : va_G) (c : Nat → ClassId) (X : Nat → Nat) (W : Nat → Nat) (R : Nat → Nat) (B : Nat → Nat) (K : Nat → Nat) (Q : Nat → Nat) (T : Nat → Nat) (Y : Nat → Nat) (X_ropes : Int32) (R_hour : Int32) (R_broken : Int32) (B_number : Int32) (B_lift : Nat → Int32) (B_water : Nat → Int32) (B_goods : Nat → Int32) (B_people : Nat → Int32) (B_piece : Nat → Int32) (a1 : Int32) (a2 : Int32) (q0 : Int32) (h : jX6_pieceSum B_number B_lift B_water B_goods B_people B_piece a1 a2 = some q0) : DTi l yX6_pieceSum wsX6_pieceSum rmX6_pieceSum D c (wX6_pieceSum c X W R B K Q T Y X_ropes R_hour R_broken B_number B_lift B_water B_goods B_people B_piece) [.ref (X 0), .int a1, .int a2] q0 (wX6_pieceSum c X W R B K Q T Y X_ropes R_hour R_broken B_number B_lift B_water B_goods B_people B_piece) 0 0 := by
  refine DTi_of (cc := cX6_pieceSum) (nL := 6) RX6 rfl (by decide) rfl (Nat.le_of_ble_eq_true rfl) (fun g C ret => ?_)
  unfold jX6_pieceSum at h
  refine vv_lv [0, 1, 2] [(0, .ref (X 0)), (1, .int a1), (2, .int a2)] rfl ?_
  refine vv_aload_n C dX6_pieceSum_0 rfl 0 rfl 1 rfl ?_
  refine vv_get C (q0 := 0) (ci := 6) (k := 1) kinX6_pieceSum_X6 rfl rfl (by decide) kwX6_pieceSum_1 rfl rfl dX6_pieceSum_1 4 rfl ?_
  refine vv_get C (q0 := 1) (ci := 3) (k := 0) kinX6_pieceSum_X3 rfl rfl (by decide) kwX6_pieceSum_2 rfl rfl dX6_pieceSum_4 7 rfl ?_
  refine vv_astore_n C [(3, .ref (B 0)), (0, .ref (X 0)), (1, .int a1), (2, .int a2)] dX6_pieceSum_7 rfl (by decide) rfl 8 rfl ?_
  refine vv_iconst C (v := 0) dX6_pieceSum_8 (by decide) 9 rfl ?_
  refine vv_istore C [(4, .int 0), (3, .ref (B 0)), (0, .ref (X 0)), (1, .int a1), (2, .int a2)] dX6_pieceSum_9 (by decide) rfl 11 rfl ?_
  refine vv_iconst C (v := 0) dX6_pieceSum_11 (by decide) 12 rfl ?_
  refine vv_istore C [(5, .int 0), (4, .int 0), (3, .ref (B 0)), (0, .ref (X 0)), (1, .int a1), (2, .int a2)] dX6_pieceSum_12 (by decide) rfl 14 rfl ?_
  refine vv_lv [4, 5, 2, 1, 0] [(1, .int a1), (2, .int a2), (3, .ref (B 0)), (4, .int 0), (5, .int 0)] rfl ?_
  have L14 : ∀ (n : Nat) (v4_14 : Int32) (v5_14 : Int32) (q14 : Int32), jX6_pieceSum_L14 B_number B_lift B_water B_goods B_people B_piece a1 a2 n v4_14 v5_14 = some q14 → (VV g D 6 0 0 (wX6_pieceSum c X W R B K Q T Y X_ropes R_hour R_broken B_number B_lift B_water B_goods B_people B_piece) [(4, .int q14)] 112 []) → VV g D 6 0 0 (wX6_pieceSum c X W R B K Q T Y X_ropes R_hour R_broken B_number B_lift B_water B_goods B_people B_piece) [(1, .int a1), (2, .int a2), (3, .ref (B 0)), (4, .int v4_14), (5, .int v5_14)] 14 [] := by
    intro n
    induction n with
    | zero =>
      intro v4_14 v5_14 q14 h _
      rw [jX6_pieceSum_L14] at h
      cases h
    | succ n ih14 =>
      intro v4_14 v5_14 q14 h kk14
      rw [jX6_pieceSum_L14] at h
      refine vv_iload C dX6_pieceSum_14 4 rfl 16 rfl ?_
      refine vv_aload_n C dX6_pieceSum_16 rfl 2 rfl 17 rfl ?_
      refine vv_get C (q0 := 2) (ci := 0) (k := 11) kinX6_pieceSum_X0 rfl rfl (by decide) kwX6_pieceSum_3 rfl rfl dX6_pieceSum_17 20 rfl ?_
      refine vv_icmp_ge C 112 23 dX6_pieceSum_20 (by decide) rfl (fun hc => ?_) (fun hc => ?_)
      · replace h := ite_t hc h
        refine vv_lv [3] [(4, .int v4_14)] rfl ?_
        obtain rfl := Option.some.inj h
        exact kk14
      · replace h := ite_f hc h
        refine vv_aload_n C dX6_pieceSum_23 rfl 2 rfl 24 rfl ?_
        refine vv_get C (q0 := 2) (ci := 0) (k := 10) kinX6_pieceSum_X0 rfl rfl (by decide) kwX6_pieceSum_4 rfl rfl dX6_pieceSum_24 27 rfl ?_
        refine vv_iload C dX6_pieceSum_27 4 rfl 29 rfl ?_
        obtain ⟨hi, h⟩ := chk_s h
        refine vv_iald C (q0 := 7) rfl hi dX6_pieceSum_29 30 rfl ?_
        refine vv_iload_n C dX6_pieceSum_30 rfl 0 rfl 31 rfl ?_
        refine vv_icmp_ne C 106 34 dX6_pieceSum_31 (by decide) rfl (fun hc => ?_) (fun hc => ?_)
        · replace h := ite_f hc h
          refine vv_iinc C (k := 4) [(5, .int (v5_14 + 1)), (1, .int a1), (2, .int a2), (3, .ref (B 0)), (4, .int v4_14)] dX6_pieceSum_106 rfl rfl (by decide) rfl 109 rfl ?_
          refine vv_goto C 14 dX6_pieceSum_109 (by decide) ?_
          refine vv_lv [1, 2, 3, 4, 0] [(1, .int a1), (2, .int a2), (3, .ref (B 0)), (4, .int v4_14), (5, .int (v5_14 + 1))] rfl ?_
          exact ih14 v4_14 (v5_14 + 1) _ h kk14
        · replace h := ite_t hc h
          refine vv_iload_n C dX6_pieceSum_34 rfl 1 rfl 35 rfl ?_
          by_cases hn0 : a2 = 0
          · replace h := ite_t hn0 h
            refine vv_swIn C (off := 25) 60 dX6_pieceSum_35 (by rw [hn0]; decide) (by rw [hn0]; decide) (by rw [hn0]; rfl) (by decide) ?_
            refine vv_iinc C (k := 3) [(4, .int (v4_14 + 1)), (1, .int a1), (2, .int a2), (3, .ref (B 0)), (5, .int v5_14)] dX6_pieceSum_60 rfl rfl (by decide) rfl 63 rfl ?_
            refine vv_goto C 106 dX6_pieceSum_63 (by decide) ?_
            refine vv_iinc C (k := 4) [(5, .int (v5_14 + 1)), (4, .int (v4_14 + 1)), (1, .int a1), (2, .int a2), (3, .ref (B 0))] dX6_pieceSum_106 rfl rfl (by decide) rfl 109 rfl ?_
            refine vv_goto C 14 dX6_pieceSum_109 (by decide) ?_
            refine vv_lv [2, 3, 4, 1, 0] [(1, .int a1), (2, .int a2), (3, .ref (B 0)), (4, .int (v4_14 + 1)), (5, .int (v5_14 + 1))] rfl ?_
            exact ih14 (v4_14 + 1) (v5_14 + 1) _ h kk14
          · replace h := ite_f hn0 h
            by_cases hn1 : a2 = 1
            · replace h := ite_t hn1 h
              refine vv_swIn C (off := 31) 66 dX6_pieceSum_35 (by rw [hn1]; decide) (by rw [hn1]; decide) (by rw [hn1]; rfl) (by decide) ?_
              refine vv_iload C dX6_pieceSum_66 3 rfl 68 rfl ?_
              refine vv_aload_n C dX6_pieceSum_68 rfl 2 rfl 69 rfl ?_
              refine vv_iload C dX6_pieceSum_69 4 rfl 71 rfl ?_
              obtain ⟨r1, hr1, h⟩ := bnd_s h
              refine vv_callVi C (fun l => mt_X0_liftNow l D c B B_number B_lift B_water v5_14 r1 hr1) gX6_pieceSum_X0_liftNow rfl rfl rfl yd_X0_liftNow ⟨Nat.le_of_ble_eq_true rfl, Nat.le_of_ble_eq_true rfl⟩ [2, 3, 4] rfl (by decide) 0 rfl rfl (wX6_pieceSum c X W R B K Q T Y X_ropes R_hour R_broken B_number B_lift B_water B_goods B_people B_piece) [(false, 0), (false, 1), (true, 0), (true, 1), (true, 2), (false, 5), (false, 6), (false, 7)] rfl (by decide) rfl rfl [.int v4_14] rfl (Nat.le_of_ble_eq_true rfl) ⟨Nat.le_of_ble_eq_true rfl, Nat.le_of_ble_eq_true rfl⟩ dX6_pieceSum_71 74 0 0 rfl ⟨rfl, rfl⟩ ?_
              refine vv_iadd C dX6_pieceSum_74 75 rfl ?_
              refine vv_istore C [(4, .int (v4_14 + r1)), (1, .int a1), (2, .int a2), (3, .ref (B 0)), (5, .int v5_14)] dX6_pieceSum_75 (by decide) rfl 77 rfl ?_
              refine vv_goto C 106 dX6_pieceSum_77 (by decide) ?_
              refine vv_iinc C (k := 4) [(5, .int (v5_14 + 1)), (4, .int (v4_14 + r1)), (1, .int a1), (2, .int a2), (3, .ref (B 0))] dX6_pieceSum_106 rfl rfl (by decide) rfl 109 rfl ?_
              refine vv_goto C 14 dX6_pieceSum_109 (by decide) ?_
              refine vv_lv [2, 3, 4, 1, 0] [(1, .int a1), (2, .int a2), (3, .ref (B 0)), (4, .int (v4_14 + r1)), (5, .int (v5_14 + 1))] rfl ?_
              exact ih14 (v4_14 + r1) (v5_14 + 1) _ h kk14
            · replace h := ite_f hn1 h
              by_cases hn2 : a2 = 2
              · replace h := ite_t hn2 h
                refine vv_swIn C (off := 45) 80 dX6_pieceSum_35 (by rw [hn2]; decide) (by rw [hn2]; decide) (by rw [hn2]; rfl) (by decide) ?_
                refine vv_iload C dX6_pieceSum_80 3 rfl 82 rfl ?_
                refine vv_aload_n C dX6_pieceSum_82 rfl 2 rfl 83 rfl ?_
                refine vv_iload C dX6_pieceSum_83 4 rfl 85 rfl ?_
                obtain ⟨r2, hr2, h⟩ := bnd_s h
                refine vv_callVi C (fun l => mt_X0_loadOf l D c B B_number B_goods B_people v5_14 r2 hr2) gX6_pieceSum_X0_loadOf rfl rfl rfl yd_X0_loadOf ⟨Nat.le_of_ble_eq_true rfl, Nat.le_of_ble_eq_true rfl⟩ [2, 5, 6] rfl (by decide) 0 rfl rfl (wX6_pieceSum c X W R B K Q T Y X_ropes R_hour R_broken B_number B_lift B_water B_goods B_people B_piece) [(false, 0), (false, 1), (true, 0), (false, 3), (false, 4), (true, 1), (true, 2), (false, 7)] rfl (by decide) rfl rfl [.int v4_14] rfl (Nat.le_of_ble_eq_true rfl) ⟨Nat.le_of_ble_eq_true rfl, Nat.le_of_ble_eq_true rfl⟩ dX6_pieceSum_85 88 0 0 rfl ⟨rfl, rfl⟩ ?_
                refine vv_iadd C dX6_pieceSum_88 89 rfl ?_
                refine vv_istore C [(4, .int (v4_14 + r2)), (1, .int a1), (2, .int a2), (3, .ref (B 0)), (5, .int v5_14)] dX6_pieceSum_89 (by decide) rfl 91 rfl ?_
                refine vv_goto C 106 dX6_pieceSum_91 (by decide) ?_
                refine vv_iinc C (k := 4) [(5, .int (v5_14 + 1)), (4, .int (v4_14 + r2)), (1, .int a1), (2, .int a2), (3, .ref (B 0))] dX6_pieceSum_106 rfl rfl (by decide) rfl 109 rfl ?_
                refine vv_goto C 14 dX6_pieceSum_109 (by decide) ?_
                refine vv_lv [2, 3, 4, 1, 0] [(1, .int a1), (2, .int a2), (3, .ref (B 0)), (4, .int (v4_14 + r2)), (5, .int (v5_14 + 1))] rfl ?_
                exact ih14 (v4_14 + r2) (v5_14 + 1) _ h kk14
              · replace h := ite_f hn2 h
                refine vv_swOut C 94 dX6_pieceSum_35 (sw_out (fun j hj => ?_)) (by decide) ?_
                · rcases (show j = 0 ∨ j = 1 ∨ j = 2 by omega) with rfl | rfl | rfl
                  · exact fun e => hn0 (e.trans (by decide))
                  · exact fun e => hn1 (e.trans (by decide))
                  · exact fun e => hn2 (e.trans (by decide))
                · refine vv_iload C dX6_pieceSum_94 3 rfl 96 rfl ?_
                  refine vv_aload_n C dX6_pieceSum_96 rfl 2 rfl 97 rfl ?_
                  refine vv_get C (q0 := 2) (ci := 0) (k := 6) kinX6_pieceSum_X0 rfl rfl (by decide) kwX6_pieceSum_5 rfl rfl dX6_pieceSum_97 100 rfl ?_
                  refine vv_iload C dX6_pieceSum_100 4 rfl 102 rfl ?_
                  obtain ⟨hi, h⟩ := chk_s h
                  refine vv_iald C (q0 := 6) rfl hi dX6_pieceSum_102 103 rfl ?_
                  refine vv_iadd C dX6_pieceSum_103 104 rfl ?_
                  refine vv_istore C [(4, .int (v4_14 + (rd B_people v5_14))), (1, .int a1), (2, .int a2), (3, .ref (B 0)), (5, .int v5_14)] dX6_pieceSum_104 (by decide) rfl 106 rfl ?_
                  refine vv_iinc C (k := 4) [(5, .int (v5_14 + 1)), (4, .int (v4_14 + (rd B_people v5_14))), (1, .int a1), (2, .int a2), (3, .ref (B 0))] dX6_pieceSum_106 rfl rfl (by decide) rfl 109 rfl ?_
                  refine vv_goto C 14 dX6_pieceSum_109 (by decide) ?_
                  refine vv_lv [2, 3, 4, 1, 0] [(1, .int a1), (2, .int a2), (3, .ref (B 0)), (4, .int (v4_14 + (rd B_people v5_14))), (5, .int (v5_14 + 1))] rfl ?_
                  exact ih14 (v4_14 + (rd B_people v5_14)) (v5_14 + 1) _ h kk14
  obtain ⟨r3, hr3, h⟩ := bnd_s h
  refine L14 FU 0 0 r3 hr3 ?_
  refine vv_iload C dX6_pieceSum_112 0 rfl 114 rfl ?_
  obtain rfl := Option.some.inj h
  exact ret _ _ dX6_pieceSum_114
