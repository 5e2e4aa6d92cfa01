abbrev wX1_append (c : Nat → ClassId) (K : Nat → Nat) (K_number : Int32) (K_seat : Nat → Int32) (K_state : Nat → Int32) : va_W := [(K 0, .inr (1, [.ref (K 1), .ref (K 2), .int K_number])), aI c (K 1) 8 K_seat, aI c (K 2) 8 K_state]
abbrev rmX1_append : Room := { frames := 0, cells := 0, slots := 0, locals := 0 }
theorem yd_X1_append : yX1_append.cls = RX1 ∧ yX1_append.cls ≠ "java/lang/invoke/MethodHandle" ∧ yX1_append.cls ≠ "java/lang/invoke/VarHandle" ∧ (parseMethodDescriptor yX1_append.desc).map (fun d => d.parameters.length) = some 1 := by decide +kernel
theorem kwX1_append_1 : Cond.fieldLink RX1 18 "BarrelRaft$Castaways" "number" "I" ∈ wsX1_append := List.mem_of_getElem? (i := 1) rfl
set_option maxRecDepth 20000 in
theorem kinX1_append_X1 : ∀ w ∈ u_ws RX1 TX1 3, w ∈ wsX1_append := by decide +kernel
theorem kwX1_append_2 : Cond.fieldLink RX1 9 "BarrelRaft$Castaways" "seat" "[I" ∈ wsX1_append := List.mem_of_getElem? (i := 2) rfl
theorem kwX1_append_3 : Cond.fieldLink RX1 15 "BarrelRaft$Castaways" "state" "[I" ∈ wsX1_append := List.mem_of_getElem? (i := 3) rfl
def jX1_append (K_number : Int32) (K_seat : Nat → Int32) (K_state : Nat → Int32) (a1 : Int32) : Option (Int32 × Int32 × (Nat → Int32) × (Nat → Int32)) :=
  (if 8 ≤ K_number then some (K_number, K_number, K_seat, K_state) else chk 8 K_number (chk 8 K_number (some (K_number, K_number + 1, wr K_seat K_number a1, wr K_state K_number 0))))
set_option maxHeartbeats 4000000 in
set_option maxRecDepth 100000 in
theorem mt_X1_append (l : Launch) (D : va_G) (c : Nat → ClassId) (K : Nat → Nat) (K_number : Int32) (K_seat : Nat → Int32) (K_state : Nat → Int32) (a1 : Int32) (q0 : Int32 × Int32 × (Nat → Int32) × (Nat → Int32)) (h : jX1_append K_number K_seat K_state a1 = some q0) : DTi l yX1_append wsX1_append rmX1_append D c (wX1_append c K K_number K_seat K_state) [.ref (K 0), .int a1] q0.1 (wX1_append c K q0.2.1 q0.2.2.1 q0.2.2.2) 0 0 := by
  refine DTi_of (cc := cX1_append) (nL := 3) RX1 rfl (by decide) rfl (Nat.le_of_ble_eq_true rfl) (fun g C ret => ?_)
  unfold jX1_append at h
  refine vv_lv [0, 1] [(0, .ref (K 0)), (1, .int a1)] rfl ?_
  refine vv_aload_n C dX1_append_0 rfl 0 rfl 1 rfl ?_
  refine vv_get C (q0 := 0) (ci := 1) (k := 2) kinX1_append_X1 rfl rfl (by decide) kwX1_append_1 rfl rfl dX1_append_1 4 rfl ?_
  refine vv_istore_n C [(2, .int K_number), (0, .ref (K 0)), (1, .int a1)] dX1_append_4 rfl (by decide) rfl 5 rfl ?_
  refine vv_iload_n C dX1_append_5 rfl 0 rfl 6 rfl ?_
  refine vv_bipush C (v := 8) dX1_append_6 (by decide) 8 rfl ?_
  refine vv_icmp_ge C 35 11 dX1_append_8 (by decide) rfl (fun hc => ?_) (fun hc => ?_)
  · replace h := ite_t hc h
    refine vv_iload_n C dX1_append_35 rfl 0 rfl 36 rfl ?_
    obtain rfl := Option.some.inj h
    exact ret _ _ dX1_append_36
  · replace h := ite_f hc h
    refine vv_aload_n C dX1_append_11 rfl 1 rfl 12 rfl ?_
    refine vv_get C (q0 := 0) (ci := 1) (k := 0) kinX1_append_X1 rfl rfl (by decide) kwX1_append_2 rfl rfl dX1_append_12 15 rfl ?_
    refine vv_iload_n C dX1_append_15 rfl 0 rfl 16 rfl ?_
    refine vv_iload_n C dX1_append_16 rfl 2 rfl 17 rfl ?_
    obtain ⟨hi, h⟩ := chk_s h
    refine vv_iast C (q0 := 1) (wX1_append c K K_number (wr K_seat K_number a1) K_state) rfl hi rfl dX1_append_17 18 rfl ?_
    refine vv_aload_n C dX1_append_18 rfl 1 rfl 19 rfl ?_
    refine vv_get C (q0 := 0) (ci := 1) (k := 1) kinX1_append_X1 rfl rfl (by decide) kwX1_append_3 rfl rfl dX1_append_19 22 rfl ?_
    refine vv_iload_n C dX1_append_22 rfl 0 rfl 23 rfl ?_
    refine vv_iconst C (v := 0) dX1_append_23 (by decide) 24 rfl ?_
    obtain ⟨hi, h⟩ := chk_s h
    refine vv_iast C (q0 := 2) (wX1_append c K K_number (wr K_seat K_number a1) (wr K_state K_number 0)) rfl hi rfl dX1_append_24 25 rfl ?_
    refine vv_aload_n C dX1_append_25 rfl 1 rfl 26 rfl ?_
    refine vv_dup C dX1_append_26 rfl 27 rfl ?_
    refine vv_get C (q0 := 0) (ci := 1) (k := 2) kinX1_append_X1 rfl rfl (by decide) kwX1_append_1 rfl rfl dX1_append_27 30 rfl ?_
    refine vv_iconst C (v := 1) dX1_append_30 (by decide) 31 rfl ?_
    refine vv_iadd C dX1_append_31 32 rfl ?_
    refine vv_put C (q0 := 0) (ci := 1) (k := 2) (ty := .int) (wX1_append c K (K_number + 1) (wr K_seat K_number a1) (wr K_state K_number 0)) tyX1 tyX1_ok nmX1 kinX1_append_X1 rfl rfl (by decide) kwX1_append_1 rfl rfl rfl rfl rfl (Nat.le_of_ble_eq_true rfl) rfl dX1_append_32 35 rfl ?_
    refine vv_iload_n C dX1_append_35 rfl 0 rfl 36 rfl ?_
    obtain rfl := Option.some.inj h
    exact ret _ _ dX1_append_36
abbrev wX1_copyFrom (c : Nat → ClassId) (K : Nat → Nat) (F : Nat → Nat) (K_number : Int32) (K_seat : Nat → Int32) (K_state : Nat → Int32) (F_number : Int32) (F_seat : Nat → Int32) (F_state : Nat → Int32) : va_W := [(K 0, .inr (1, [.ref (K 1), .ref (K 2), .int K_number])), aI c (K 1) 8 K_seat, aI c (K 2) 8 K_state, (F 0, .inr (1, [.ref (F 1), .ref (F 2), .int F_number])), aI c (F 1) 8 F_seat, aI c (F 2) 8 F_state]
abbrev rmX1_copyFrom : Room := { frames := 1, cells := 0, slots := 0, locals := 60 }
theorem yd_X1_copyFrom : yX1_copyFrom.cls = RX1 ∧ yX1_copyFrom.cls ≠ "java/lang/invoke/MethodHandle" ∧ yX1_copyFrom.cls ≠ "java/lang/invoke/VarHandle" ∧ (parseMethodDescriptor yX1_copyFrom.desc).map (fun d => d.parameters.length) = some 1 := by decide +kernel
theorem kwX1_copyFrom_1 : Cond.fieldLink RX1 9 "BarrelRaft$Castaways" "seat" "[I" ∈ wsX1_copyFrom := List.mem_of_getElem? (i := 1) rfl
set_option maxRecDepth 20000 in
theorem kinX1_copyFrom_X1 : ∀ w ∈ u_ws RX1 TX1 3, w ∈ wsX1_copyFrom := by decide +kernel
theorem kwX1_copyFrom_2 : Cond.methodLink RX1 29 arraycopyName ∈ wsX1_copyFrom := List.mem_of_getElem? (i := 2) rfl
theorem kwX1_copyFrom_3 : Cond.native arraycopyName ∈ wsX1_copyFrom := List.mem_of_getElem? (i := 3) rfl
theorem kwX1_copyFrom_4 : Cond.static arraycopyName ∈ wsX1_copyFrom := List.mem_of_getElem? (i := 4) rfl
theorem kwX1_copyFrom_5 : Cond.initialized "java/lang/System" ∈ wsX1_copyFrom := List.mem_of_getElem? (i := 5) rfl
theorem kwX1_copyFrom_6 : Cond.fieldLink RX1 15 "BarrelRaft$Castaways" "state" "[I" ∈ wsX1_copyFrom := List.mem_of_getElem? (i := 6) rfl
theorem kwX1_copyFrom_7 : Cond.fieldLink RX1 18 "BarrelRaft$Castaways" "number" "I" ∈ wsX1_copyFrom := List.mem_of_getElem? (i := 7) rfl
def jX1_copyFrom (K_number : Int32) (K_seat : Nat → Int32) (K_state : Nat → Int32) (F_number : Int32) (F_seat : Nat → Int32) (F_state : Nat → Int32) : Option (Int32 × (Nat → Int32) × (Nat → Int32)) :=
  chkP (CPOK 8 8 0 0 8) (chkP (CPOK 8 8 0 0 8) (some (F_number, cpy F_seat K_seat 0 0 8, cpy F_state K_state 0 0 8)))
set_option maxHeartbeats 4000000 in
set_option maxRecDepth 100000 in
theorem mt_X1_copyFrom (l : Launch) (D : va_G) (c : Nat → ClassId) (K : Nat → Nat) (F : Nat → Nat) (K_number : Int32) (K_seat : Nat → Int32) (K_state : Nat → Int32) (F_number : Int32) (F_seat : Nat → Int32) (F_state : Nat → Int32) (q0 : Int32 × (Nat → Int32) × (Nat → Int32)) (h : jX1_copyFrom K_number K_seat K_state F_number F_seat F_state = some q0) : DTv l yX1_copyFrom wsX1_copyFrom rmX1_copyFrom D c (wX1_copyFrom c K F K_number K_seat K_state F_number F_seat F_state) [.ref (K 0), .ref (F 0)] (wX1_copyFrom c K F q0.1 q0.2.1 q0.2.2 F_number F_seat F_state) 0 0 := by
  refine DTv_of (cc := cX1_copyFrom) (nL := 2) RX1 rfl (by decide) rfl (Nat.le_of_ble_eq_true rfl) (fun g C ret => ?_)
  unfold jX1_copyFrom at h
  refine vv_lv [0, 1] [(0, .ref (K 0)), (1, .ref (F 0))] rfl ?_
  refine vv_aload_n C dX1_copyFrom_0 rfl 1 rfl 1 rfl ?_
  refine vv_get C (q0 := 3) (ci := 1) (k := 0) kinX1_copyFrom_X1 rfl rfl (by decide) kwX1_copyFrom_1 rfl rfl dX1_copyFrom_1 4 rfl ?_
  refine vv_iconst C (v := 0) dX1_copyFrom_4 (by decide) 5 rfl ?_
  refine vv_aload_n C dX1_copyFrom_5 rfl 0 rfl 6 rfl ?_
  refine vv_get C (q0 := 0) (ci := 1) (k := 0) kinX1_copyFrom_X1 rfl rfl (by decide) kwX1_copyFrom_1 rfl rfl dX1_copyFrom_6 9 rfl ?_
  refine vv_iconst C (v := 0) dX1_copyFrom_9 (by decide) 10 rfl ?_
  refine vv_bipush C (v := 8) dX1_copyFrom_10 (by decide) 12 rfl ?_
  obtain ⟨hcp, h⟩ := chkP_s h
  refine vv_copy C (q0 := 4) (q1 := 1) (wX1_copyFrom c K F K_number (cpy F_seat K_seat 0 0 8) K_state F_number F_seat F_state) kwX1_copyFrom_2 kwX1_copyFrom_3 kwX1_copyFrom_4 kwX1_copyFrom_5 rfl rfl hcp ⟨Nat.le_of_ble_eq_true rfl, Nat.le_of_ble_eq_true rfl⟩ rfl dX1_copyFrom_12 15 rfl ?_
  refine vv_aload_n C dX1_copyFrom_15 rfl 1 rfl 16 rfl ?_
  refine vv_get C (q0 := 3) (ci := 1) (k := 1) kinX1_copyFrom_X1 rfl rfl (by decide) kwX1_copyFrom_6 rfl rfl dX1_copyFrom_16 19 rfl ?_
  refine vv_iconst C (v := 0) dX1_copyFrom_19 (by decide) 20 rfl ?_
  refine vv_aload_n C dX1_copyFrom_20 rfl 0 rfl 21 rfl ?_
  refine vv_get C (q0 := 0) (ci := 1) (k := 1) kinX1_copyFrom_X1 rfl rfl (by decide) kwX1_copyFrom_6 rfl rfl dX1_copyFrom_21 24 rfl ?_
  refine vv_iconst C (v := 0) dX1_copyFrom_24 (by decide) 25 rfl ?_
  refine vv_bipush C (v := 8) dX1_copyFrom_25 (by decide) 27 rfl ?_
  obtain ⟨hcp, h⟩ := chkP_s h
  refine vv_copy C (q0 := 5) (q1 := 2) (wX1_copyFrom c K F K_number (cpy F_seat K_seat 0 0 8) (cpy F_state K_state 0 0 8) F_number F_seat F_state) kwX1_copyFrom_2 kwX1_copyFrom_3 kwX1_copyFrom_4 kwX1_copyFrom_5 rfl rfl hcp ⟨Nat.le_of_ble_eq_true rfl, Nat.le_of_ble_eq_true rfl⟩ rfl dX1_copyFrom_27 30 rfl ?_
  refine vv_aload_n C dX1_copyFrom_30 rfl 0 rfl 31 rfl ?_
  refine vv_aload_n C dX1_copyFrom_31 rfl 1 rfl 32 rfl ?_
  refine vv_get C (q0 := 3) (ci := 1) (k := 2) kinX1_copyFrom_X1 rfl rfl (by decide) kwX1_copyFrom_7 rfl rfl dX1_copyFrom_32 35 rfl ?_
  refine vv_put C (q0 := 0) (ci := 1) (k := 2) (ty := .int) (wX1_copyFrom c K F F_number (cpy F_seat K_seat 0 0 8) (cpy F_state K_state 0 0 8) F_number F_seat F_state) tyX1 tyX1_ok nmX1 kinX1_copyFrom_X1 rfl rfl (by decide) kwX1_copyFrom_7 rfl rfl rfl rfl rfl (Nat.le_of_ble_eq_true rfl) rfl dX1_copyFrom_35 38 rfl ?_
  obtain rfl := Option.some.inj h
  exact ret _ _ dX1_copyFrom_38
abbrev wX1_countOf (c : Nat → ClassId) (K : Nat → Nat) (K_number : Int32) (K_state : Nat → Int32) : va_W := [(K 0, .inr (1, [.ref (K 1), .ref (K 2), .int K_number])), aI c (K 2) 8 K_state]
abbrev rmX1_countOf : Room := { frames := 0, cells := 0, slots := 0, locals := 0 }
theorem yd_X1_countOf : yX1_countOf.cls = RX1 ∧ yX1_countOf.cls ≠ "java/lang/invoke/MethodHandle" ∧ yX1_countOf.cls ≠ "java/lang/invoke/VarHandle" ∧ (parseMethodDescriptor yX1_countOf.desc).map (fun d => d.parameters.length) = some 1 := by decide +kernel
theorem kwX1_countOf_1 : Cond.fieldLink RX1 18 "BarrelRaft$Castaways" "number" "I" ∈ wsX1_countOf := List.mem_of_getElem? (i := 1) rfl
set_option maxRecDepth 20000 in
theorem kinX1_countOf_X1 : ∀ w ∈ u_ws RX1 TX1 3, w ∈ wsX1_countOf := by decide +kernel
theorem kwX1_countOf_2 : Cond.fieldLink RX1 15 "BarrelRaft$Castaways" "state" "[I" ∈ wsX1_countOf := List.mem_of_getElem? (i := 2) rfl
def jX1_countOf_L4 (K_number : Int32) (K_state : Nat → Int32) (u1 : Int32) (n : Nat) (v2_4 : Int32) (v3_4 : Int32) : Option (Int32) :=
  match n with
  | 0 => none
  | n + 1 => (if K_number ≤ v3_4 then some v2_4 else chk 8 v3_4 ((if rd K_state v3_4 = u1 then jX1_countOf_L4 K_number K_state u1 n (v2_4 + 1) (v3_4 + 1) else jX1_countOf_L4 K_number K_state u1 n v2_4 (v3_4 + 1))))
def jX1_countOf (K_number : Int32) (K_state : Nat → Int32) (a1 : Int32) : Option (Int32) :=
  bnd (jX1_countOf_L4 K_number K_state a1 FU 0 0) (fun r1 => some r1)
set_option maxHeartbeats 4000000 in
set_option maxRecDepth 100000 in
theorem mt_X1_countOf (l : Launch) (D : va_G) (c : Nat → ClassId) (K : Nat → Nat) (K_number : Int32) (K_state : Nat → Int32) (a1 : Int32) (q0 : Int32) (h : jX1_countOf K_number K_state a1 = some q0) : DTi l yX1_countOf wsX1_countOf rmX1_countOf D c (wX1_countOf c K K_number K_state) [.ref (K 0), .int a1] q0 (wX1_countOf c K K_number K_state) 0 0 := by
  refine DTi_of (cc := cX1_countOf) (nL := 4) RX1 rfl (by decide) rfl (Nat.le_of_ble_eq_true rfl) (fun g C ret => ?_)
  unfold jX1_countOf at h
  refine vv_lv [0, 1] [(0, .ref (K 0)), (1, .int a1)] rfl ?_
  refine vv_iconst C (v := 0) dX1_countOf_0 (by decide) 1 rfl ?_
  refine vv_istore_n C [(2, .int 0), (0, .ref (K 0)), (1, .int a1)] dX1_countOf_1 rfl (by decide) rfl 2 rfl ?_
  refine vv_iconst C (v := 0) dX1_countOf_2 (by decide) 3 rfl ?_
  refine vv_istore_n C [(3, .int 0), (2, .int 0), (0, .ref (K 0)), (1, .int a1)] dX1_countOf_3 rfl (by decide) rfl 4 rfl ?_
  refine vv_lv [2, 3, 1, 0] [(0, .ref (K 0)), (1, .int a1), (2, .int 0), (3, .int 0)] rfl ?_
  have L4 : ∀ (n : Nat) (v2_4 : Int32) (v3_4 : Int32) (q4 : Int32), jX1_countOf_L4 K_number K_state a1 n v2_4 v3_4 = some q4 → (VV g D 4 0 0 (wX1_countOf c K K_number K_state) [(2, .int q4)] 31 []) → VV g D 4 0 0 (wX1_countOf c K K_number K_state) [(0, .ref (K 0)), (1, .int a1), (2, .int v2_4), (3, .int v3_4)] 4 [] := by
    intro n
    induction n with
    | zero =>
      intro v2_4 v3_4 q4 h _
      rw [jX1_countOf_L4] at h
      cases h
    | succ n ih4 =>
      intro v2_4 v3_4 q4 h kk4
      rw [jX1_countOf_L4] at h
      refine vv_iload_n C dX1_countOf_4 rfl 3 rfl 5 rfl ?_
      refine vv_aload_n C dX1_countOf_5 rfl 0 rfl 6 rfl ?_
      refine vv_get C (q0 := 0) (ci := 1) (k := 2) kinX1_countOf_X1 rfl rfl (by decide) kwX1_countOf_1 rfl rfl dX1_countOf_6 9 rfl ?_
      refine vv_icmp_ge C 31 12 dX1_countOf_9 (by decide) rfl (fun hc => ?_) (fun hc => ?_)
      · replace h := ite_t hc h
        refine vv_lv [2] [(2, .int v2_4)] rfl ?_
        obtain rfl := Option.some.inj h
        exact kk4
      · replace h := ite_f hc h
        refine vv_aload_n C dX1_countOf_12 rfl 0 rfl 13 rfl ?_
        refine vv_get C (q0 := 0) (ci := 1) (k := 1) kinX1_countOf_X1 rfl rfl (by decide) kwX1_countOf_2 rfl rfl dX1_countOf_13 16 rfl ?_
        refine vv_iload_n C dX1_countOf_16 rfl 3 rfl 17 rfl ?_
        obtain ⟨hi, h⟩ := chk_s h
        refine vv_iald C (q0 := 1) rfl hi dX1_countOf_17 18 rfl ?_
        refine vv_iload_n C dX1_countOf_18 rfl 1 rfl 19 rfl ?_
        refine vv_icmp_ne C 25 22 dX1_countOf_19 (by decide) rfl (fun hc => ?_) (fun hc => ?_)
        · replace h := ite_f hc h
          refine vv_iinc C (k := 3) [(3, .int (v3_4 + 1)), (0, .ref (K 0)), (1, .int a1), (2, .int v2_4)] dX1_countOf_25 rfl rfl (by decide) rfl 28 rfl ?_
          refine vv_goto C 4 dX1_countOf_28 (by decide) ?_
          refine vv_lv [1, 2, 3, 0] [(0, .ref (K 0)), (1, .int a1), (2, .int v2_4), (3, .int (v3_4 + 1))] rfl ?_
          exact ih4 v2_4 (v3_4 + 1) _ h kk4
        · replace h := ite_t hc h
          refine vv_iinc C (k := 2) [(2, .int (v2_4 + 1)), (0, .ref (K 0)), (1, .int a1), (3, .int v3_4)] dX1_countOf_22 rfl rfl (by decide) rfl 25 rfl ?_
          refine vv_iinc C (k := 3) [(3, .int (v3_4 + 1)), (2, .int (v2_4 + 1)), (0, .ref (K 0)), (1, .int a1)] dX1_countOf_25 rfl rfl (by decide) rfl 28 rfl ?_
          refine vv_goto C 4 dX1_countOf_28 (by decide) ?_
          refine vv_lv [2, 3, 1, 0] [(0, .ref (K 0)), (1, .int a1), (2, .int (v2_4 + 1)), (3, .int (v3_4 + 1))] rfl ?_
          exact ih4 (v2_4 + 1) (v3_4 + 1) _ h kk4
  obtain ⟨r1, hr1, h⟩ := bnd_s h
  refine L4 FU 0 0 r1 hr1 ?_
  refine vv_iload_n C dX1_countOf_31 rfl 0 rfl 32 rfl ?_
  obtain rfl := Option.some.inj h
  exact ret _ _ dX1_countOf_32
abbrev wX1_has (c : Nat → ClassId) (K : Nat → Nat) (K_number : Int32) : va_W := [(K 0, .inr (1, [.ref (K 1), .ref (K 2), .int K_number]))]
abbrev rmX1_has : Room := { frames := 0, cells := 0, slots := 0, locals := 0 }
theorem yd_X1_has : yX1_has.cls = RX1 ∧ yX1_has.cls ≠ "java/lang/invoke/MethodHandle" ∧ yX1_has.cls ≠ "java/lang/invoke/VarHandle" ∧ (parseMethodDescriptor yX1_has.desc).map (fun d => d.parameters.length) = some 1 := by decide +kernel
theorem kwX1_has_1 : Cond.fieldLink RX1 18 "BarrelRaft$Castaways" "number" "I" ∈ wsX1_has := List.mem_of_getElem? (i := 1) rfl
set_option maxRecDepth 20000 in
theorem kinX1_has_X1 : ∀ w ∈ u_ws RX1 TX1 3, w ∈ wsX1_has := by decide +kernel
def jX1_has (K_number : Int32) (a1 : Int32) : Option (Int32) :=
  (if a1 < 0 then chkZ 0 (some 0) else (if K_number ≤ a1 then chkZ 0 (some 0) else chkZ 1 (some 1)))
set_option maxHeartbeats 4000000 in
set_option maxRecDepth 100000 in
theorem mt_X1_has (l : Launch) (D : va_G) (c : Nat → ClassId) (K : Nat → Nat) (K_number : Int32) (a1 : Int32) (q0 : Int32) (h : jX1_has K_number a1 = some q0) : DTi l yX1_has wsX1_has rmX1_has D c (wX1_has c K K_number) [.ref (K 0), .int a1] q0 (wX1_has c K K_number) 0 0 := by
  refine DTz_of (cc := cX1_has) (nL := 2) RX1 rfl (by decide) rfl (Nat.le_of_ble_eq_true rfl) (fun g C ret => ?_)
  unfold jX1_has at h
  refine vv_lv [0, 1] [(0, .ref (K 0)), (1, .int a1)] rfl ?_
  refine vv_iload_n C dX1_has_0 rfl 1 rfl 1 rfl ?_
  refine vv_if_lt C 16 4 dX1_has_1 (by decide) rfl (fun hc => ?_) (fun hc => ?_)
  · replace h := ite_t hc h
    refine vv_iconst C (v := 0) dX1_has_16 (by decide) 17 rfl ?_
    obtain ⟨hz, h⟩ := chkZ_s h
    obtain rfl := Option.some.inj h
    exact ret _ _ hz dX1_has_17
  · replace h := ite_f hc h
    refine vv_iload_n C dX1_has_4 rfl 1 rfl 5 rfl ?_
    refine vv_aload_n C dX1_has_5 rfl 0 rfl 6 rfl ?_
    refine vv_get C (q0 := 0) (ci := 1) (k := 2) kinX1_has_X1 rfl rfl (by decide) kwX1_has_1 rfl rfl dX1_has_6 9 rfl ?_
    refine vv_icmp_ge C 16 12 dX1_has_9 (by decide) rfl (fun hc => ?_) (fun hc => ?_)
    · replace h := ite_t hc h
      refine vv_iconst C (v := 0) dX1_has_16 (by decide) 17 rfl ?_
      obtain ⟨hz, h⟩ := chkZ_s h
      obtain rfl := Option.some.inj h
      exact ret _ _ hz dX1_has_17
    · replace h := ite_f hc h
      refine vv_iconst C (v := 1) dX1_has_12 (by decide) 13 rfl ?_
      refine vv_goto C 17 dX1_has_13 (by decide) ?_
      obtain ⟨hz, h⟩ := chkZ_s h
      obtain rfl := Option.some.inj h
      exact ret _ _ hz dX1_has_17
abbrev wX1_shareFate (c : Nat → ClassId) (K : Nat → Nat) (B : Nat → Nat) (K_number : Int32) (K_seat : Nat → Int32) (K_state : Nat → Int32) (B_number : Int32) (B_state : Nat → Int32) : va_W := [(K 0, .inr (1, [.ref (K 1), .ref (K 2), .int K_number])), aI c (K 1) 8 K_seat, aI c (K 2) 8 K_state, (B 0, .inr (0, [.ref (B 1), .ref (B 2), .ref (B 3), .ref (B 4), .ref (B 5), .ref (B 6), .ref (B 7), .ref (B 8), .ref (B 9), .ref (B 10), .ref (B 11), .int B_number])), aI c (B 8) 24 B_state]
abbrev rmX1_shareFate : Room := { frames := 1, cells := 0, slots := 0, locals := 21 }
theorem yd_X1_shareFate : yX1_shareFate.cls = RX1 ∧ yX1_shareFate.cls ≠ "java/lang/invoke/MethodHandle" ∧ yX1_shareFate.cls ≠ "java/lang/invoke/VarHandle" ∧ (parseMethodDescriptor yX1_shareFate.desc).map (fun d => d.parameters.length) = some 1 := by decide +kernel
theorem kwX1_shareFate_1 : Cond.fieldLink RX1 18 "BarrelRaft$Castaways" "number" "I" ∈ wsX1_shareFate := List.mem_of_getElem? (i := 1) rfl
set_option maxRecDepth 20000 in
theorem kinX1_shareFate_X1 : ∀ w ∈ u_ws RX1 TX1 3, w ∈ wsX1_shareFate := by decide +kernel
theorem kwX1_shareFate_2 : Cond.fieldLink RX1 9 "BarrelRaft$Castaways" "seat" "[I" ∈ wsX1_shareFate := List.mem_of_getElem? (i := 2) rfl
theorem kwX1_shareFate_3 : Cond.fieldLink RX1 28 "BarrelRaft$Barrels" "state" "[I" ∈ wsX1_shareFate := List.mem_of_getElem? (i := 3) rfl
set_option maxRecDepth 20000 in
theorem kinX1_shareFate_X0 : ∀ w ∈ u_ws RX0 TX0 12, w ∈ wsX1_shareFate := by decide +kernel
theorem kwX1_shareFate_4 : Cond.fieldLink RX1 15 "BarrelRaft$Castaways" "state" "[I" ∈ wsX1_shareFate := List.mem_of_getElem? (i := 4) rfl
def jX1_shareFate_L2 (K_number : Int32) (B_number : Int32) (B_state : Nat → Int32) (n : Nat) (K_seat_2 : Nat → Int32) (K_state_2 : Nat → Int32) (v2_2 : Int32) : Option ((Nat → Int32) × (Nat → Int32)) :=
  match n with
  | 0 => none
  | n + 1 => (if K_number ≤ v2_2 then some (K_seat_2, K_state_2) else chk 8 v2_2 (bnd (jX0_has B_number (rd K_seat_2 v2_2)) (fun r1 => (if r1 = 0 then jX1_shareFate_L2 K_number B_number B_state n K_seat_2 K_state_2 (v2_2 + 1) else chk 24 (rd K_seat_2 v2_2) ((if rd B_state (rd K_seat_2 v2_2) = 0 then jX1_shareFate_L2 K_number B_number B_state n K_seat_2 K_state_2 (v2_2 + 1) else chk 24 (rd K_seat_2 v2_2) (chk 8 v2_2 (chk 8 v2_2 (jX1_shareFate_L2 K_number B_number B_state n (wr K_seat_2 v2_2 (-1)) (wr K_state_2 v2_2 (rd B_state (rd K_seat_2 v2_2))) (v2_2 + 1))))))))))
def jX1_shareFate (K_number : Int32) (K_seat : Nat → Int32) (K_state : Nat → Int32) (B_number : Int32) (B_state : Nat → Int32) : Option ((Nat → Int32) × (Nat → Int32)) :=
  bnd (jX1_shareFate_L2 K_number B_number B_state FU K_seat K_state 0) (fun r2 => some (r2.1, r2.2))
set_option maxHeartbeats 4000000 in
set_option maxRecDepth 100000 in
theorem mt_X1_shareFate (l : Launch) (D : va_G) (c : Nat → ClassId) (K : Nat → Nat) (B : Nat → Nat) (K_number : Int32) (K_seat : Nat → Int32) (K_state : Nat → Int32) (B_number : Int32) (B_state : Nat → Int32) (q0 : (Nat → Int32) × (Nat → Int32)) (h : jX1_shareFate K_number K_seat K_state B_number B_state = some q0) : DTv l yX1_shareFate wsX1_shareFate rmX1_shareFate D c (wX1_shareFate c K B K_number K_seat K_state B_number B_state) [.ref (K 0), .ref (B 0)] (wX1_shareFate c K B K_number q0.1 q0.2 B_number B_state) 0 0 := by
  refine DTv_of (cc := cX1_shareFate) (nL := 4) RX1 rfl (by decide) rfl (Nat.le_of_ble_eq_true rfl) (fun g C ret => ?_)
  unfold jX1_shareFate at h
  refine vv_lv [0, 1] [(0, .ref (K 0)), (1, .ref (B 0))] rfl ?_
  refine vv_iconst C (v := 0) dX1_shareFate_0 (by decide) 1 rfl ?_
  refine vv_istore_n C [(2, .int 0), (0, .ref (K 0)), (1, .ref (B 0))] dX1_shareFate_1 rfl (by decide) rfl 2 rfl ?_
  refine vv_lv [1, 2, 0] [(0, .ref (K 0)), (1, .ref (B 0)), (2, .int 0)] rfl ?_
  have L2 : ∀ (n : Nat) (K_seat_2 : Nat → Int32) (K_state_2 : Nat → Int32) (v2_2 : Int32) (q2 : (Nat → Int32) × (Nat → Int32)), jX1_shareFate_L2 K_number B_number B_state n K_seat_2 K_state_2 v2_2 = some q2 → (VV g D 4 0 0 (wX1_shareFate c K B K_number q2.1 q2.2 B_number B_state) [] 59 []) → VV g D 4 0 0 (wX1_shareFate c K B K_number K_seat_2 K_state_2 B_number B_state) [(0, .ref (K 0)), (1, .ref (B 0)), (2, .int v2_2)] 2 [] := by
    intro n
    induction n with
    | zero =>
      intro K_seat_2 K_state_2 v2_2 q2 h _
      rw [jX1_shareFate_L2] at h
      cases h
    | succ n ih2 =>
      intro K_seat_2 K_state_2 v2_2 q2 h kk2
      rw [jX1_shareFate_L2] at h
      refine vv_iload_n C dX1_shareFate_2 rfl 2 rfl 3 rfl ?_
      refine vv_aload_n C dX1_shareFate_3 rfl 0 rfl 4 rfl ?_
      refine vv_get C (q0 := 0) (ci := 1) (k := 2) kinX1_shareFate_X1 rfl rfl (by decide) kwX1_shareFate_1 rfl rfl dX1_shareFate_4 7 rfl ?_
      refine vv_icmp_ge C 59 10 dX1_shareFate_7 (by decide) rfl (fun hc => ?_) (fun hc => ?_)
      · replace h := ite_t hc h
        refine vv_lv [] [] rfl ?_
        obtain rfl := Option.some.inj h
        exact kk2
      · replace h := ite_f hc h
        refine vv_aload_n C dX1_shareFate_10 rfl 0 rfl 11 rfl ?_
        refine vv_get C (q0 := 0) (ci := 1) (k := 0) kinX1_shareFate_X1 rfl rfl (by decide) kwX1_shareFate_2 rfl rfl dX1_shareFate_11 14 rfl ?_
        refine vv_iload_n C dX1_shareFate_14 rfl 2 rfl 15 rfl ?_
        obtain ⟨hi, h⟩ := chk_s h
        refine vv_iald C (q0 := 1) rfl hi dX1_shareFate_15 16 rfl ?_
        refine vv_istore_n C [(3, .int (rd K_seat_2 v2_2)), (0, .ref (K 0)), (1, .ref (B 0)), (2, .int v2_2)] dX1_shareFate_16 rfl (by decide) rfl 17 rfl ?_
        refine vv_aload_n C dX1_shareFate_17 rfl 2 rfl 18 rfl ?_
        refine vv_iload_n C dX1_shareFate_18 rfl 0 rfl 19 rfl ?_
        obtain ⟨r1, hr1, h⟩ := bnd_s h
        refine vv_callVi C (fun l => mt_X0_has l D c B B_number (rd K_seat_2 v2_2) r1 hr1) gX1_shareFate_X0_has rfl rfl rfl yd_X0_has ⟨Nat.le_of_ble_eq_true rfl, Nat.le_of_ble_eq_true rfl⟩ [3] rfl (by decide) 0 rfl rfl (wX1_shareFate c K B K_number K_seat_2 K_state_2 B_number B_state) [(false, 0), (false, 1), (false, 2), (true, 0), (false, 4)] rfl (by decide) rfl rfl [] rfl (Nat.le_of_ble_eq_true rfl) ⟨Nat.le_of_ble_eq_true rfl, Nat.le_of_ble_eq_true rfl⟩ dX1_shareFate_19 22 0 0 rfl ⟨rfl, rfl⟩ ?_
        refine vv_if_eq C 53 25 dX1_shareFate_22 (by decide) rfl (fun hc => ?_) (fun hc => ?_)
        · replace h := ite_t hc h
          refine vv_iinc C (k := 3) [(2, .int (v2_2 + 1)), (3, .int (rd K_seat_2 v2_2)), (0, .ref (K 0)), (1, .ref (B 0))] dX1_shareFate_53 rfl rfl (by decide) rfl 56 rfl ?_
          refine vv_goto C 2 dX1_shareFate_56 (by decide) ?_
          refine vv_lv [2, 3, 0] [(0, .ref (K 0)), (1, .ref (B 0)), (2, .int (v2_2 + 1))] rfl ?_
          exact ih2 K_seat_2 K_state_2 (v2_2 + 1) _ h kk2
        · replace h := ite_f hc h
          refine vv_aload_n C dX1_shareFate_25 rfl 2 rfl 26 rfl ?_
          refine vv_get C (q0 := 3) (ci := 0) (k := 7) kinX1_shareFate_X0 rfl rfl (by decide) kwX1_shareFate_3 rfl rfl dX1_shareFate_26 29 rfl ?_
          refine vv_iload_n C dX1_shareFate_29 rfl 0 rfl 30 rfl ?_
          obtain ⟨hi, h⟩ := chk_s h
          refine vv_iald C (q0 := 4) rfl hi dX1_shareFate_30 31 rfl ?_
          refine vv_if_eq C 53 34 dX1_shareFate_31 (by decide) rfl (fun hc => ?_) (fun hc => ?_)
          · replace h := ite_t hc h
            refine vv_iinc C (k := 3) [(2, .int (v2_2 + 1)), (3, .int (rd K_seat_2 v2_2)), (0, .ref (K 0)), (1, .ref (B 0))] dX1_shareFate_53 rfl rfl (by decide) rfl 56 rfl ?_
            refine vv_goto C 2 dX1_shareFate_56 (by decide) ?_
            refine vv_lv [2, 3, 0] [(0, .ref (K 0)), (1, .ref (B 0)), (2, .int (v2_2 + 1))] rfl ?_
            exact ih2 K_seat_2 K_state_2 (v2_2 + 1) _ h kk2
          · replace h := ite_f hc h
            refine vv_aload_n C dX1_shareFate_34 rfl 1 rfl 35 rfl ?_
            refine vv_get C (q0 := 0) (ci := 1) (k := 1) kinX1_shareFate_X1 rfl rfl (by decide) kwX1_shareFate_4 rfl rfl dX1_shareFate_35 38 rfl ?_
            refine vv_iload_n C dX1_shareFate_38 rfl 3 rfl 39 rfl ?_
            refine vv_aload_n C dX1_shareFate_39 rfl 2 rfl 40 rfl ?_
            refine vv_get C (q0 := 3) (ci := 0) (k := 7) kinX1_shareFate_X0 rfl rfl (by decide) kwX1_shareFate_3 rfl rfl dX1_shareFate_40 43 rfl ?_
            refine vv_iload_n C dX1_shareFate_43 rfl 0 rfl 44 rfl ?_
            obtain ⟨hi, h⟩ := chk_s h
            refine vv_iald C (q0 := 4) rfl hi dX1_shareFate_44 45 rfl ?_
            obtain ⟨hi, h⟩ := chk_s h
            refine vv_iast C (q0 := 2) (wX1_shareFate c K B K_number K_seat_2 (wr K_state_2 v2_2 (rd B_state (rd K_seat_2 v2_2))) B_number B_state) rfl hi rfl dX1_shareFate_45 46 rfl ?_
            refine vv_aload_n C dX1_shareFate_46 rfl 1 rfl 47 rfl ?_
            refine vv_get C (q0 := 0) (ci := 1) (k := 0) kinX1_shareFate_X1 rfl rfl (by decide) kwX1_shareFate_2 rfl rfl dX1_shareFate_47 50 rfl ?_
            refine vv_iload_n C dX1_shareFate_50 rfl 3 rfl 51 rfl ?_
            refine vv_iconst C (v := (-1)) dX1_shareFate_51 (by decide) 52 rfl ?_
            obtain ⟨hi, h⟩ := chk_s h
            refine vv_iast C (q0 := 1) (wX1_shareFate c K B K_number (wr K_seat_2 v2_2 (-1)) (wr K_state_2 v2_2 (rd B_state (rd K_seat_2 v2_2))) B_number B_state) rfl hi rfl dX1_shareFate_52 53 rfl ?_
            refine vv_iinc C (k := 3) [(2, .int (v2_2 + 1)), (3, .int (rd K_seat_2 v2_2)), (0, .ref (K 0)), (1, .ref (B 0))] dX1_shareFate_53 rfl rfl (by decide) rfl 56 rfl ?_
            refine vv_goto C 2 dX1_shareFate_56 (by decide) ?_
            refine vv_lv [2, 3, 0] [(0, .ref (K 0)), (1, .ref (B 0)), (2, .int (v2_2 + 1))] rfl ?_
            exact ih2 (wr K_seat_2 v2_2 (-1)) (wr K_state_2 v2_2 (rd B_state (rd K_seat_2 v2_2))) (v2_2 + 1) _ h kk2
  obtain ⟨r2, hr2, h⟩ := bnd_s h
  refine L2 FU K_seat K_state 0 r2 hr2 ?_
  obtain rfl := Option.some.inj h
  exact ret _ _ dX1_shareFate_59
abbrev wX2_copyFrom (c : Nat → ClassId) (Q : Nat → Nat) (F : Nat → Nat) (Q_number : Int32) (Q_first : Nat → Int32) (Q_second : Nat → Int32) (Q_strength : Nat → Int32) (Q_wear : Nat → Int32) (F_number : Int32) (F_first : Nat → Int32) (F_second : Nat → Int32) (F_strength : Nat → Int32) (F_wear : Nat → Int32) : va_W := [(Q 0, .inr (2, [.ref (Q 1), .ref (Q 2), .ref (Q 3), .ref (Q 4), .int Q_number])), aI c (Q 1) 48 Q_first, aI c (Q 2) 48 Q_second, aI c (Q 3) 48 Q_strength, aI c (Q 4) 48 Q_wear, (F 0, .inr (2, [.ref (F 1), .ref (F 2), .ref (F 3), .ref (F 4), .int F_number])), aI c (F 1) 48 F_first, aI c (F 2) 48 F_second, aI c (F 3) 48 F_strength, aI c (F 4) 48 F_wear]
abbrev rmX2_copyFrom : Room := { frames := 1, cells := 0, slots := 0, locals := 60 }
theorem yd_X2_copyFrom : yX2_copyFrom.cls = RX2 ∧ yX2_copyFrom.cls ≠ "java/lang/invoke/MethodHandle" ∧ yX2_copyFrom.cls ≠ "java/lang/invoke/VarHandle" ∧ (parseMethodDescriptor yX2_copyFrom.desc).map (fun d => d.parameters.length) = some 1 := by decide +kernel
theorem kwX2_copyFrom_1 : Cond.fieldLink RX2 9 "BarrelRaft$Lashings" "first" "[I" ∈ wsX2_copyFrom := List.mem_of_getElem? (i := 1) rfl
set_option maxRecDepth 20000 in
theorem kinX2_copyFrom_X2 : ∀ w ∈ u_ws RX2 TX2 5, w ∈ wsX2_copyFrom := by decide +kernel
theorem kwX2_copyFrom_2 : Cond.methodLink RX2 55 arraycopyName ∈ wsX2_copyFrom := List.mem_of_getElem? (i := 2) rfl
theorem kwX2_copyFrom_3 : Cond.native arraycopyName ∈ wsX2_copyFrom := List.mem_of_getElem? (i := 3) rfl
theorem kwX2_copyFrom_4 : Cond.static arraycopyName ∈ wsX2_copyFrom := List.mem_of_getElem? (i := 4) rfl
theorem kwX2_copyFrom_5 : Cond.initialized "java/lang/System" ∈ wsX2_copyFrom := List.mem_of_getElem? (i := 5) rfl
theorem kwX2_copyFrom_6 : Cond.fieldLink RX2 15 "BarrelRaft$Lashings" "second" "[I" ∈ wsX2_copyFrom := List.mem_of_getElem? (i := 6) rfl
theorem kwX2_copyFrom_7 : Cond.fieldLink RX2 18 "BarrelRaft$Lashings" "strength" "[I" ∈ wsX2_copyFrom := List.mem_of_getElem? (i := 7) rfl
theorem kwX2_copyFrom_8 : Cond.fieldLink RX2 21 "BarrelRaft$Lashings" "wear" "[I" ∈ wsX2_copyFrom := List.mem_of_getElem? (i := 8) rfl
theorem kwX2_copyFrom_9 : Cond.fieldLink RX2 33 "BarrelRaft$Lashings" "number" "I" ∈ wsX2_copyFrom := List.mem_of_getElem? (i := 9) rfl
def jX2_copyFrom (Q_number : Int32) (Q_first : Nat → Int32) (Q_second : Nat → Int32) (Q_strength : Nat → Int32) (Q_wear : Nat → Int32) (F_number : Int32) (F_first : Nat → Int32) (F_second : Nat → Int32) (F_strength : Nat → Int32) (F_wear : Nat → Int32) : Option (Int32 × (Nat → Int32) × (Nat → Int32) × (Nat → Int32) × (Nat → Int32)) :=
  chkP (CPOK 48 48 0 0 48) (chkP (CPOK 48 48 0 0 48) (chkP (CPOK 48 48 0 0 48) (chkP (CPOK 48 48 0 0 48) (some (F_number, cpy F_first Q_first 0 0 48, cpy F_second Q_second 0 0 48, cpy F_strength Q_strength 0 0 48, cpy F_wear Q_wear 0 0 48)))))
set_option maxHeartbeats 4000000 in
set_option maxRecDepth 100000 in
theorem mt_X2_copyFrom (l : Launch) (D : va_G) (c : Nat → ClassId) (Q : Nat → Nat) (F : Nat → Nat) (Q_number : Int32) (Q_first : Nat → Int32) (Q_second : Nat → Int32) (Q_strength : Nat → Int32) (Q_wear : Nat → Int32) (F_number : Int32) (F_first : Nat → Int32) (F_second : Nat → Int32) (F_strength : Nat → Int32) (F_wear : Nat → Int32) (q0 : Int32 × (Nat → Int32) × (Nat → Int32) × (Nat → Int32) × (Nat → Int32)) (h : jX2_copyFrom Q_number Q_first Q_second Q_strength Q_wear F_number F_first F_second F_strength F_wear = some q0) : DTv l yX2_copyFrom wsX2_copyFrom rmX2_copyFrom D c (wX2_copyFrom c Q F Q_number Q_first Q_second Q_strength Q_wear F_number F_first F_second F_strength F_wear) [.ref (Q 0), .ref (F 0)] (wX2_copyFrom c Q F q0.1 q0.2.1 q0.2.2.1 q0.2.2.2.1 q0.2.2.2.2 F_number F_first F_second F_strength F_wear) 0 0 := by
  refine DTv_of (cc := cX2_copyFrom) (nL := 2) RX2 rfl (by decide) rfl (Nat.le_of_ble_eq_true rfl) (fun g C ret => ?_)
  unfold jX2_copyFrom at h
  refine vv_lv [0, 1] [(0, .ref (Q 0)), (1, .ref (F 0))] rfl ?_
  refine vv_aload_n C dX2_copyFrom_0 rfl 1 rfl 1 rfl ?_
  refine vv_get C (q0 := 5) (ci := 2) (k := 0) kinX2_copyFrom_X2 rfl rfl (by decide) kwX2_copyFrom_1 rfl rfl dX2_copyFrom_1 4 rfl ?_
  refine vv_iconst C (v := 0) dX2_copyFrom_4 (by decide) 5 rfl ?_
  refine vv_aload_n C dX2_copyFrom_5 rfl 0 rfl 6 rfl ?_
  refine vv_get C (q0 := 0) (ci := 2) (k := 0) kinX2_copyFrom_X2 rfl rfl (by decide) kwX2_copyFrom_1 rfl rfl dX2_copyFrom_6 9 rfl ?_
  refine vv_iconst C (v := 0) dX2_copyFrom_9 (by decide) 10 rfl ?_
  refine vv_bipush C (v := 48) dX2_copyFrom_10 (by decide) 12 rfl ?_
  obtain ⟨hcp, h⟩ := chkP_s h
  refine vv_copy C (q0 := 6) (q1 := 1) (wX2_copyFrom c Q F Q_number (cpy F_first Q_first 0 0 48) Q_second Q_strength Q_wear F_number F_first F_second F_strength F_wear) kwX2_copyFrom_2 kwX2_copyFrom_3 kwX2_copyFrom_4 kwX2_copyFrom_5 rfl rfl hcp ⟨Nat.le_of_ble_eq_true rfl, Nat.le_of_ble_eq_true rfl⟩ rfl dX2_copyFrom_12 15 rfl ?_
  refine vv_aload_n C dX2_copyFrom_15 rfl 1 rfl 16 rfl ?_
  refine vv_get C (q0 := 5) (ci := 2) (k := 1) kinX2_copyFrom_X2 rfl rfl (by decide) kwX2_copyFrom_6 rfl rfl dX2_copyFrom_16 19 rfl ?_
  refine vv_iconst C (v := 0) dX2_copyFrom_19 (by decide) 20 rfl ?_
  refine vv_aload_n C dX2_copyFrom_20 rfl 0 rfl 21 rfl ?_
  refine vv_get C (q0 := 0) (ci := 2) (k := 1) kinX2_copyFrom_X2 rfl rfl (by decide) kwX2_copyFrom_6 rfl rfl dX2_copyFrom_21 24 rfl ?_
  refine vv_iconst C (v := 0) dX2_copyFrom_24 (by decide) 25 rfl ?_
  refine vv_bipush C (v := 48) dX2_copyFrom_25 (by decide) 27 rfl ?_
  obtain ⟨hcp, h⟩ := chkP_s h
  refine vv_copy C (q0 := 7) (q1 := 2) (wX2_copyFrom c Q F Q_number (cpy F_first Q_first 0 0 48) (cpy F_second Q_second 0 0 48) Q_strength Q_wear F_number F_first F_second F_strength F_wear) kwX2_copyFrom_2 kwX2_copyFrom_3 kwX2_copyFrom_4 kwX2_copyFrom_5 rfl rfl hcp ⟨Nat.le_of_ble_eq_true rfl, Nat.le_of_ble_eq_true rfl⟩ rfl dX2_copyFrom_27 30 rfl ?_
  refine vv_aload_n C dX2_copyFrom_30 rfl 1 rfl 31 rfl ?_
  refine vv_get C (q0 := 5) (ci := 2) (k := 2) kinX2_copyFrom_X2 rfl rfl (by decide) kwX2_copyFrom_7 rfl rfl dX2_copyFrom_31 34 rfl ?_
  refine vv_iconst C (v := 0) dX2_copyFrom_34 (by decide) 35 rfl ?_
  refine vv_aload_n C dX2_copyFrom_35 rfl 0 rfl 36 rfl ?_
  refine vv_get C (q0 := 0) (ci := 2) (k := 2) kinX2_copyFrom_X2 rfl rfl (by decide) kwX2_copyFrom_7 rfl rfl dX2_copyFrom_36 39 rfl ?_
  refine vv_iconst C (v := 0) dX2_copyFrom_39 (by decide) 40 rfl ?_
  refine vv_bipush C (v := 48) dX2_copyFrom_40 (by decide) 42 rfl ?_
  obtain ⟨hcp, h⟩ := chkP_s h
  refine vv_copy C (q0 := 8) (q1 := 3) (wX2_copyFrom c Q F Q_number (cpy F_first Q_first 0 0 48) (cpy F_second Q_second 0 0 48) (cpy F_strength Q_strength 0 0 48) Q_wear F_number F_first F_second F_strength F_wear) kwX2_copyFrom_2 kwX2_copyFrom_3 kwX2_copyFrom_4 kwX2_copyFrom_5 rfl rfl hcp ⟨Nat.le_of_ble_eq_true rfl, Nat.le_of_ble_eq_true rfl⟩ rfl dX2_copyFrom_42 45 rfl ?_
  refine vv_aload_n C dX2_copyFrom_45 rfl 1 rfl 46 rfl ?_
  refine vv_get C (q0 := 5) (ci := 2) (k := 3) kinX2_copyFrom_X2 rfl rfl (by decide) kwX2_copyFrom_8 rfl rfl dX2_copyFrom_46 49 rfl ?_
  refine vv_iconst C (v := 0) dX2_copyFrom_49 (by decide) 50 rfl ?_
  refine vv_aload_n C dX2_copyFrom_50 rfl 0 rfl 51 rfl ?_
  refine vv_get C (q0 := 0) (ci := 2) (k := 3) kinX2_copyFrom_X2 rfl rfl (by decide) kwX2_copyFrom_8 rfl rfl dX2_copyFrom_51 54 rfl ?_
  refine vv_iconst C (v := 0) dX2_copyFrom_54 (by decide) 55 rfl ?_
  refine vv_bipush C (v := 48) dX2_copyFrom_55 (by decide) 57 rfl ?_
  obtain ⟨hcp, h⟩ := chkP_s h
  refine vv_copy C (q0 := 9) (q1 := 4) (wX2_copyFrom c Q F Q_number (cpy F_first Q_first 0 0 48) (cpy F_second Q_second 0 0 48) (cpy F_strength Q_strength 0 0 48) (cpy F_wear Q_wear 0 0 48) F_number F_first F_second F_strength F_wear) kwX2_copyFrom_2 kwX2_copyFrom_3 kwX2_copyFrom_4 kwX2_copyFrom_5 rfl rfl hcp ⟨Nat.le_of_ble_eq_true rfl, Nat.le_of_ble_eq_true rfl⟩ rfl dX2_copyFrom_57 60 rfl ?_
  refine vv_aload_n C dX2_copyFrom_60 rfl 0 rfl 61 rfl ?_
  refine vv_aload_n C dX2_copyFrom_61 rfl 1 rfl 62 rfl ?_
  refine vv_get C (q0 := 5) (ci := 2) (k := 4) kinX2_copyFrom_X2 rfl rfl (by decide) kwX2_copyFrom_9 rfl rfl dX2_copyFrom_62 65 rfl ?_
  refine vv_put C (q0 := 0) (ci := 2) (k := 4) (ty := .int) (wX2_copyFrom c Q F F_number (cpy F_first Q_first 0 0 48) (cpy F_second Q_second 0 0 48) (cpy F_strength Q_strength 0 0 48) (cpy F_wear Q_wear 0 0 48) F_number F_first F_second F_strength F_wear) tyX2 tyX2_ok nmX2 kinX2_copyFrom_X2 rfl rfl (by decide) kwX2_copyFrom_9 rfl rfl rfl rfl rfl (Nat.le_of_ble_eq_true rfl) rfl dX2_copyFrom_65 68 rfl ?_
  obtain rfl := Option.some.inj h
  exact ret _ _ dX2_copyFrom_68
abbrev wX2_countAt (c : Nat → ClassId) (Q : Nat → Nat) (Q_number : Int32) (Q_first : Nat → Int32) (Q_second : Nat → Int32) : va_W := [(Q 0, .inr (2, [.ref (Q 1), .ref (Q 2), .ref (Q 3), .ref (Q 4), .int Q_number])), aI c (Q 1) 48 Q_first, aI c (Q 2) 48 Q_second]
abbrev rmX2_countAt : Room := { frames := 0, cells := 0, slots := 0, locals := 0 }
theorem yd_X2_countAt : yX2_countAt.cls = RX2 ∧ yX2_countAt.cls ≠ "java/lang/invoke/MethodHandle" ∧ yX2_countAt.cls ≠ "java/lang/invoke/VarHandle" ∧ (parseMethodDescriptor yX2_countAt.desc).map (fun d => d.parameters.length) = some 1 := by decide +kernel
theorem kwX2_countAt_1 : Cond.fieldLink RX2 33 "BarrelRaft$Lashings" "number" "I" ∈ wsX2_countAt := List.mem_of_getElem? (i := 1) rfl
set_option maxRecDepth 20000 in
theorem kinX2_countAt_X2 : ∀ w ∈ u_ws RX2 TX2 5, w ∈ wsX2_countAt := by decide +kernel
theorem kwX2_countAt_2 : Cond.fieldLink RX2 9 "BarrelRaft$Lashings" "first" "[I" ∈ wsX2_countAt := List.mem_of_getElem? (i := 2) rfl
theorem kwX2_countAt_3 : Cond.fieldLink RX2 15 "BarrelRaft$Lashings" "second" "[I" ∈ wsX2_countAt := List.mem_of_getElem? (i := 3) rfl
def jX2_countAt_L4 (Q_number : Int32) (Q_first : Nat → Int32) (Q_second : Nat → Int32) (u1 : Int32) (n : Nat) (v2_4 : Int32) (v3_4 : Int32) : Option (Int32) :=
  match n with
  | 0 => none
  | n + 1 => (if Q_number ≤ v3_4 then some v2_4 else chk 48 v3_4 ((if rd Q_first v3_4 = u1 then jX2_countAt_L4 Q_number Q_first Q_second u1 n (v2_4 + 1) (v3_4 + 1) else chk 48 v3_4 ((if rd Q_second v3_4 = u1 then jX2_countAt_L4 Q_number Q_first Q_second u1 n (v2_4 + 1) (v3_4 + 1) else jX2_countAt_L4 Q_number Q_first Q_second u1 n v2_4 (v3_4 + 1))))))
def jX2_countAt (Q_number : Int32) (Q_first : Nat → Int32) (Q_second : Nat → Int32) (a1 : Int32) : Option (Int32) :=
  bnd (jX2_countAt_L4 Q_number Q_first Q_second a1 FU 0 0) (fun r1 => some r1)
set_option maxHeartbeats 4000000 in
set_option maxRecDepth 100000 in
theorem mt_X2_countAt (l : Launch) (D : va_G) (c : Nat → ClassId) (Q : Nat → Nat) (Q_number : Int32) (Q_first : Nat → Int32) (Q_second : Nat → Int32) (a1 : Int32) (q0 : Int32) (h : jX2_countAt Q_number Q_first Q_second a1 = some q0) : DTi l yX2_countAt wsX2_countAt rmX2_countAt D c (wX2_countAt c Q Q_number Q_first Q_second) [.ref (Q 0), .int a1] q0 (wX2_countAt c Q Q_number Q_first Q_second) 0 0 := by
  refine DTi_of (cc := cX2_countAt) (nL := 4) RX2 rfl (by decide) rfl (Nat.le_of_ble_eq_true rfl) (fun g C ret => ?_)
  unfold jX2_countAt at h
  refine vv_lv [0, 1] [(0, .ref (Q 0)), (1, .int a1)] rfl ?_
  refine vv_iconst C (v := 0) dX2_countAt_0 (by decide) 1 rfl ?_
  refine vv_istore_n C [(2, .int 0), (0, .ref (Q 0)), (1, .int a1)] dX2_countAt_1 rfl (by decide) rfl 2 rfl ?_
  refine vv_iconst C (v := 0) dX2_countAt_2 (by decide) 3 rfl ?_
  refine vv_istore_n C [(3, .int 0), (2, .int 0), (0, .ref (Q 0)), (1, .int a1)] dX2_countAt_3 rfl (by decide) rfl 4 rfl ?_
  refine vv_lv [2, 3, 1, 0] [(0, .ref (Q 0)), (1, .int a1), (2, .int 0), (3, .int 0)] rfl ?_
  have L4 : ∀ (n : Nat) (v2_4 : Int32) (v3_4 : Int32) (q4 : Int32), jX2_countAt_L4 Q_number Q_first Q_second a1 n v2_4 v3_4 = some q4 → (VV g D 4 0 0 (wX2_countAt c Q Q_number Q_first Q_second) [(2, .int q4)] 41 []) → VV g D 4 0 0 (wX2_countAt c Q Q_number Q_first Q_second) [(0, .ref (Q 0)), (1, .int a1), (2, .int v2_4), (3, .int v3_4)] 4 [] := by
    intro n
    induction n with
    | zero =>
      intro v2_4 v3_4 q4 h _
      rw [jX2_countAt_L4] at h
      cases h
    | succ n ih4 =>
      intro v2_4 v3_4 q4 h kk4
      rw [jX2_countAt_L4] at h
      refine vv_iload_n C dX2_countAt_4 rfl 3 rfl 5 rfl ?_
      refine vv_aload_n C dX2_countAt_5 rfl 0 rfl 6 rfl ?_
      refine vv_get C (q0 := 0) (ci := 2) (k := 4) kinX2_countAt_X2 rfl rfl (by decide) kwX2_countAt_1 rfl rfl dX2_countAt_6 9 rfl ?_
      refine vv_icmp_ge C 41 12 dX2_countAt_9 (by decide) rfl (fun hc => ?_) (fun hc => ?_)
      · replace h := ite_t hc h
        refine vv_lv [2] [(2, .int v2_4)] rfl ?_
        obtain rfl := Option.some.inj h
        exact kk4
      · replace h := ite_f hc h
        refine vv_aload_n C dX2_countAt_12 rfl 0 rfl 13 rfl ?_
        refine vv_get C (q0 := 0) (ci := 2) (k := 0) kinX2_countAt_X2 rfl rfl (by decide) kwX2_countAt_2 rfl rfl dX2_countAt_13 16 rfl ?_
        refine vv_iload_n C dX2_countAt_16 rfl 3 rfl 17 rfl ?_
        obtain ⟨hi, h⟩ := chk_s h
        refine vv_iald C (q0 := 1) rfl hi dX2_countAt_17 18 rfl ?_
        refine vv_iload_n C dX2_countAt_18 rfl 1 rfl 19 rfl ?_
        refine vv_icmp_eq C 32 22 dX2_countAt_19 (by decide) rfl (fun hc => ?_) (fun hc => ?_)
        · replace h := ite_t hc h
          refine vv_iinc C (k := 2) [(2, .int (v2_4 + 1)), (0, .ref (Q 0)), (1, .int a1), (3, .int v3_4)] dX2_countAt_32 rfl rfl (by decide) rfl 35 rfl ?_
          refine vv_iinc C (k := 3) [(3, .int (v3_4 + 1)), (2, .int (v2_4 + 1)), (0, .ref (Q 0)), (1, .int a1)] dX2_countAt_35 rfl rfl (by decide) rfl 38 rfl ?_
          refine vv_goto C 4 dX2_countAt_38 (by decide) ?_
          refine vv_lv [2, 3, 1, 0] [(0, .ref (Q 0)), (1, .int a1), (2, .int (v2_4 + 1)), (3, .int (v3_4 + 1))] rfl ?_
          exact ih4 (v2_4 + 1) (v3_4 + 1) _ h kk4
        · replace h := ite_f hc h
          refine vv_aload_n C dX2_countAt_22 rfl 0 rfl 23 rfl ?_
          refine vv_get C (q0 := 0) (ci := 2) (k := 1) kinX2_countAt_X2 rfl rfl (by decide) kwX2_countAt_3 rfl rfl dX2_countAt_23 26 rfl ?_
          refine vv_iload_n C dX2_countAt_26 rfl 3 rfl 27 rfl ?_
          obtain ⟨hi, h⟩ := chk_s h
          refine vv_iald C (q0 := 2) rfl hi dX2_countAt_27 28 rfl ?_
          refine vv_iload_n C dX2_countAt_28 rfl 1 rfl 29 rfl ?_
          refine vv_icmp_ne C 35 32 dX2_countAt_29 (by decide) rfl (fun hc => ?_) (fun hc => ?_)
          · replace h := ite_f hc h
            refine vv_iinc C (k := 3) [(3, .int (v3_4 + 1)), (0, .ref (Q 0)), (1, .int a1), (2, .int v2_4)] dX2_countAt_35 rfl rfl (by decide) rfl 38 rfl ?_
            refine vv_goto C 4 dX2_countAt_38 (by decide) ?_
            refine vv_lv [1, 2, 3, 0] [(0, .ref (Q 0)), (1, .int a1), (2, .int v2_4), (3, .int (v3_4 + 1))] rfl ?_
            exact ih4 v2_4 (v3_4 + 1) _ h kk4
          · replace h := ite_t hc h
            refine vv_iinc C (k := 2) [(2, .int (v2_4 + 1)), (0, .ref (Q 0)), (1, .int a1), (3, .int v3_4)] dX2_countAt_32 rfl rfl (by decide) rfl 35 rfl ?_
            refine vv_iinc C (k := 3) [(3, .int (v3_4 + 1)), (2, .int (v2_4 + 1)), (0, .ref (Q 0)), (1, .int a1)] dX2_countAt_35 rfl rfl (by decide) rfl 38 rfl ?_
            refine vv_goto C 4 dX2_countAt_38 (by decide) ?_
            refine vv_lv [2, 3, 1, 0] [(0, .ref (Q 0)), (1, .int a1), (2, .int (v2_4 + 1)), (3, .int (v3_4 + 1))] rfl ?_
            exact ih4 (v2_4 + 1) (v3_4 + 1) _ h kk4
  obtain ⟨r1, hr1, h⟩ := bnd_s h
  refine L4 FU 0 0 r1 hr1 ?_
  refine vv_iload_n C dX2_countAt_41 rfl 0 rfl 42 rfl ?_
  obtain rfl := Option.some.inj h
  exact ret _ _ dX2_countAt_42
abbrev wX2_find (c : Nat → ClassId) (Q : Nat → Nat) (Q_number : Int32) (Q_first : Nat → Int32) (Q_second : Nat → Int32) : va_W := [(Q 0, .inr (2, [.ref (Q 1), .ref (Q 2), .ref (Q 3), .ref (Q 4), .int Q_number])), aI c (Q 1) 48 Q_first, aI c (Q 2) 48 Q_second]
abbrev rmX2_find : Room := { frames := 1, cells := 0, slots := 0, locals := 21 }
theorem yd_X2_find : yX2_find.cls = RX2 ∧ yX2_find.cls ≠ "java/lang/invoke/MethodHandle" ∧ yX2_find.cls ≠ "java/lang/invoke/VarHandle" ∧ (parseMethodDescriptor yX2_find.desc).map (fun d => d.parameters.length) = some 2 := by decide +kernel
theorem kwX2_find_1 : Cond.methodLink RX2 24 Lib.Math.min.name ∈ wsX2_find := List.mem_of_getElem? (i := 1) rfl
theorem kwX2_find_2 : Cond.static Lib.Math.min.name ∈ wsX2_find := List.mem_of_getElem? (i := 2) rfl
theorem kwX2_find_3 : Cond.initialized "java/lang/Math" ∈ wsX2_find := List.mem_of_getElem? (i := 3) rfl
theorem kwX2_find_4 : Cond.code Lib.Math.min.name Lib.Math.min.code 2 (some .int) ∈ wsX2_find := List.mem_of_getElem? (i := 4) rfl
theorem kwX2_find_5 : Cond.methodLink RX2 30 Lib.Math.max.name ∈ wsX2_find := List.mem_of_getElem? (i := 5) rfl
theorem kwX2_find_6 : Cond.static Lib.Math.max.name ∈ wsX2_find := List.mem_of_getElem? (i := 6) rfl
theorem kwX2_find_7 : Cond.code Lib.Math.max.name Lib.Math.max.code 2 (some .int) ∈ wsX2_find := List.mem_of_getElem? (i := 7) rfl
theorem kwX2_find_8 : Cond.fieldLink RX2 33 "BarrelRaft$Lashings" "number" "I" ∈ wsX2_find := List.mem_of_getElem? (i := 8) rfl
set_option maxRecDepth 20000 in
theorem kinX2_find_X2 : ∀ w ∈ u_ws RX2 TX2 5, w ∈ wsX2_find := by decide +kernel
theorem kwX2_find_9 : Cond.fieldLink RX2 9 "BarrelRaft$Lashings" "first" "[I" ∈ wsX2_find := List.mem_of_getElem? (i := 9) rfl
theorem kwX2_find_10 : Cond.fieldLink RX2 15 "BarrelRaft$Lashings" "second" "[I" ∈ wsX2_find := List.mem_of_getElem? (i := 10) rfl
def jX2_find_L16 (Q_number : Int32) (Q_first : Nat → Int32) (Q_second : Nat → Int32) (u3 : Int32) (u4 : Int32) (n : Nat) (v5_16 : Int32) : Option ((Int32) ⊕ (Unit)) :=
  match n with
  | 0 => none
  | n + 1 => (if Q_number ≤ v5_16 then some (Sum.inr ()) else chk 48 v5_16 ((if rd Q_first v5_16 = u3 then chk 48 v5_16 ((if rd Q_second v5_16 = u4 then some (Sum.inl v5_16) else jX2_find_L16 Q_number Q_first Q_second u3 u4 n (v5_16 + 1))) else jX2_find_L16 Q_number Q_first Q_second u3 u4 n (v5_16 + 1))))
def jX2_find (Q_number : Int32) (Q_first : Nat → Int32) (Q_second : Nat → Int32) (a1 : Int32) (a2 : Int32) : Option (Int32) :=
  bnd (jX2_find_L16 Q_number Q_first Q_second (mmin a1 a2) (mmax a1 a2) FU 0) (fun r1 => sel r1 (fun r1_0 => some r1_0) (fun r1_1 => some (-1)))
set_option maxHeartbeats 4000000 in
set_option maxRecDepth 100000 in
theorem mt_X2_find (l : Launch) (D : va_G) (c : Nat → ClassId) (Q : Nat → Nat) (Q_number : Int32) (Q_first : Nat → Int32) (Q_second : Nat → Int32) (a1 : Int32) (a2 : Int32) (q0 : Int32) (h : jX2_find Q_number Q_first Q_second a1 a2 = some q0) : DTi l yX2_find wsX2_find rmX2_find D c (wX2_find c Q Q_number Q_first Q_second) [.ref (Q 0), .int a1, .int a2] q0 (wX2_find c Q Q_number Q_first Q_second) 0 0 := by
  refine DTi_of (cc := cX2_find) (nL := 6) RX2 rfl (by decide) rfl (Nat.le_of_ble_eq_true rfl) (fun g C ret => ?_)
  unfold jX2_find at h
  refine vv_lv [0, 1, 2] [(0, .ref (Q 0)), (1, .int a1), (2, .int a2)] rfl ?_
  refine vv_iload_n C dX2_find_0 rfl 1 rfl 1 rfl ?_
  refine vv_iload_n C dX2_find_1 rfl 2 rfl 2 rfl ?_
  refine vv_mmin C kwX2_find_1 kwX2_find_2 kwX2_find_3 kwX2_find_4 ⟨Nat.le_of_ble_eq_true rfl, Nat.le_of_ble_eq_true rfl⟩ ⟨Nat.le_of_ble_eq_true rfl, Nat.le_of_ble_eq_true rfl⟩ dX2_find_2 5 rfl ?_
  refine vv_istore_n C [(3, .int (mmin a1 a2)), (0, .ref (Q 0)), (1, .int a1), (2, .int a2)] dX2_find_5 rfl (by decide) rfl 6 rfl ?_
  refine vv_iload_n C dX2_find_6 rfl 2 rfl 7 rfl ?_
  refine vv_iload_n C dX2_find_7 rfl 3 rfl 8 rfl ?_
  refine vv_mmax C kwX2_find_5 kwX2_find_6 kwX2_find_3 kwX2_find_7 ⟨Nat.le_of_ble_eq_true rfl, Nat.le_of_ble_eq_true rfl⟩ ⟨Nat.le_of_ble_eq_true rfl, Nat.le_of_ble_eq_true rfl⟩ dX2_find_8 11 rfl ?_
  refine vv_istore C [(4, .int (mmax a1 a2)), (3, .int (mmin a1 a2)), (0, .ref (Q 0)), (1, .int a1), (2, .int a2)] dX2_find_11 (by decide) rfl 13 rfl ?_
  refine vv_iconst C (v := 0) dX2_find_13 (by decide) 14 rfl ?_
  refine vv_istore C [(5, .int 0), (4, .int (mmax a1 a2)), (3, .int (mmin a1 a2)), (0, .ref (Q 0)), (1, .int a1), (2, .int a2)] dX2_find_14 (by decide) rfl 16 rfl ?_
  refine vv_lv [3, 2, 1, 0] [(0, .ref (Q 0)), (3, .int (mmin a1 a2)), (4, .int (mmax a1 a2)), (5, .int 0)] rfl ?_
  have L16 : ∀ (n : Nat) (v5_16 : Int32) (q16 : (Int32) ⊕ (Unit)), jX2_find_L16 Q_number Q_first Q_second (mmin a1 a2) (mmax a1 a2) n v5_16 = some q16 → ((∀ w, q16 = (Sum.inl w) → VV g D 6 0 0 (wX2_find c Q Q_number Q_first Q_second) [(5, .int w)] 48 []) ∧ (∀ w, q16 = (Sum.inr w) → VV g D 6 0 0 (wX2_find c Q Q_number Q_first Q_second) [] 57 [])) → VV g D 6 0 0 (wX2_find c Q Q_number Q_first Q_second) [(0, .ref (Q 0)), (3, .int (mmin a1 a2)), (4, .int (mmax a1 a2)), (5, .int v5_16)] 16 [] := by
    intro n
    induction n with
    | zero =>
      intro v5_16 q16 h _
      rw [jX2_find_L16] at h
      cases h
    | succ n ih16 =>
      intro v5_16 q16 h kk16
      rw [jX2_find_L16] at h
      refine vv_iload C dX2_find_16 3 rfl 18 rfl ?_
      refine vv_aload_n C dX2_find_18 rfl 0 rfl 19 rfl ?_
      refine vv_get C (q0 := 0) (ci := 2) (k := 4) kinX2_find_X2 rfl rfl (by decide) kwX2_find_8 rfl rfl dX2_find_19 22 rfl ?_
      refine vv_icmp_ge C 57 25 dX2_find_22 (by decide) rfl (fun hc => ?_) (fun hc => ?_)
      · replace h := ite_t hc h
        refine vv_lv [] [] rfl ?_
        exact kk16.2 _ (Option.some.inj h).symm
      · replace h := ite_f hc h
        refine vv_aload_n C dX2_find_25 rfl 0 rfl 26 rfl ?_
        refine vv_get C (q0 := 0) (ci := 2) (k := 0) kinX2_find_X2 rfl rfl (by decide) kwX2_find_9 rfl rfl dX2_find_26 29 rfl ?_
        refine vv_iload C dX2_find_29 3 rfl 31 rfl ?_
        obtain ⟨hi, h⟩ := chk_s h
        refine vv_iald C (q0 := 1) rfl hi dX2_find_31 32 rfl ?_
        refine vv_iload_n C dX2_find_32 rfl 1 rfl 33 rfl ?_
        refine vv_icmp_ne C 51 36 dX2_find_33 (by decide) rfl (fun hc => ?_) (fun hc => ?_)
        · replace h := ite_f hc h
          refine vv_iinc C (k := 3) [(5, .int (v5_16 + 1)), (0, .ref (Q 0)), (3, .int (mmin a1 a2)), (4, .int (mmax a1 a2))] dX2_find_51 rfl rfl (by decide) rfl 54 rfl ?_
          refine vv_goto C 16 dX2_find_54 (by decide) ?_
          refine vv_lv [1, 2, 3, 0] [(0, .ref (Q 0)), (3, .int (mmin a1 a2)), (4, .int (mmax a1 a2)), (5, .int (v5_16 + 1))] rfl ?_
          exact ih16 (v5_16 + 1) _ h kk16
        · replace h := ite_t hc h
          refine vv_aload_n C dX2_find_36 rfl 0 rfl 37 rfl ?_
          refine vv_get C (q0 := 0) (ci := 2) (k := 1) kinX2_find_X2 rfl rfl (by decide) kwX2_find_10 rfl rfl dX2_find_37 40 rfl ?_
          refine vv_iload C dX2_find_40 3 rfl 42 rfl ?_
          obtain ⟨hi, h⟩ := chk_s h
          refine vv_iald C (q0 := 2) rfl hi dX2_find_42 43 rfl ?_
          refine vv_iload C dX2_find_43 2 rfl 45 rfl ?_
          refine vv_icmp_ne C 51 48 dX2_find_45 (by decide) rfl (fun hc => ?_) (fun hc => ?_)
          · replace h := ite_f hc h
            refine vv_iinc C (k := 3) [(5, .int (v5_16 + 1)), (0, .ref (Q 0)), (3, .int (mmin a1 a2)), (4, .int (mmax a1 a2))] dX2_find_51 rfl rfl (by decide) rfl 54 rfl ?_
            refine vv_goto C 16 dX2_find_54 (by decide) ?_
            refine vv_lv [1, 2, 3, 0] [(0, .ref (Q 0)), (3, .int (mmin a1 a2)), (4, .int (mmax a1 a2)), (5, .int (v5_16 + 1))] rfl ?_
            exact ih16 (v5_16 + 1) _ h kk16
          · replace h := ite_t hc h
            refine vv_lv [3] [(5, .int v5_16)] rfl ?_
            exact kk16.1 _ (Option.some.inj h).symm
  obtain ⟨r1, hr1, h⟩ := bnd_s h
  refine L16 FU 0 r1 hr1 ⟨fun r1_0 e => ?_, fun r1_1 e => ?_⟩
  · subst e
    replace h := sel_l h
    refine vv_iload C dX2_find_48 0 rfl 50 rfl ?_
    obtain rfl := Option.some.inj h
    exact ret _ _ dX2_find_50
  · subst e
    replace h := sel_r h
    refine vv_iconst C (v := (-1)) dX2_find_57 (by decide) 58 rfl ?_
    obtain rfl := Option.some.inj h
    exact ret _ _ dX2_find_58
abbrev wX2_isAfter (c : Nat → ClassId) (Q : Nat → Nat) (Q_number : Int32) (Q_first : Nat → Int32) (Q_second : Nat → Int32) : va_W := [(Q 0, .inr (2, [.ref (Q 1), .ref (Q 2), .ref (Q 3), .ref (Q 4), .int Q_number])), aI c (Q 1) 48 Q_first, aI c (Q 2) 48 Q_second]
abbrev rmX2_isAfter : Room := { frames := 0, cells := 0, slots := 0, locals := 0 }
theorem yd_X2_isAfter : yX2_isAfter.cls = RX2 ∧ yX2_isAfter.cls ≠ "java/lang/invoke/MethodHandle" ∧ yX2_isAfter.cls ≠ "java/lang/invoke/VarHandle" ∧ (parseMethodDescriptor yX2_isAfter.desc).map (fun d => d.parameters.length) = some 3 := by decide +kernel
theorem kwX2_isAfter_1 : Cond.fieldLink RX2 9 "BarrelRaft$Lashings" "first" "[I" ∈ wsX2_isAfter := List.mem_of_getElem? (i := 1) rfl
set_option maxRecDepth 20000 in
theorem kinX2_isAfter_X2 : ∀ w ∈ u_ws RX2 TX2 5, w ∈ wsX2_isAfter := by decide +kernel
theorem kwX2_isAfter_2 : Cond.fieldLink RX2 15 "BarrelRaft$Lashings" "second" "[I" ∈ wsX2_isAfter := List.mem_of_getElem? (i := 2) rfl
def jX2_isAfter (Q_first : Nat → Int32) (Q_second : Nat → Int32) (a1 : Int32) (a2 : Int32) (a3 : Int32) : Option (Int32) :=
  chk 48 a1 ((if a2 < rd Q_first a1 then chkZ 1 (some 1) else chk 48 a1 ((if rd Q_first a1 = a2 then chk 48 a1 ((if rd Q_second a1 ≤ a3 then chkZ 0 (some 0) else chkZ 1 (some 1))) else chkZ 0 (some 0)))))
set_option maxHeartbeats 4000000 in
set_option maxRecDepth 100000 in
theorem mt_X2_isAfter (l : Launch) (D : va_G) (c : Nat → ClassId) (Q : Nat → Nat) (Q_number : Int32) (Q_first : Nat → Int32) (Q_second : Nat → Int32) (a1 : Int32) (a2 : Int32) (a3 : Int32) (q0 : Int32) (h : jX2_isAfter Q_first Q_second a1 a2 a3 = some q0) : DTi l yX2_isAfter wsX2_isAfter rmX2_isAfter D c (wX2_isAfter c Q Q_number Q_first Q_second) [.ref (Q 0), .int a1, .int a2, .int a3] q0 (wX2_isAfter c Q Q_number Q_first Q_second) 0 0 := by
  refine DTz_of (cc := cX2_isAfter) (nL := 4) RX2 rfl (by decide) rfl (Nat.le_of_ble_eq_true rfl) (fun g C ret => ?_)
  unfold jX2_isAfter at h
  refine vv_lv [0, 1, 2, 3] [(0, .ref (Q 0)), (1, .int a1), (2, .int a2), (3, .int a3)] rfl ?_
  refine vv_aload_n C dX2_isAfter_0 rfl 0 rfl 1 rfl ?_
  refine vv_get C (q0 := 0) (ci := 2) (k := 0) kinX2_isAfter_X2 rfl rfl (by decide) kwX2_isAfter_1 rfl rfl dX2_isAfter_1 4 rfl ?_
  refine vv_iload_n C dX2_isAfter_4 rfl 1 rfl 5 rfl ?_
  obtain ⟨hi, h⟩ := chk_s h
  refine vv_iald C (q0 := 1) rfl hi dX2_isAfter_5 6 rfl ?_
  refine vv_iload_n C dX2_isAfter_6 rfl 2 rfl 7 rfl ?_
  refine vv_icmp_gt C 30 10 dX2_isAfter_7 (by decide) rfl (fun hc => ?_) (fun hc => ?_)
  · replace h := ite_t hc h
    refine vv_iconst C (v := 1) dX2_isAfter_30 (by decide) 31 rfl ?_
    refine vv_goto C 35 dX2_isAfter_31 (by decide) ?_
    obtain ⟨hz, h⟩ := chkZ_s h
    obtain rfl := Option.some.inj h
    exact ret _ _ hz dX2_isAfter_35
  · replace h := ite_f hc h
    refine vv_aload_n C dX2_isAfter_10 rfl 0 rfl 11 rfl ?_
    refine vv_get C (q0 := 0) (ci := 2) (k := 0) kinX2_isAfter_X2 rfl rfl (by decide) kwX2_isAfter_1 rfl rfl dX2_isAfter_11 14 rfl ?_
    refine vv_iload_n C dX2_isAfter_14 rfl 1 rfl 15 rfl ?_
    obtain ⟨hi, h⟩ := chk_s h
    refine vv_iald C (q0 := 1) rfl hi dX2_isAfter_15 16 rfl ?_
    refine vv_iload_n C dX2_isAfter_16 rfl 2 rfl 17 rfl ?_
    refine vv_icmp_ne C 34 20 dX2_isAfter_17 (by decide) rfl (fun hc => ?_) (fun hc => ?_)
    · replace h := ite_f hc h
      refine vv_iconst C (v := 0) dX2_isAfter_34 (by decide) 35 rfl ?_
      obtain ⟨hz, h⟩ := chkZ_s h
      obtain rfl := Option.some.inj h
      exact ret _ _ hz dX2_isAfter_35
    · replace h := ite_t hc h
      refine vv_aload_n C dX2_isAfter_20 rfl 0 rfl 21 rfl ?_
      refine vv_get C (q0 := 0) (ci := 2) (k := 1) kinX2_isAfter_X2 rfl rfl (by decide) kwX2_isAfter_2 rfl rfl dX2_isAfter_21 24 rfl ?_
      refine vv_iload_n C dX2_isAfter_24 rfl 1 rfl 25 rfl ?_
      obtain ⟨hi, h⟩ := chk_s h
      refine vv_iald C (q0 := 2) rfl hi dX2_isAfter_25 26 rfl ?_
      refine vv_iload_n C dX2_isAfter_26 rfl 3 rfl 27 rfl ?_
      refine vv_icmp_le C 34 30 dX2_isAfter_27 (by decide) rfl (fun hc => ?_) (fun hc => ?_)
      · replace h := ite_t hc h
        refine vv_iconst C (v := 0) dX2_isAfter_34 (by decide) 35 rfl ?_
        obtain ⟨hz, h⟩ := chkZ_s h
        obtain rfl := Option.some.inj h
        exact ret _ _ hz dX2_isAfter_35
      · replace h := ite_f hc h
        refine vv_iconst C (v := 1) dX2_isAfter_30 (by decide) 31 rfl ?_
        refine vv_goto C 35 dX2_isAfter_31 (by decide) ?_
        obtain ⟨hz, h⟩ := chkZ_s h
        obtain rfl := Option.some.inj h
        exact ret _ _ hz dX2_isAfter_35
abbrev wX2_move (c : Nat → ClassId) (Q : Nat → Nat) (Q_number : Int32) (Q_first : Nat → Int32) (Q_second : Nat → Int32) (Q_strength : Nat → Int32) (Q_wear : Nat → Int32) : va_W := [(Q 0, .inr (2, [.ref (Q 1), .ref (Q 2), .ref (Q 3), .ref (Q 4), .int Q_number])), aI c (Q 1) 48 Q_first, aI c (Q 2) 48 Q_second, aI c (Q 3) 48 Q_strength, aI c (Q 4) 48 Q_wear]
abbrev rmX2_move : Room := { frames := 0, cells := 0, slots := 0, locals := 0 }
theorem yd_X2_move : yX2_move.cls = RX2 ∧ yX2_move.cls ≠ "java/lang/invoke/MethodHandle" ∧ yX2_move.cls ≠ "java/lang/invoke/VarHandle" ∧ (parseMethodDescriptor yX2_move.desc).map (fun d => d.parameters.length) = some 2 := by decide +kernel
theorem kwX2_move_1 : Cond.fieldLink RX2 9 "BarrelRaft$Lashings" "first" "[I" ∈ wsX2_move := List.mem_of_getElem? (i := 1) rfl
set_option maxRecDepth 20000 in
theorem kinX2_move_X2 : ∀ w ∈ u_ws RX2 TX2 5, w ∈ wsX2_move := by decide +kernel
theorem kwX2_move_2 : Cond.fieldLink RX2 15 "BarrelRaft$Lashings" "second" "[I" ∈ wsX2_move := List.mem_of_getElem? (i := 2) rfl
theorem kwX2_move_3 : Cond.fieldLink RX2 18 "BarrelRaft$Lashings" "strength" "[I" ∈ wsX2_move := List.mem_of_getElem? (i := 3) rfl
theorem kwX2_move_4 : Cond.fieldLink RX2 21 "BarrelRaft$Lashings" "wear" "[I" ∈ wsX2_move := List.mem_of_getElem? (i := 4) rfl
def jX2_move (Q_first : Nat → Int32) (Q_second : Nat → Int32) (Q_strength : Nat → Int32) (Q_wear : Nat → Int32) (a1 : Int32) (a2 : Int32) : Option ((Nat → Int32) × (Nat → Int32) × (Nat → Int32) × (Nat → Int32)) :=
  chk 48 a1 (chk 48 a2 (chk 48 a1 (chk 48 a2 (chk 48 a1 (chk 48 a2 (chk 48 a1 (chk 48 a2 (some (wr Q_first a2 (rd Q_first a1), wr Q_second a2 (rd Q_second a1), wr Q_strength a2 (rd Q_strength a1), wr Q_wear a2 (rd Q_wear a1))))))))))
set_option maxHeartbeats 4000000 in
set_option maxRecDepth 100000 in
theorem mt_X2_move (l : Launch) (D : va_G) (c : Nat → ClassId) (Q : Nat → Nat) (Q_number : Int32) (Q_first : Nat → Int32) (Q_second : Nat → Int32) (Q_strength : Nat → Int32) (Q_wear : Nat → Int32) (a1 : Int32) (a2 : Int32) (q0 : (Nat → Int32) × (Nat → Int32) × (Nat → Int32) × (Nat → Int32)) (h : jX2_move Q_first Q_second Q_strength Q_wear a1 a2 = some q0) : DTv l yX2_move wsX2_move rmX2_move D c (wX2_move c Q Q_number Q_first Q_second Q_strength Q_wear) [.ref (Q 0), .int a1, .int a2] (wX2_move c Q Q_number q0.1 q0.2.1 q0.2.2.1 q0.2.2.2) 0 0 := by
  refine DTv_of (cc := cX2_move) (nL := 3) RX2 rfl (by decide) rfl (Nat.le_of_ble_eq_true rfl) (fun g C ret => ?_)
  unfold jX2_move at h
  refine vv_lv [0, 1, 2] [(0, .ref (Q 0)), (1, .int a1), (2, .int a2)] rfl ?_
  refine vv_aload_n C dX2_move_0 rfl 0 rfl 1 rfl ?_
  refine vv_get C (q0 := 0) (ci := 2) (k := 0) kinX2_move_X2 rfl rfl (by decide) kwX2_move_1 rfl rfl dX2_move_1 4 rfl ?_
  refine vv_iload_n C dX2_move_4 rfl 2 rfl 5 rfl ?_
  refine vv_aload_n C dX2_move_5 rfl 0 rfl 6 rfl ?_
  refine vv_get C (q0 := 0) (ci := 2) (k := 0) kinX2_move_X2 rfl rfl (by decide) kwX2_move_1 rfl rfl dX2_move_6 9 rfl ?_
  refine vv_iload_n C dX2_move_9 rfl 1 rfl 10 rfl ?_
  obtain ⟨hi, h⟩ := chk_s h
  refine vv_iald C (q0 := 1) rfl hi dX2_move_10 11 rfl ?_
  obtain ⟨hi, h⟩ := chk_s h
  refine vv_iast C (q0 := 1) (wX2_move c Q Q_number (wr Q_first a2 (rd Q_first a1)) Q_second Q_strength Q_wear) rfl hi rfl dX2_move_11 12 rfl ?_
  refine vv_aload_n C dX2_move_12 rfl 0 rfl 13 rfl ?_
  refine vv_get C (q0 := 0) (ci := 2) (k := 1) kinX2_move_X2 rfl rfl (by decide) kwX2_move_2 rfl rfl dX2_move_13 16 rfl ?_
  refine vv_iload_n C dX2_move_16 rfl 2 rfl 17 rfl ?_
  refine vv_aload_n C dX2_move_17 rfl 0 rfl 18 rfl ?_
  refine vv_get C (q0 := 0) (ci := 2) (k := 1) kinX2_move_X2 rfl rfl (by decide) kwX2_move_2 rfl rfl dX2_move_18 21 rfl ?_
  refine vv_iload_n C dX2_move_21 rfl 1 rfl 22 rfl ?_
  obtain ⟨hi, h⟩ := chk_s h
  refine vv_iald C (q0 := 2) rfl hi dX2_move_22 23 rfl ?_
  obtain ⟨hi, h⟩ := chk_s h
  refine vv_iast C (q0 := 2) (wX2_move c Q Q_number (wr Q_first a2 (rd Q_first a1)) (wr Q_second a2 (rd Q_second a1)) Q_strength Q_wear) rfl hi rfl dX2_move_23 24 rfl ?_
  refine vv_aload_n C dX2_move_24 rfl 0 rfl 25 rfl ?_
  refine vv_get C (q0 := 0) (ci := 2) (k := 2) kinX2_move_X2 rfl rfl (by decide) kwX2_move_3 rfl rfl dX2_move_25 28 rfl ?_
  refine vv_iload_n C dX2_move_28 rfl 2 rfl 29 rfl ?_
  refine vv_aload_n C dX2_move_29 rfl 0 rfl 30 rfl ?_
  refine vv_get C (q0 := 0) (ci := 2) (k := 2) kinX2_move_X2 rfl rfl (by decide) kwX2_move_3 rfl rfl dX2_move_30 33 rfl ?_
  refine vv_iload_n C dX2_move_33 rfl 1 rfl 34 rfl ?_
  obtain ⟨hi, h⟩ := chk_s h
  refine vv_iald C (q0 := 3) rfl hi dX2_move_34 35 rfl ?_
  obtain ⟨hi, h⟩ := chk_s h
  refine vv_iast C (q0 := 3) (wX2_move c Q Q_number (wr Q_first a2 (rd Q_first a1)) (wr Q_second a2 (rd Q_second a1)) (wr Q_strength a2 (rd Q_strength a1)) Q_wear) rfl hi rfl dX2_move_35 36 rfl ?_
  refine vv_aload_n C dX2_move_36 rfl 0 rfl 37 rfl ?_
  refine vv_get C (q0 := 0) (ci := 2) (k := 3) kinX2_move_X2 rfl rfl (by decide) kwX2_move_4 rfl rfl dX2_move_37 40 rfl ?_
  refine vv_iload_n C dX2_move_40 rfl 2 rfl 41 rfl ?_
  refine vv_aload_n C dX2_move_41 rfl 0 rfl 42 rfl ?_
  refine vv_get C (q0 := 0) (ci := 2) (k := 3) kinX2_move_X2 rfl rfl (by decide) kwX2_move_4 rfl rfl dX2_move_42 45 rfl ?_
  refine vv_iload_n C dX2_move_45 rfl 1 rfl 46 rfl ?_
  obtain ⟨hi, h⟩ := chk_s h
  refine vv_iald C (q0 := 4) rfl hi dX2_move_46 47 rfl ?_
  obtain ⟨hi, h⟩ := chk_s h
  refine vv_iast C (q0 := 4) (wX2_move c Q Q_number (wr Q_first a2 (rd Q_first a1)) (wr Q_second a2 (rd Q_second a1)) (wr Q_strength a2 (rd Q_strength a1)) (wr Q_wear a2 (rd Q_wear a1))) rfl hi rfl dX2_move_47 48 rfl ?_
  obtain rfl := Option.some.inj h
  exact ret _ _ dX2_move_48
abbrev wX2_renew (c : Nat → ClassId) (Q : Nat → Nat) (Q_number : Int32) (Q_strength : Nat → Int32) (Q_wear : Nat → Int32) : va_W := [(Q 0, .inr (2, [.ref (Q 1), .ref (Q 2), .ref (Q 3), .ref (Q 4), .int Q_number])), aI c (Q 3) 48 Q_strength, aI c (Q 4) 48 Q_wear]
abbrev rmX2_renew : Room := { frames := 0, cells := 0, slots := 0, locals := 0 }
theorem yd_X2_renew : yX2_renew.cls = RX2 ∧ yX2_renew.cls ≠ "java/lang/invoke/MethodHandle" ∧ yX2_renew.cls ≠ "java/lang/invoke/VarHandle" ∧ (parseMethodDescriptor yX2_renew.desc).map (fun d => d.parameters.length) = some 2 := by decide +kernel
theorem kwX2_renew_1 : Cond.fieldLink RX2 18 "BarrelRaft$Lashings" "strength" "[I" ∈ wsX2_renew := List.mem_of_getElem? (i := 1) rfl
set_option maxRecDepth 20000 in
theorem kinX2_renew_X2 : ∀ w ∈ u_ws RX2 TX2 5, w ∈ wsX2_renew := by decide +kernel
theorem kwX2_renew_2 : Cond.fieldLink RX2 21 "BarrelRaft$Lashings" "wear" "[I" ∈ wsX2_renew := List.mem_of_getElem? (i := 2) rfl
def jX2_renew (Q_strength : Nat → Int32) (Q_wear : Nat → Int32) (a1 : Int32) (a2 : Int32) : Option ((Nat → Int32) × (Nat → Int32)) :=
  chk 48 a1 (chk 48 a1 (some (wr Q_strength a1 a2, wr Q_wear a1 0)))
set_option maxHeartbeats 4000000 in
set_option maxRecDepth 100000 in
theorem mt_X2_renew (l : Launch) (D : va_G) (c : Nat → ClassId) (Q : Nat → Nat) (Q_number : Int32) (Q_strength : Nat → Int32) (Q_wear : Nat → Int32) (a1 : Int32) (a2 : Int32) (q0 : (Nat → Int32) × (Nat → Int32)) (h : jX2_renew Q_strength Q_wear a1 a2 = some q0) : DTv l yX2_renew wsX2_renew rmX2_renew D c (wX2_renew c Q Q_number Q_strength Q_wear) [.ref (Q 0), .int a1, .int a2] (wX2_renew c Q Q_number q0.1 q0.2) 0 0 := by
  refine DTv_of (cc := cX2_renew) (nL := 3) RX2 rfl (by decide) rfl (Nat.le_of_ble_eq_true rfl) (fun g C ret => ?_)
  unfold jX2_renew at h
  refine vv_lv [0, 1, 2] [(0, .ref (Q 0)), (1, .int a1), (2, .int a2)] rfl ?_
  refine vv_aload_n C dX2_renew_0 rfl 0 rfl 1 rfl ?_
  refine vv_get C (q0 := 0) (ci := 2) (k := 2) kinX2_renew_X2 rfl rfl (by decide) kwX2_renew_1 rfl rfl dX2_renew_1 4 rfl ?_
  refine vv_iload_n C dX2_renew_4 rfl 1 rfl 5 rfl ?_
  refine vv_iload_n C dX2_renew_5 rfl 2 rfl 6 rfl ?_
  obtain ⟨hi, h⟩ := chk_s h
  refine vv_iast C (q0 := 1) (wX2_renew c Q Q_number (wr Q_strength a1 a2) Q_wear) rfl hi rfl dX2_renew_6 7 rfl ?_
  refine vv_aload_n C dX2_renew_7 rfl 0 rfl 8 rfl ?_
  refine vv_get C (q0 := 0) (ci := 2) (k := 3) kinX2_renew_X2 rfl rfl (by decide) kwX2_renew_2 rfl rfl dX2_renew_8 11 rfl ?_
  refine vv_iload_n C dX2_renew_11 rfl 1 rfl 12 rfl ?_
  refine vv_iconst C (v := 0) dX2_renew_12 (by decide) 13 rfl ?_
  obtain ⟨hi, h⟩ := chk_s h
  refine vv_iast C (q0 := 2) (wX2_renew c Q Q_number (wr Q_strength a1 a2) (wr Q_wear a1 0)) rfl hi rfl dX2_renew_13 14 rfl ?_
  obtain rfl := Option.some.inj h
  exact ret _ _ dX2_renew_14
abbrev wX2_insert (c : Nat → ClassId) (Q : Nat → Nat) (Q_number : Int32) (Q_first : Nat → Int32) (Q_second : Nat → Int32) (Q_strength : Nat → Int32) (Q_wear : Nat → Int32) : va_W := [(Q 0, .inr (2, [.ref (Q 1), .ref (Q 2), .ref (Q 3), .ref (Q 4), .int Q_number])), aI c (Q 1) 48 Q_first, aI c (Q 2) 48 Q_second, aI c (Q 3) 48 Q_strength, aI c (Q 4) 48 Q_wear]
abbrev rmX2_insert : Room := { frames := 1, cells := 0, slots := 0, locals := 23 }
theorem yd_X2_insert : yX2_insert.cls = RX2 ∧ yX2_insert.cls ≠ "java/lang/invoke/MethodHandle" ∧ yX2_insert.cls ≠ "java/lang/invoke/VarHandle" ∧ (parseMethodDescriptor yX2_insert.desc).map (fun d => d.parameters.length) = some 3 := by decide +kernel
theorem kwX2_insert_1 : Cond.fieldLink RX2 33 "BarrelRaft$Lashings" "number" "I" ∈ wsX2_insert := List.mem_of_getElem? (i := 1) rfl
set_option maxRecDepth 20000 in
theorem kinX2_insert_X2 : ∀ w ∈ u_ws RX2 TX2 5, w ∈ wsX2_insert := by decide +kernel
theorem kwX2_insert_2 : Cond.fieldLink RX2 9 "BarrelRaft$Lashings" "first" "[I" ∈ wsX2_insert := List.mem_of_getElem? (i := 2) rfl
theorem kwX2_insert_3 : Cond.fieldLink RX2 15 "BarrelRaft$Lashings" "second" "[I" ∈ wsX2_insert := List.mem_of_getElem? (i := 3) rfl
def jX2_insert_L14 (u1 : Int32) (u2 : Int32) (n : Nat) (Q_first_14 : Nat → Int32) (Q_second_14 : Nat → Int32) (Q_strength_14 : Nat → Int32) (Q_wear_14 : Nat → Int32) (v4_14 : Int32) (v5_14 : Int32) : Option ((Nat → Int32) × (Nat → Int32) × (Nat → Int32) × (Nat → Int32) × Int32) :=
  match n with
  | 0 => none
  | n + 1 => (if v5_14 < 0 then some (Q_first_14, Q_second_14, Q_strength_14, Q_wear_14, v4_14) else bnd (jX2_isAfter Q_first_14 Q_second_14 v5_14 u1 u2) (fun r1 => (if r1 = 0 then some (Q_first_14, Q_second_14, Q_strength_14, Q_wear_14, v4_14) else bnd (jX2_move Q_first_14 Q_second_14 Q_strength_14 Q_wear_14 v5_14 (v5_14 + 1)) (fun r2 => jX2_insert_L14 u1 u2 n r2.1 r2.2.1 r2.2.2.1 r2.2.2.2 v5_14 (v5_14 + (-1))))))
def jX2_insert (Q_number : Int32) (Q_first : Nat → Int32) (Q_second : Nat → Int32) (Q_strength : Nat → Int32) (Q_wear : Nat → Int32) (a1 : Int32) (a2 : Int32) (a3 : Int32) : Option (Int32 × (Nat → Int32) × (Nat → Int32) × (Nat → Int32) × (Nat → Int32)) :=
  bnd (jX2_insert_L14 a1 a2 FU Q_first Q_second Q_strength Q_wear Q_number (Q_number - 1)) (fun r3 => chk 48 r3.2.2.2.2 (chk 48 r3.2.2.2.2 (bnd (jX2_renew r3.2.2.1 r3.2.2.2.1 r3.2.2.2.2 a3) (fun r4 => some (Q_number + 1, wr r3.1 r3.2.2.2.2 a1, wr r3.2.1 r3.2.2.2.2 a2, r4.1, r4.2)))))
set_option maxHeartbeats 4000000 in
set_option maxRecDepth 100000 in
theorem mt_X2_insert (l : Launch) (D : va_G) (c : Nat → ClassId) (Q : Nat → Nat) (Q_number : Int32) (Q_first : Nat → Int32) (Q_second : Nat → Int32) (Q_strength : Nat → Int32) (Q_wear : Nat → Int32) (a1 : Int32) (a2 : Int32) (a3 : Int32) (q0 : Int32 × (Nat → Int32) × (Nat → Int32) × (Nat → Int32) × (Nat → Int32)) (h : jX2_insert Q_number Q_first Q_second Q_strength Q_wear a1 a2 a3 = some q0) : DTv l yX2_insert wsX2_insert rmX2_insert D c (wX2_insert c Q Q_number Q_first Q_second Q_strength Q_wear) [.ref (Q 0), .int a1, .int a2, .int a3] (wX2_insert c Q q0.1 q0.2.1 q0.2.2.1 q0.2.2.2.1 q0.2.2.2.2) 0 0 := by
  refine DTv_of (cc := cX2_insert) (nL := 6) RX2 rfl (by decide) rfl (Nat.le_of_ble_eq_true rfl) (fun g C ret => ?_)
  unfold jX2_insert at h
  refine vv_lv [0, 1, 2, 3] [(0, .ref (Q 0)), (1, .int a1), (2, .int a2), (3, .int a3)] rfl ?_
  refine vv_aload_n C dX2_insert_0 rfl 0 rfl 1 rfl ?_
  refine vv_get C (q0 := 0) (ci := 2) (k := 4) kinX2_insert_X2 rfl rfl (by decide) kwX2_insert_1 rfl rfl dX2_insert_1 4 rfl ?_
  refine vv_istore C [(4, .int Q_number), (0, .ref (Q 0)), (1, .int a1), (2, .int a2), (3, .int a3)] dX2_insert_4 (by decide) rfl 6 rfl ?_
  refine vv_aload_n C dX2_insert_6 rfl 1 rfl 7 rfl ?_
  refine vv_get C (q0 := 0) (ci := 2) (k := 4) kinX2_insert_X2 rfl rfl (by decide) kwX2_insert_1 rfl rfl dX2_insert_7 10 rfl ?_
  refine vv_iconst C (v := 1) dX2_insert_10 (by decide) 11 rfl ?_
  refine vv_isub C dX2_insert_11 12 rfl ?_
  refine vv_istore C [(5, .int (Q_number - 1)), (4, .int Q_number), (0, .ref (Q 0)), (1, .int a1), (2, .int a2), (3, .int a3)] dX2_insert_12 (by decide) rfl 14 rfl ?_
  refine vv_lv [2, 3, 4, 5, 1, 0] [(0, .ref (Q 0)), (1, .int a1), (2, .int a2), (3, .int a3), (4, .int Q_number), (5, .int (Q_number - 1))] rfl ?_
  have L14 : ∀ (n : Nat) (Q_first_14 : Nat → Int32) (Q_second_14 : Nat → Int32) (Q_strength_14 : Nat → Int32) (Q_wear_14 : Nat → Int32) (v4_14 : Int32) (v5_14 : Int32) (q14 : (Nat → Int32) × (Nat → Int32) × (Nat → Int32) × (Nat → Int32) × Int32), jX2_insert_L14 a1 a2 n Q_first_14 Q_second_14 Q_strength_14 Q_wear_14 v4_14 v5_14 = some q14 → (VV g D 6 0 0 (wX2_insert c Q Q_number q14.1 q14.2.1 q14.2.2.1 q14.2.2.2.1) [(0, .ref (Q 0)), (1, .int a1), (2, .int a2), (3, .int a3), (4, .int q14.2.2.2.2)] 50 []) → VV g D 6 0 0 (wX2_insert c Q Q_number Q_first_14 Q_second_14 Q_strength_14 Q_wear_14) [(0, .ref (Q 0)), (1, .int a1), (2, .int a2), (3, .int a3), (4, .int v4_14), (5, .int v5_14)] 14 [] := by
    intro n
    induction n with
    | zero =>
      intro Q_first_14 Q_second_14 Q_strength_14 Q_wear_14 v4_14 v5_14 q14 h _
      rw [jX2_insert_L14] at h
      cases h
    | succ n ih14 =>
      intro Q_first_14 Q_second_14 Q_strength_14 Q_wear_14 v4_14 v5_14 q14 h kk14
      rw [jX2_insert_L14] at h
      refine vv_iload C dX2_insert_14 5 rfl 16 rfl ?_
      refine vv_if_lt C 50 19 dX2_insert_16 (by decide) rfl (fun hc => ?_) (fun hc => ?_)
      · replace h := ite_t hc h
        refine vv_lv [0, 1, 2, 3, 4] [(0, .ref (Q 0)), (1, .int a1), (2, .int a2), (3, .int a3), (4, .int v4_14)] rfl ?_
        obtain rfl := Option.some.inj h
        exact kk14
      · replace h := ite_f hc h
        refine vv_aload_n C dX2_insert_19 rfl 0 rfl 20 rfl ?_
        refine vv_iload C dX2_insert_20 5 rfl 22 rfl ?_
        refine vv_iload_n C dX2_insert_22 rfl 1 rfl 23 rfl ?_
        refine vv_iload_n C dX2_insert_23 rfl 2 rfl 24 rfl ?_
        obtain ⟨r1, hr1, h⟩ := bnd_s h
        refine vv_callVi C (fun l => mt_X2_isAfter l D c Q Q_number Q_first_14 Q_second_14 v5_14 a1 a2 r1 hr1) gX2_insert_X2_isAfter rfl rfl rfl yd_X2_isAfter ⟨Nat.le_of_ble_eq_true rfl, Nat.le_of_ble_eq_true rfl⟩ [0, 1, 2] rfl (by decide) 0 rfl rfl (wX2_insert c Q Q_number Q_first_14 Q_second_14 Q_strength_14 Q_wear_14) [(true, 0), (true, 1), (true, 2), (false, 3), (false, 4)] rfl (by decide) rfl rfl [] rfl (Nat.le_of_ble_eq_true rfl) ⟨Nat.le_of_ble_eq_true rfl, Nat.le_of_ble_eq_true rfl⟩ dX2_insert_24 27 0 0 rfl ⟨rfl, rfl⟩ ?_
        refine vv_if_eq C 50 30 dX2_insert_27 (by decide) rfl (fun hc => ?_) (fun hc => ?_)
        · replace h := ite_t hc h
          refine vv_lv [0, 1, 2, 3, 4] [(0, .ref (Q 0)), (1, .int a1), (2, .int a2), (3, .int a3), (4, .int v4_14)] rfl ?_
          obtain rfl := Option.some.inj h
          exact kk14
        · replace h := ite_f hc h
          refine vv_aload_n C dX2_insert_30 rfl 0 rfl 31 rfl ?_
          refine vv_iload C dX2_insert_31 5 rfl 33 rfl ?_
          refine vv_iload C dX2_insert_33 5 rfl 35 rfl ?_
          refine vv_iconst C (v := 1) dX2_insert_35 (by decide) 36 rfl ?_
          refine vv_iadd C dX2_insert_36 37 rfl ?_
          obtain ⟨r2, hr2, h⟩ := bnd_s h
          refine vv_callVv C (fun l => mt_X2_move l D c Q Q_number Q_first_14 Q_second_14 Q_strength_14 Q_wear_14 v5_14 (v5_14 + 1) r2 hr2) gX2_insert_X2_move rfl rfl rfl yd_X2_move ⟨Nat.le_of_ble_eq_true rfl, Nat.le_of_ble_eq_true rfl⟩ [0, 1, 2, 3, 4] rfl (by decide) 0 rfl rfl (wX2_insert c Q Q_number r2.1 r2.2.1 r2.2.2.1 r2.2.2.2) [(true, 0), (true, 1), (true, 2), (true, 3), (true, 4)] rfl (by decide) rfl rfl [] rfl (Nat.le_of_ble_eq_true rfl) ⟨Nat.le_of_ble_eq_true rfl, Nat.le_of_ble_eq_true rfl⟩ dX2_insert_37 40 0 0 rfl ⟨rfl, rfl⟩ ?_
          refine vv_iload C dX2_insert_40 5 rfl 42 rfl ?_
          refine vv_istore C [(4, .int v5_14), (0, .ref (Q 0)), (1, .int a1), (2, .int a2), (3, .int a3), (5, .int v5_14)] dX2_insert_42 (by decide) rfl 44 rfl ?_
          refine vv_iinc C (k := 5) [(5, .int (v5_14 + (-1))), (4, .int v5_14), (0, .ref (Q 0)), (1, .int a1), (2, .int a2), (3, .int a3)] dX2_insert_44 rfl rfl (by decide) rfl 47 rfl ?_
          refine vv_goto C 14 dX2_insert_47 (by decide) ?_
          refine vv_lv [2, 3, 4, 5, 1, 0] [(0, .ref (Q 0)), (1, .int a1), (2, .int a2), (3, .int a3), (4, .int v5_14), (5, .int (v5_14 + (-1)))] rfl ?_
          exact ih14 r2.1 r2.2.1 r2.2.2.1 r2.2.2.2 v5_14 (v5_14 + (-1)) _ h kk14
  obtain ⟨r3, hr3, h⟩ := bnd_s h
  refine L14 FU Q_first Q_second Q_strength Q_wear Q_number (Q_number - 1) r3 hr3 ?_
  refine vv_aload_n C dX2_insert_50 rfl 0 rfl 51 rfl ?_
  refine vv_get C (q0 := 0) (ci := 2) (k := 0) kinX2_insert_X2 rfl rfl (by decide) kwX2_insert_2 rfl rfl dX2_insert_51 54 rfl ?_
  refine vv_iload C dX2_insert_54 4 rfl 56 rfl ?_
  refine vv_iload_n C dX2_insert_56 rfl 1 rfl 57 rfl ?_
  obtain ⟨hi, h⟩ := chk_s h
  refine vv_iast C (q0 := 1) (wX2_insert c Q Q_number (wr r3.1 r3.2.2.2.2 a1) r3.2.1 r3.2.2.1 r3.2.2.2.1) rfl hi rfl dX2_insert_57 58 rfl ?_
  refine vv_aload_n C dX2_insert_58 rfl 0 rfl 59 rfl ?_
  refine vv_get C (q0 := 0) (ci := 2) (k := 1) kinX2_insert_X2 rfl rfl (by decide) kwX2_insert_3 rfl rfl dX2_insert_59 62 rfl ?_
  refine vv_iload C dX2_insert_62 4 rfl 64 rfl ?_
  refine vv_iload_n C dX2_insert_64 rfl 2 rfl 65 rfl ?_
  obtain ⟨hi, h⟩ := chk_s h
  refine vv_iast C (q0 := 2) (wX2_insert c Q Q_number (wr r3.1 r3.2.2.2.2 a1) (wr r3.2.1 r3.2.2.2.2 a2) r3.2.2.1 r3.2.2.2.1) rfl hi rfl dX2_insert_65 66 rfl ?_
  refine vv_aload_n C dX2_insert_66 rfl 0 rfl 67 rfl ?_
  refine vv_iload C dX2_insert_67 4 rfl 69 rfl ?_
  refine vv_iload_n C dX2_insert_69 rfl 3 rfl 70 rfl ?_
  obtain ⟨r4, hr4, h⟩ := bnd_s h
  refine vv_callVv C (fun l => mt_X2_renew l D c Q Q_number r3.2.2.1 r3.2.2.2.1 r3.2.2.2.2 a3 r4 hr4) gX2_insert_X2_renew rfl rfl rfl yd_X2_renew ⟨Nat.le_of_ble_eq_true rfl, Nat.le_of_ble_eq_true rfl⟩ [0, 3, 4] rfl (by decide) 0 rfl rfl (wX2_insert c Q Q_number (wr r3.1 r3.2.2.2.2 a1) (wr r3.2.1 r3.2.2.2.2 a2) r4.1 r4.2) [(true, 0), (false, 1), (false, 2), (true, 1), (true, 2)] rfl (by decide) rfl rfl [] rfl (Nat.le_of_ble_eq_true rfl) ⟨Nat.le_of_ble_eq_true rfl, Nat.le_of_ble_eq_true rfl⟩ dX2_insert_70 73 0 0 rfl ⟨rfl, rfl⟩ ?_
  refine vv_aload_n C dX2_insert_73 rfl 0 rfl 74 rfl ?_
  refine vv_dup C dX2_insert_74 rfl 75 rfl ?_
  refine vv_get C (q0 := 0) (ci := 2) (k := 4) kinX2_insert_X2 rfl rfl (by decide) kwX2_insert_1 rfl rfl dX2_insert_75 78 rfl ?_
  refine vv_iconst C (v := 1) dX2_insert_78 (by decide) 79 rfl ?_
  refine vv_iadd C dX2_insert_79 80 rfl ?_
  refine vv_put C (q0 := 0) (ci := 2) (k := 4) (ty := .int) (wX2_insert c Q (Q_number + 1) (wr r3.1 r3.2.2.2.2 a1) (wr r3.2.1 r3.2.2.2.2 a2) r4.1 r4.2) tyX2 tyX2_ok nmX2 kinX2_insert_X2 rfl rfl (by decide) kwX2_insert_1 rfl rfl rfl rfl rfl (Nat.le_of_ble_eq_true rfl) rfl dX2_insert_80 83 rfl ?_
  obtain rfl := Option.some.inj h
  exact ret _ _ dX2_insert_83
abbrev wX2_leadsTo (c : Nat → ClassId) (Q : Nat → Nat) (Q_number : Int32) (Q_first : Nat → Int32) (Q_second : Nat → Int32) : va_W := [(Q 0, .inr (2, [.ref (Q 1), .ref (Q 2), .ref (Q 3), .ref (Q 4), .int Q_number])), aI c (Q 1) 48 Q_first, aI c (Q 2) 48 Q_second]
abbrev rmX2_leadsTo : Room := { frames := 0, cells := 0, slots := 0, locals := 0 }
theorem yd_X2_leadsTo : yX2_leadsTo.cls = RX2 ∧ yX2_leadsTo.cls ≠ "java/lang/invoke/MethodHandle" ∧ yX2_leadsTo.cls ≠ "java/lang/invoke/VarHandle" ∧ (parseMethodDescriptor yX2_leadsTo.desc).map (fun d => d.parameters.length) = some 2 := by decide +kernel
theorem kwX2_leadsTo_1 : Cond.fieldLink RX2 9 "BarrelRaft$Lashings" "first" "[I" ∈ wsX2_leadsTo := List.mem_of_getElem? (i := 1) rfl
set_option maxRecDepth 20000 in
theorem kinX2_leadsTo_X2 : ∀ w ∈ u_ws RX2 TX2 5, w ∈ wsX2_leadsTo := by decide +kernel
theorem kwX2_leadsTo_2 : Cond.fieldLink RX2 15 "BarrelRaft$Lashings" "second" "[I" ∈ wsX2_leadsTo := List.mem_of_getElem? (i := 2) rfl
def jX2_leadsTo (Q_first : Nat → Int32) (Q_second : Nat → Int32) (a1 : Int32) (a2 : Int32) : Option (Int32) :=
  chk 48 a1 ((if rd Q_first a1 = a2 then chk 48 a1 (some (rd Q_second a1)) else chk 48 a1 ((if rd Q_second a1 = a2 then chk 48 a1 (some (rd Q_first a1)) else some (-1)))))
set_option maxHeartbeats 4000000 in
set_option maxRecDepth 100000 in
theorem mt_X2_leadsTo (l : Launch) (D : va_G) (c : Nat → ClassId) (Q : Nat → Nat) (Q_number : Int32) (Q_first : Nat → Int32) (Q_second : Nat → Int32) (a1 : Int32) (a2 : Int32) (q0 : Int32) (h : jX2_leadsTo Q_first Q_second a1 a2 = some q0) : DTi l yX2_leadsTo wsX2_leadsTo rmX2_leadsTo D c (wX2_leadsTo c Q Q_number Q_first Q_second) [.ref (Q 0), .int a1, .int a2] q0 (wX2_leadsTo c Q Q_number Q_first Q_second) 0 0 := by
  refine DTi_of (cc := cX2_leadsTo) (nL := 3) RX2 rfl (by decide) rfl (Nat.le_of_ble_eq_true rfl) (fun g C ret => ?_)
  unfold jX2_leadsTo at h
  refine vv_lv [0, 1, 2] [(0, .ref (Q 0)), (1, .int a1), (2, .int a2)] rfl ?_
  refine vv_aload_n C dX2_leadsTo_0 rfl 0 rfl 1 rfl ?_
  refine vv_get C (q0 := 0) (ci := 2) (k := 0) kinX2_leadsTo_X2 rfl rfl (by decide) kwX2_leadsTo_1 rfl rfl dX2_leadsTo_1 4 rfl ?_
  refine vv_iload_n C dX2_leadsTo_4 rfl 1 rfl 5 rfl ?_
  obtain ⟨hi, h⟩ := chk_s h
  refine vv_iald C (q0 := 1) rfl hi dX2_leadsTo_5 6 rfl ?_
  refine vv_iload_n C dX2_leadsTo_6 rfl 2 rfl 7 rfl ?_
  refine vv_icmp_ne C 17 10 dX2_leadsTo_7 (by decide) rfl (fun hc => ?_) (fun hc => ?_)
  · replace h := ite_f hc h
    refine vv_aload_n C dX2_leadsTo_17 rfl 0 rfl 18 rfl ?_
    refine vv_get C (q0 := 0) (ci := 2) (k := 1) kinX2_leadsTo_X2 rfl rfl (by decide) kwX2_leadsTo_2 rfl rfl dX2_leadsTo_18 21 rfl ?_
    refine vv_iload_n C dX2_leadsTo_21 rfl 1 rfl 22 rfl ?_
    obtain ⟨hi, h⟩ := chk_s h
    refine vv_iald C (q0 := 2) rfl hi dX2_leadsTo_22 23 rfl ?_
    refine vv_iload_n C dX2_leadsTo_23 rfl 2 rfl 24 rfl ?_
    refine vv_icmp_ne C 36 27 dX2_leadsTo_24 (by decide) rfl (fun hc => ?_) (fun hc => ?_)
    · replace h := ite_f hc h
      refine vv_iconst C (v := (-1)) dX2_leadsTo_36 (by decide) 37 rfl ?_
      obtain rfl := Option.some.inj h
      exact ret _ _ dX2_leadsTo_37
    · replace h := ite_t hc h
      refine vv_aload_n C dX2_leadsTo_27 rfl 0 rfl 28 rfl ?_
      refine vv_get C (q0 := 0) (ci := 2) (k := 0) kinX2_leadsTo_X2 rfl rfl (by decide) kwX2_leadsTo_1 rfl rfl dX2_leadsTo_28 31 rfl ?_
      refine vv_iload_n C dX2_leadsTo_31 rfl 1 rfl 32 rfl ?_
      obtain ⟨hi, h⟩ := chk_s h
      refine vv_iald C (q0 := 1) rfl hi dX2_leadsTo_32 33 rfl ?_
      refine vv_goto C 37 dX2_leadsTo_33 (by decide) ?_
      obtain rfl := Option.some.inj h
      exact ret _ _ dX2_leadsTo_37
  · replace h := ite_t hc h
    refine vv_aload_n C dX2_leadsTo_10 rfl 0 rfl 11 rfl ?_
    refine vv_get C (q0 := 0) (ci := 2) (k := 1) kinX2_leadsTo_X2 rfl rfl (by decide) kwX2_leadsTo_2 rfl rfl dX2_leadsTo_11 14 rfl ?_
    refine vv_iload_n C dX2_leadsTo_14 rfl 1 rfl 15 rfl ?_
    obtain ⟨hi, h⟩ := chk_s h
    refine vv_iald C (q0 := 2) rfl hi dX2_leadsTo_15 16 rfl ?_
    obtain rfl := Option.some.inj h
    exact ret _ _ dX2_leadsTo_16
abbrev wX2_left (c : Nat → ClassId) (Q : Nat → Nat) (Q_number : Int32) (Q_strength : Nat → Int32) (Q_wear : Nat → Int32) : va_W := [(Q 0, .inr (2, [.ref (Q 1), .ref (Q 2), .ref (Q 3), .ref (Q 4), .int Q_number])), aI c (Q 3) 48 Q_strength, aI c (Q 4) 48 Q_wear]
abbrev rmX2_left : Room := { frames := 0, cells := 0, slots := 0, locals := 0 }
theorem yd_X2_left : yX2_left.cls = RX2 ∧ yX2_left.cls ≠ "java/lang/invoke/MethodHandle" ∧ yX2_left.cls ≠ "java/lang/invoke/VarHandle" ∧ (parseMethodDescriptor yX2_left.desc).map (fun d => d.parameters.length) = some 1 := by decide +kernel
theorem kwX2_left_1 : Cond.fieldLink RX2 18 "BarrelRaft$Lashings" "strength" "[I" ∈ wsX2_left := List.mem_of_getElem? (i := 1) rfl
set_option maxRecDepth 20000 in
theorem kinX2_left_X2 : ∀ w ∈ u_ws RX2 TX2 5, w ∈ wsX2_left := by decide +kernel
theorem kwX2_left_2 : Cond.fieldLink RX2 21 "BarrelRaft$Lashings" "wear" "[I" ∈ wsX2_left := List.mem_of_getElem? (i := 2) rfl
def jX2_left (Q_strength : Nat → Int32) (Q_wear : Nat → Int32) (a1 : Int32) : Option (Int32) :=
  chk 48 a1 (chk 48 a1 (some ((rd Q_strength a1) - (rd Q_wear a1))))
set_option maxHeartbeats 4000000 in
set_option maxRecDepth 100000 in
theorem mt_X2_left (l : Launch) (D : va_G) (c : Nat → ClassId) (Q : Nat → Nat) (Q_number : Int32) (Q_strength : Nat → Int32) (Q_wear : Nat → Int32) (a1 : Int32) (q0 : Int32) (h : jX2_left Q_strength Q_wear a1 = some q0) : DTi l yX2_left wsX2_left rmX2_left D c (wX2_left c Q Q_number Q_strength Q_wear) [.ref (Q 0), .int a1] q0 (wX2_left c Q Q_number Q_strength Q_wear) 0 0 := by
  refine DTi_of (cc := cX2_left) (nL := 2) RX2 rfl (by decide) rfl (Nat.le_of_ble_eq_true rfl) (fun g C ret => ?_)
  unfold jX2_left at h
  refine vv_lv [0, 1] [(0, .ref (Q 0)), (1, .int a1)] rfl ?_
  refine vv_aload_n C dX2_left_0 rfl 0 rfl 1 rfl ?_
  refine vv_get C (q0 := 0) (ci := 2) (k := 2) kinX2_left_X2 rfl rfl (by decide) kwX2_left_1 rfl rfl dX2_left_1 4 rfl ?_
  refine vv_iload_n C dX2_left_4 rfl 1 rfl 5 rfl ?_
  obtain ⟨hi, h⟩ := chk_s h
  refine vv_iald C (q0 := 1) rfl hi dX2_left_5 6 rfl ?_
  refine vv_aload_n C dX2_left_6 rfl 0 rfl 7 rfl ?_
  refine vv_get C (q0 := 0) (ci := 2) (k := 3) kinX2_left_X2 rfl rfl (by decide) kwX2_left_2 rfl rfl dX2_left_7 10 rfl ?_
  refine vv_iload_n C dX2_left_10 rfl 1 rfl 11 rfl ?_
  obtain ⟨hi, h⟩ := chk_s h
  refine vv_iald C (q0 := 2) rfl hi dX2_left_11 12 rfl ?_
  refine vv_isub C dX2_left_12 13 rfl ?_
  obtain rfl := Option.some.inj h
  exact ret _ _ dX2_left_13
abbrev wX2_make (c : Nat → ClassId) (Q : Nat → Nat) (Q_number : Int32) (Q_first : Nat → Int32) (Q_second : Nat → Int32) (Q_strength : Nat → Int32) (Q_wear : Nat → Int32) : va_W := [(Q 0, .inr (2, [.ref (Q 1), .ref (Q 2), .ref (Q 3), .ref (Q 4), .int Q_number])), aI c (Q 1) 48 Q_first, aI c (Q 2) 48 Q_second, aI c (Q 3) 48 Q_strength, aI c (Q 4) 48 Q_wear]
abbrev rmX2_make : Room := { frames := 2, cells := 0, slots := 0, locals := 48 }
theorem yd_X2_make : yX2_make.cls = RX2 ∧ yX2_make.cls ≠ "java/lang/invoke/MethodHandle" ∧ yX2_make.cls ≠ "java/lang/invoke/VarHandle" ∧ (parseMethodDescriptor yX2_make.desc).map (fun d => d.parameters.length) = some 3 := by decide +kernel
theorem kwX2_make_1 : Cond.fieldLink RX2 33 "BarrelRaft$Lashings" "number" "I" ∈ wsX2_make := List.mem_of_getElem? (i := 1) rfl
set_option maxRecDepth 20000 in
theorem kinX2_make_X2 : ∀ w ∈ u_ws RX2 TX2 5, w ∈ wsX2_make := by decide +kernel
def jX2_make (Q_number : Int32) (Q_first : Nat → Int32) (Q_second : Nat → Int32) (Q_strength : Nat → Int32) (Q_wear : Nat → Int32) (a1 : Int32) (a2 : Int32) (a3 : Int32) : Option (Int32 × (Nat → Int32) × (Nat → Int32) × (Nat → Int32) × (Nat → Int32)) :=
  bnd (jX2_find Q_number Q_first Q_second a1 a2) (fun r1 => (if r1 < 0 then (if 48 ≤ Q_number then some (Q_number, Q_first, Q_second, Q_strength, Q_wear) else bnd (jX2_insert Q_number Q_first Q_second Q_strength Q_wear a1 a2 a3) (fun r2 => some (r2.1, r2.2.1, r2.2.2.1, r2.2.2.2.1, r2.2.2.2.2))) else bnd (jX2_renew Q_strength Q_wear r1 a3) (fun r3 => some (Q_number, Q_first, Q_second, r3.1, r3.2))))
set_option maxHeartbeats 4000000 in
set_option maxRecDepth 100000 in
theorem mt_X2_make (l : Launch) (D : va_G) (c : Nat → ClassId) (Q : Nat → Nat) (Q_number : Int32) (Q_first : Nat → Int32) (Q_second : Nat → Int32) (Q_strength : Nat → Int32) (Q_wear : Nat → Int32) (a1 : Int32) (a2 : Int32) (a3 : Int32) (q0 : Int32 × (Nat → Int32) × (Nat → Int32) × (Nat → Int32) × (Nat → Int32)) (h : jX2_make Q_number Q_first Q_second Q_strength Q_wear a1 a2 a3 = some q0) : DTv l yX2_make wsX2_make rmX2_make D c (wX2_make c Q Q_number Q_first Q_second Q_strength Q_wear) [.ref (Q 0), .int a1, .int a2, .int a3] (wX2_make c Q q0.1 q0.2.1 q0.2.2.1 q0.2.2.2.1 q0.2.2.2.2) 0 0 := by
  refine DTv_of (cc := cX2_make) (nL := 5) RX2 rfl (by decide) rfl (Nat.le_of_ble_eq_true rfl) (fun g C ret => ?_)
  unfold jX2_make at h
  refine vv_lv [0, 1, 2, 3] [(0, .ref (Q 0)), (1, .int a1), (2, .int a2), (3, .int a3)] rfl ?_
  refine vv_aload_n C dX2_make_0 rfl 0 rfl 1 rfl ?_
  refine vv_iload_n C dX2_make_1 rfl 1 rfl 2 rfl ?_
  refine vv_iload_n C dX2_make_2 rfl 2 rfl 3 rfl ?_
  obtain ⟨r1, hr1, h⟩ := bnd_s h
  refine vv_callVi C (fun l => mt_X2_find l D c Q Q_number Q_first Q_second a1 a2 r1 hr1) gX2_make_X2_find rfl rfl rfl yd_X2_find ⟨Nat.le_of_ble_eq_true rfl, Nat.le_of_ble_eq_true rfl⟩ [0, 1, 2] rfl (by decide) 0 rfl rfl (wX2_make c Q Q_number Q_first Q_second Q_strength Q_wear) [(true, 0), (true, 1), (true, 2), (false, 3), (false, 4)] rfl (by decide) rfl rfl [] rfl (Nat.le_of_ble_eq_true rfl) ⟨Nat.le_of_ble_eq_true rfl, Nat.le_of_ble_eq_true rfl⟩ dX2_make_3 6 0 0 rfl ⟨rfl, rfl⟩ ?_
  refine vv_istore C [(4, .int r1), (0, .ref (Q 0)), (1, .int a1), (2, .int a2), (3, .int a3)] dX2_make_6 (by decide) rfl 8 rfl ?_
  refine vv_iload C dX2_make_8 0 rfl 10 rfl ?_
  refine vv_if_lt C 23 13 dX2_make_10 (by decide) rfl (fun hc => ?_) (fun hc => ?_)
  · replace h := ite_t hc h
    refine vv_aload_n C dX2_make_23 rfl 1 rfl 24 rfl ?_
    refine vv_get C (q0 := 0) (ci := 2) (k := 4) kinX2_make_X2 rfl rfl (by decide) kwX2_make_1 rfl rfl dX2_make_24 27 rfl ?_
    refine vv_bipush C (v := 48) dX2_make_27 (by decide) 29 rfl ?_
    refine vv_icmp_ge C 39 32 dX2_make_29 (by decide) rfl (fun hc => ?_) (fun hc => ?_)
    · replace h := ite_t hc h
      obtain rfl := Option.some.inj h
      exact ret _ _ dX2_make_39
    · replace h := ite_f hc h
      refine vv_aload_n C dX2_make_32 rfl 1 rfl 33 rfl ?_
      refine vv_iload_n C dX2_make_33 rfl 2 rfl 34 rfl ?_
      refine vv_iload_n C dX2_make_34 rfl 3 rfl 35 rfl ?_
      refine vv_iload_n C dX2_make_35 rfl 4 rfl 36 rfl ?_
      obtain ⟨r2, hr2, h⟩ := bnd_s h
      refine vv_callVv C (fun l => mt_X2_insert l D c Q Q_number Q_first Q_second Q_strength Q_wear a1 a2 a3 r2 hr2) gX2_make_X2_insert rfl rfl rfl yd_X2_insert ⟨Nat.le_of_ble_eq_true rfl, Nat.le_of_ble_eq_true rfl⟩ [0, 1, 2, 3, 4] rfl (by decide) 0 rfl rfl (wX2_make c Q r2.1 r2.2.1 r2.2.2.1 r2.2.2.2.1 r2.2.2.2.2) [(true, 0), (true, 1), (true, 2), (true, 3), (true, 4)] rfl (by decide) rfl rfl [] rfl (Nat.le_of_ble_eq_true rfl) ⟨Nat.le_of_ble_eq_true rfl, Nat.le_of_ble_eq_true rfl⟩ dX2_make_36 39 0 0 rfl ⟨rfl, rfl⟩ ?_
      obtain rfl := Option.some.inj h
      exact ret _ _ dX2_make_39
  · replace h := ite_f hc h
    refine vv_aload_n C dX2_make_13 rfl 1 rfl 14 rfl ?_
    refine vv_iload C dX2_make_14 0 rfl 16 rfl ?_
    refine vv_iload_n C dX2_make_16 rfl 4 rfl 17 rfl ?_
    obtain ⟨r3, hr3, h⟩ := bnd_s h
    refine vv_callVv C (fun l => mt_X2_renew l D c Q Q_number Q_strength Q_wear r1 a3 r3 hr3) gX2_make_X2_renew rfl rfl rfl yd_X2_renew ⟨Nat.le_of_ble_eq_true rfl, Nat.le_of_ble_eq_true rfl⟩ [0, 3, 4] rfl (by decide) 0 rfl rfl (wX2_make c Q Q_number Q_first Q_second r3.1 r3.2) [(true, 0), (false, 1), (false, 2), (true, 1), (true, 2)] rfl (by decide) rfl rfl [] rfl (Nat.le_of_ble_eq_true rfl) ⟨Nat.le_of_ble_eq_true rfl, Nat.le_of_ble_eq_true rfl⟩ dX2_make_17 20 0 0 rfl ⟨rfl, rfl⟩ ?_
    refine vv_goto C 39 dX2_make_20 (by decide) ?_
    obtain rfl := Option.some.inj h
    exact ret _ _ dX2_make_39
abbrev wX2_sweep (c : Nat → ClassId) (Q : Nat → Nat) (Q_number : Int32) (Q_first : Nat → Int32) (Q_second : Nat → Int32) (Q_strength : Nat → Int32) (Q_wear : Nat → Int32) : va_W := [(Q 0, .inr (2, [.ref (Q 1), .ref (Q 2), .ref (Q 3), .ref (Q 4), .int Q_number])), aI c (Q 1) 48 Q_first, aI c (Q 2) 48 Q_second, aI c (Q 3) 48 Q_strength, aI c (Q 4) 48 Q_wear]
abbrev rmX2_sweep : Room := { frames := 1, cells := 0, slots := 0, locals := 22 }
theorem yd_X2_sweep : yX2_sweep.cls = RX2 ∧ yX2_sweep.cls ≠ "java/lang/invoke/MethodHandle" ∧ yX2_sweep.cls ≠ "java/lang/invoke/VarHandle" ∧ (parseMethodDescriptor yX2_sweep.desc).map (fun d => d.parameters.length) = some 0 := by decide +kernel
theorem kwX2_sweep_1 : Cond.fieldLink RX2 33 "BarrelRaft$Lashings" "number" "I" ∈ wsX2_sweep := List.mem_of_getElem? (i := 1) rfl
set_option maxRecDepth 20000 in
theorem kinX2_sweep_X2 : ∀ w ∈ u_ws RX2 TX2 5, w ∈ wsX2_sweep := by decide +kernel
theorem kwX2_sweep_2 : Cond.fieldLink RX2 18 "BarrelRaft$Lashings" "strength" "[I" ∈ wsX2_sweep := List.mem_of_getElem? (i := 2) rfl
def jX2_sweep_L4 (Q_number : Int32) (n : Nat) (Q_first_4 : Nat → Int32) (Q_second_4 : Nat → Int32) (Q_strength_4 : Nat → Int32) (Q_wear_4 : Nat → Int32) (v1_4 : Int32) (v2_4 : Int32) : Option ((Nat → Int32) × (Nat → Int32) × (Nat → Int32) × (Nat → Int32) × Int32) :=
  match n with
  | 0 => none
  | n + 1 => (if Q_number ≤ v2_4 then some (Q_first_4, Q_second_4, Q_strength_4, Q_wear_4, v1_4) else chk 48 v2_4 ((if rd Q_strength_4 v2_4 ≤ 0 then jX2_sweep_L4 Q_number n Q_first_4 Q_second_4 Q_strength_4 Q_wear_4 v1_4 (v2_4 + 1) else bnd (jX2_move Q_first_4 Q_second_4 Q_strength_4 Q_wear_4 v2_4 v1_4) (fun r1 => jX2_sweep_L4 Q_number n r1.1 r1.2.1 r1.2.2.1 r1.2.2.2 (v1_4 + 1) (v2_4 + 1)))))
def jX2_sweep (Q_number : Int32) (Q_first : Nat → Int32) (Q_second : Nat → Int32) (Q_strength : Nat → Int32) (Q_wear : Nat → Int32) : Option (Int32 × (Nat → Int32) × (Nat → Int32) × (Nat → Int32) × (Nat → Int32)) :=
  bnd (jX2_sweep_L4 Q_number FU Q_first Q_second Q_strength Q_wear 0 0) (fun r2 => some (r2.2.2.2.2, r2.1, r2.2.1, r2.2.2.1, r2.2.2.2.1))
set_option maxHeartbeats 4000000 in
set_option maxRecDepth 100000 in
theorem mt_X2_sweep (l : Launch) (D : va_G) (c : Nat → ClassId) (Q : Nat → Nat) (Q_number : Int32) (Q_first : Nat → Int32) (Q_second : Nat → Int32) (Q_strength : Nat → Int32) (Q_wear : Nat → Int32) (q0 : Int32 × (Nat → Int32) × (Nat → Int32) × (Nat → Int32) × (Nat → Int32)) (h : jX2_sweep Q_number Q_first Q_second Q_strength Q_wear = some q0) : DTv l yX2_sweep wsX2_sweep rmX2_sweep D c (wX2_sweep c Q Q_number Q_first Q_second Q_strength Q_wear) [.ref (Q 0)] (wX2_sweep c Q q0.1 q0.2.1 q0.2.2.1 q0.2.2.2.1 q0.2.2.2.2) 0 0 := by
  refine DTv_of (cc := cX2_sweep) (nL := 3) RX2 rfl (by decide) rfl (Nat.le_of_ble_eq_true rfl) (fun g C ret => ?_)
  unfold jX2_sweep at h
  refine vv_lv [0] [(0, .ref (Q 0))] rfl ?_
  refine vv_iconst C (v := 0) dX2_sweep_0 (by decide) 1 rfl ?_
  refine vv_istore_n C [(1, .int 0), (0, .ref (Q 0))] dX2_sweep_1 rfl (by decide) rfl 2 rfl ?_
  refine vv_iconst C (v := 0) dX2_sweep_2 (by decide) 3 rfl ?_
  refine vv_istore_n C [(2, .int 0), (1, .int 0), (0, .ref (Q 0))] dX2_sweep_3 rfl (by decide) rfl 4 rfl ?_
  refine vv_lv [2, 1, 0] [(0, .ref (Q 0)), (1, .int 0), (2, .int 0)] rfl ?_
  have L4 : ∀ (n : Nat) (Q_first_4 : Nat → Int32) (Q_second_4 : Nat → Int32) (Q_strength_4 : Nat → Int32) (Q_wear_4 : Nat → Int32) (v1_4 : Int32) (v2_4 : Int32) (q4 : (Nat → Int32) × (Nat → Int32) × (Nat → Int32) × (Nat → Int32) × Int32), jX2_sweep_L4 Q_number n Q_first_4 Q_second_4 Q_strength_4 Q_wear_4 v1_4 v2_4 = some q4 → (VV g D 3 0 0 (wX2_sweep c Q Q_number q4.1 q4.2.1 q4.2.2.1 q4.2.2.2.1) [(0, .ref (Q 0)), (1, .int q4.2.2.2.2)] 36 []) → VV g D 3 0 0 (wX2_sweep c Q Q_number Q_first_4 Q_second_4 Q_strength_4 Q_wear_4) [(0, .ref (Q 0)), (1, .int v1_4), (2, .int v2_4)] 4 [] := by
    intro n
    induction n with
    | zero =>
      intro Q_first_4 Q_second_4 Q_strength_4 Q_wear_4 v1_4 v2_4 q4 h _
      rw [jX2_sweep_L4] at h
      cases h
    | succ n ih4 =>
      intro Q_first_4 Q_second_4 Q_strength_4 Q_wear_4 v1_4 v2_4 q4 h kk4
      rw [jX2_sweep_L4] at h
      refine vv_iload_n C dX2_sweep_4 rfl 2 rfl 5 rfl ?_
      refine vv_aload_n C dX2_sweep_5 rfl 0 rfl 6 rfl ?_
      refine vv_get C (q0 := 0) (ci := 2) (k := 4) kinX2_sweep_X2 rfl rfl (by decide) kwX2_sweep_1 rfl rfl dX2_sweep_6 9 rfl ?_
      refine vv_icmp_ge C 36 12 dX2_sweep_9 (by decide) rfl (fun hc => ?_) (fun hc => ?_)
      · replace h := ite_t hc h
        refine vv_lv [0, 1] [(0, .ref (Q 0)), (1, .int v1_4)] rfl ?_
        obtain rfl := Option.some.inj h
        exact kk4
      · replace h := ite_f hc h
        refine vv_aload_n C dX2_sweep_12 rfl 0 rfl 13 rfl ?_
        refine vv_get C (q0 := 0) (ci := 2) (k := 2) kinX2_sweep_X2 rfl rfl (by decide) kwX2_sweep_2 rfl rfl dX2_sweep_13 16 rfl ?_
        refine vv_iload_n C dX2_sweep_16 rfl 2 rfl 17 rfl ?_
        obtain ⟨hi, h⟩ := chk_s h
        refine vv_iald C (q0 := 3) rfl hi dX2_sweep_17 18 rfl ?_
        refine vv_if_le C 30 21 dX2_sweep_18 (by decide) rfl (fun hc => ?_) (fun hc => ?_)
        · replace h := ite_t hc h
          refine vv_iinc C (k := 2) [(2, .int (v2_4 + 1)), (0, .ref (Q 0)), (1, .int v1_4)] dX2_sweep_30 rfl rfl (by decide) rfl 33 rfl ?_
          refine vv_goto C 4 dX2_sweep_33 (by decide) ?_
          refine vv_lv [1, 2, 0] [(0, .ref (Q 0)), (1, .int v1_4), (2, .int (v2_4 + 1))] rfl ?_
          exact ih4 Q_first_4 Q_second_4 Q_strength_4 Q_wear_4 v1_4 (v2_4 + 1) _ h kk4
        · replace h := ite_f hc h
          refine vv_aload_n C dX2_sweep_21 rfl 0 rfl 22 rfl ?_
          refine vv_iload_n C dX2_sweep_22 rfl 2 rfl 23 rfl ?_
          refine vv_iload_n C dX2_sweep_23 rfl 1 rfl 24 rfl ?_
          obtain ⟨r1, hr1, h⟩ := bnd_s h
          refine vv_callVv C (fun l => mt_X2_move l D c Q Q_number Q_first_4 Q_second_4 Q_strength_4 Q_wear_4 v2_4 v1_4 r1 hr1) gX2_sweep_X2_move rfl rfl rfl yd_X2_move ⟨Nat.le_of_ble_eq_true rfl, Nat.le_of_ble_eq_true rfl⟩ [0, 1, 2, 3, 4] rfl (by decide) 0 rfl rfl (wX2_sweep c Q Q_number r1.1 r1.2.1 r1.2.2.1 r1.2.2.2) [(true, 0), (true, 1), (true, 2), (true, 3), (true, 4)] rfl (by decide) rfl rfl [] rfl (Nat.le_of_ble_eq_true rfl) ⟨Nat.le_of_ble_eq_true rfl, Nat.le_of_ble_eq_true rfl⟩ dX2_sweep_24 27 0 0 rfl ⟨rfl, rfl⟩ ?_
          refine vv_iinc C (k := 1) [(1, .int (v1_4 + 1)), (0, .ref (Q 0)), (2, .int v2_4)] dX2_sweep_27 rfl rfl (by decide) rfl 30 rfl ?_
          refine vv_iinc C (k := 2) [(2, .int (v2_4 + 1)), (1, .int (v1_4 + 1)), (0, .ref (Q 0))] dX2_sweep_30 rfl rfl (by decide) rfl 33 rfl ?_
          refine vv_goto C 4 dX2_sweep_33 (by decide) ?_
          refine vv_lv [2, 1, 0] [(0, .ref (Q 0)), (1, .int (v1_4 + 1)), (2, .int (v2_4 + 1))] rfl ?_
          exact ih4 r1.1 r1.2.1 r1.2.2.1 r1.2.2.2 (v1_4 + 1) (v2_4 + 1) _ h kk4
  obtain ⟨r2, hr2, h⟩ := bnd_s h
  refine L4 FU Q_first Q_second Q_strength Q_wear 0 0 r2 hr2 ?_
  refine vv_aload_n C dX2_sweep_36 rfl 0 rfl 37 rfl ?_
  refine vv_iload_n C dX2_sweep_37 rfl 1 rfl 38 rfl ?_
  refine vv_put C (q0 := 0) (ci := 2) (k := 4) (ty := .int) (wX2_sweep c Q r2.2.2.2.2 r2.1 r2.2.1 r2.2.2.1 r2.2.2.2.1) tyX2 tyX2_ok nmX2 kinX2_sweep_X2 rfl rfl (by decide) kwX2_sweep_1 rfl rfl rfl rfl rfl (Nat.le_of_ble_eq_true rfl) rfl dX2_sweep_38 41 rfl ?_
  obtain rfl := Option.some.inj h
  exact ret _ _ dX2_sweep_41
abbrev wX2_undo (c : Nat → ClassId) (Q : Nat → Nat) (Q_number : Int32) (Q_strength : Nat → Int32) : va_W := [(Q 0, .inr (2, [.ref (Q 1), .ref (Q 2), .ref (Q 3), .ref (Q 4), .int Q_number])), aI c (Q 3) 48 Q_strength]
abbrev rmX2_undo : Room := { frames := 0, cells := 0, slots := 0, locals := 0 }
theorem yd_X2_undo : yX2_undo.cls = RX2 ∧ yX2_undo.cls ≠ "java/lang/invoke/MethodHandle" ∧ yX2_undo.cls ≠ "java/lang/invoke/VarHandle" ∧ (parseMethodDescriptor yX2_undo.desc).map (fun d => d.parameters.length) = some 1 := by decide +kernel
theorem kwX2_undo_1 : Cond.fieldLink RX2 18 "BarrelRaft$Lashings" "strength" "[I" ∈ wsX2_undo := List.mem_of_getElem? (i := 1) rfl
set_option maxRecDepth 20000 in
theorem kinX2_undo_X2 : ∀ w ∈ u_ws RX2 TX2 5, w ∈ wsX2_undo := by decide +kernel
def jX2_undo (Q_strength : Nat → Int32) (a1 : Int32) : Option ((Nat → Int32)) :=
  chk 48 a1 (some (wr Q_strength a1 0))
set_option maxHeartbeats 4000000 in
set_option maxRecDepth 100000 in
theorem mt_X2_undo (l : Launch) (D : va_G) (c : Nat → ClassId) (Q : Nat → Nat) (Q_number : Int32) (Q_strength : Nat → Int32) (a1 : Int32) (q0 : (Nat → Int32)) (h : jX2_undo Q_strength a1 = some q0) : DTv l yX2_undo wsX2_undo rmX2_undo D c (wX2_undo c Q Q_number Q_strength) [.ref (Q 0), .int a1] (wX2_undo c Q Q_number q0) 0 0 := by
  refine DTv_of (cc := cX2_undo) (nL := 2) RX2 rfl (by decide) rfl (Nat.le_of_ble_eq_true rfl) (fun g C ret => ?_)
  unfold jX2_undo at h
  refine vv_lv [0, 1] [(0, .ref (Q 0)), (1, .int a1)] rfl ?_
  refine vv_aload_n C dX2_undo_0 rfl 0 rfl 1 rfl ?_
  refine vv_get C (q0 := 0) (ci := 2) (k := 2) kinX2_undo_X2 rfl rfl (by decide) kwX2_undo_1 rfl rfl dX2_undo_1 4 rfl ?_
  refine vv_iload_n C dX2_undo_4 rfl 1 rfl 5 rfl ?_
  refine vv_iconst C (v := 0) dX2_undo_5 (by decide) 6 rfl ?_
  obtain ⟨hi, h⟩ := chk_s h
  refine vv_iast C (q0 := 1) (wX2_undo c Q Q_number (wr Q_strength a1 0)) rfl hi rfl dX2_undo_6 7 rfl ?_
  obtain rfl := Option.some.inj h
  exact ret _ _ dX2_undo_7
abbrev wX6_isSea (c : Nat → ClassId)  : va_W := []
abbrev rmX6_isSea : Room := { frames := 0, cells := 0, slots := 0, locals := 0 }
theorem yd_X6_isSea : yX6_isSea.cls ≠ "java/lang/invoke/MethodHandle" ∧ yX6_isSea.cls ≠ "java/lang/invoke/VarHandle" ∧ (parseMethodDescriptor yX6_isSea.desc).map (fun d => d.parameters.length) = some 2 := by decide +kernel
def jX6_isSea (a1 : Int32) (a2 : Int32) : Option (Int32) :=
  (if a1 < 0 then chkZ 0 (some 0) else (if 30 ≤ a1 then chkZ 0 (some 0) else (if a2 < 0 then chkZ 0 (some 0) else (if 20 ≤ a2 then chkZ 0 (some 0) else chkZ 1 (some 1)))))
set_option maxHeartbeats 4000000 in
set_option maxRecDepth 100000 in
theorem mt_X6_isSea (l : Launch) (D : va_G) (c : Nat → ClassId) (a1 : Int32) (a2 : Int32) (q0 : Int32) (h : jX6_isSea a1 a2 = some q0) : DTi l yX6_isSea wsX6_isSea rmX6_isSea D c (wX6_isSea c ) [.int a1, .int a2] q0 (wX6_isSea c ) 0 0 := by
  refine DTz_of (cc := cX6_isSea) (nL := 2) RX6 rfl (by decide) rfl (Nat.le_of_ble_eq_true rfl) (fun g C ret => ?_)
  unfold jX6_isSea at h
  refine vv_lv [0, 1] [(0, .int a1), (1, .int a2)] rfl ?_
  refine vv_iload_n C dX6_isSea_0 rfl 0 rfl 1 rfl ?_
  refine vv_if_lt C 24 4 dX6_isSea_1 (by decide) rfl (fun hc => ?_) (fun hc => ?_)
  · replace h := ite_t hc h
    refine vv_iconst C (v := 0) dX6_isSea_24 (by decide) 25 rfl ?_
    obtain ⟨hz, h⟩ := chkZ_s h
    obtain rfl := Option.some.inj h
    exact ret _ _ hz dX6_isSea_25
  · replace h := ite_f hc h
    refine vv_iload_n C dX6_isSea_4 rfl 0 rfl 5 rfl ?_
    refine vv_bipush C (v := 30) dX6_isSea_5 (by decide) 7 rfl ?_
    refine vv_icmp_ge C 24 10 dX6_isSea_7 (by decide) rfl (fun hc => ?_) (fun hc => ?_)
    · replace h := ite_t hc h
      refine vv_iconst C (v := 0) dX6_isSea_24 (by decide) 25 rfl ?_
      obtain ⟨hz, h⟩ := chkZ_s h
      obtain rfl := Option.some.inj h
      exact ret _ _ hz dX6_isSea_25
    · replace h := ite_f hc h
      refine vv_iload_n C dX6_isSea_10 rfl 1 rfl 11 rfl ?_
      refine vv_if_lt C 24 14 dX6_isSea_11 (by decide) rfl (fun hc => ?_) (fun hc => ?_)
      · replace h := ite_t hc h
        refine vv_iconst C (v := 0) dX6_isSea_24 (by decide) 25 rfl ?_
        obtain ⟨hz, h⟩ := chkZ_s h
        obtain rfl := Option.some.inj h
        exact ret _ _ hz dX6_isSea_25
      · replace h := ite_f hc h
        refine vv_iload_n C dX6_isSea_14 rfl 1 rfl 15 rfl ?_
        refine vv_bipush C (v := 20) dX6_isSea_15 (by decide) 17 rfl ?_
        refine vv_icmp_ge C 24 20 dX6_isSea_17 (by decide) rfl (fun hc => ?_) (fun hc => ?_)
        · replace h := ite_t hc h
          refine vv_iconst C (v := 0) dX6_isSea_24 (by decide) 25 rfl ?_
          obtain ⟨hz, h⟩ := chkZ_s h
          obtain rfl := Option.some.inj h
          exact ret _ _ hz dX6_isSea_25
        · replace h := ite_f hc h
          refine vv_iconst C (v := 1) dX6_isSea_20 (by decide) 21 rfl ?_
          refine vv_goto C 25 dX6_isSea_21 (by decide) ?_
          obtain ⟨hz, h⟩ := chkZ_s h
          obtain rfl := Option.some.inj h
          exact ret _ _ hz dX6_isSea_25
abbrev wX4_at (c : Nat → ClassId) (W : Nat → Nat) (W_number : Int32) (W_windDx : Int32) (W_windDy : Int32) (W_counting : Nat → Int32) : va_W := [(W 0, .inr (4, [.ref (W 1), .ref (W 2), .ref (W 3), .ref (W 4), .int W_number, .int W_windDx, .int W_windDy])), aI c (W 4) 600 W_counting]
abbrev rmX4_at : Room := { frames := 1, cells := 0, slots := 0, locals := 21 }
theorem yd_X4_at : yX4_at.cls = RX4 ∧ yX4_at.cls ≠ "java/lang/invoke/MethodHandle" ∧ yX4_at.cls ≠ "java/lang/invoke/VarHandle" ∧ (parseMethodDescriptor yX4_at.desc).map (fun d => d.parameters.length) = some 2 := by decide +kernel
theorem kwX4_at_2 : Cond.static yX6_isSea ∈ wsX4_at := List.mem_of_getElem? (i := 2) rfl
theorem kwX4_at_3 : Cond.initialized RX6 ∈ wsX4_at := List.mem_of_getElem? (i := 3) rfl
theorem kwX4_at_1 : Cond.fieldLink RX4 21 "BarrelRaft$Waters" "counting" "[I" ∈ wsX4_at := List.mem_of_getElem? (i := 1) rfl
set_option maxRecDepth 20000 in
theorem kinX4_at_X4 : ∀ w ∈ u_ws RX4 TX4 7, w ∈ wsX4_at := by decide +kernel
def jX4_at (W_counting : Nat → Int32) (a1 : Int32) (a2 : Int32) : Option (Int32) :=
  bnd (jX6_isSea a1 a2) (fun r1 => (if r1 = 0 then some (-1) else chk 600 (a1 + (30 * a2)) (some (rd W_counting (a1 + (30 * a2))))))
set_option maxHeartbeats 4000000 in
set_option maxRecDepth 100000 in
theorem mt_X4_at (l : Launch) (D : va_G) (c : Nat → ClassId) (W : Nat → Nat) (W_number : Int32) (W_windDx : Int32) (W_windDy : Int32) (W_counting : Nat → Int32) (a1 : Int32) (a2 : Int32) (q0 : Int32) (h : jX4_at W_counting a1 a2 = some q0) : DTi l yX4_at wsX4_at rmX4_at D c (wX4_at c W W_number W_windDx W_windDy W_counting) [.ref (W 0), .int a1, .int a2] q0 (wX4_at c W W_number W_windDx W_windDy W_counting) 0 0 := by
  refine DTi_of (cc := cX4_at) (nL := 3) RX4 rfl (by decide) rfl (Nat.le_of_ble_eq_true rfl) (fun g C ret => ?_)
  unfold jX4_at at h
  refine vv_lv [0, 1, 2] [(0, .ref (W 0)), (1, .int a1), (2, .int a2)] rfl ?_
  refine vv_iload_n C dX4_at_0 rfl 1 rfl 1 rfl ?_
  refine vv_iload_n C dX4_at_1 rfl 2 rfl 2 rfl ?_
  obtain ⟨r1, hr1, h⟩ := bnd_s h
  refine vv_callNi C (fun l => mt_X6_isSea l D c a1 a2 r1 hr1) gX4_at_X6_isSea_n30 rfl rfl rfl yd_X6_isSea ⟨Nat.le_of_ble_eq_true rfl, Nat.le_of_ble_eq_true rfl⟩ [] rfl (by decide) (fun _ hN => hN.1) kwX4_at_2 kwX4_at_3 (wX4_at c W W_number W_windDx W_windDy W_counting) [(false, 0), (false, 1)] rfl (by decide) rfl rfl [] rfl (Nat.le_of_ble_eq_true rfl) ⟨Nat.le_of_ble_eq_true rfl, Nat.le_of_ble_eq_true rfl⟩ dX4_at_2 5 0 0 rfl ⟨rfl, rfl⟩ ?_
  refine vv_if_eq C 22 8 dX4_at_5 (by decide) rfl (fun hc => ?_) (fun hc => ?_)
  · replace h := ite_t hc h
    refine vv_iconst C (v := (-1)) dX4_at_22 (by decide) 23 rfl ?_
    obtain rfl := Option.some.inj h
    exact ret _ _ dX4_at_23
  · replace h := ite_f hc h
    refine vv_aload_n C dX4_at_8 rfl 0 rfl 9 rfl ?_
    refine vv_get C (q0 := 0) (ci := 4) (k := 3) kinX4_at_X4 rfl rfl (by decide) kwX4_at_1 rfl rfl dX4_at_9 12 rfl ?_
    refine vv_iload_n C dX4_at_12 rfl 1 rfl 13 rfl ?_
    refine vv_bipush C (v := 30) dX4_at_13 (by decide) 15 rfl ?_
    refine vv_iload_n C dX4_at_15 rfl 2 rfl 16 rfl ?_
    refine vv_imul C dX4_at_16 17 rfl ?_
    refine vv_iadd C dX4_at_17 18 rfl ?_
    obtain ⟨hi, h⟩ := chk_s h
    refine vv_iald C (q0 := 1) rfl hi dX4_at_18 19 rfl ?_
    refine vv_goto C 23 dX4_at_19 (by decide) ?_
    obtain rfl := Option.some.inj h
    exact ret _ _ dX4_at_23
abbrev wX4_has (c : Nat → ClassId) (W : Nat → Nat) (W_number : Int32) (W_windDx : Int32) (W_windDy : Int32) : va_W := [(W 0, .inr (4, [.ref (W 1), .ref (W 2), .ref (W 3), .ref (W 4), .int W_number, .int W_windDx, .int W_windDy]))]
abbrev rmX4_has : Room := { frames := 0, cells := 0, slots := 0, locals := 0 }
theorem yd_X4_has : yX4_has.cls = RX4 ∧ yX4_has.cls ≠ "java/lang/invoke/MethodHandle" ∧ yX4_has.cls ≠ "java/lang/invoke/VarHandle" ∧ (parseMethodDescriptor yX4_has.desc).map (fun d => d.parameters.length) = some 1 := by decide +kernel
theorem kwX4_has_1 : Cond.fieldLink RX4 34 "BarrelRaft$Waters" "number" "I" ∈ wsX4_has := List.mem_of_getElem? (i := 1) rfl
set_option maxRecDepth 20000 in
theorem kinX4_has_X4 : ∀ w ∈ u_ws RX4 TX4 7, w ∈ wsX4_has := by decide +kernel
def jX4_has (W_number : Int32) (a1 : Int32) : Option (Int32) :=
  (if a1 < 0 then chkZ 0 (some 0) else (if W_number ≤ a1 then chkZ 0 (some 0) else chkZ 1 (some 1)))
set_option maxHeartbeats 4000000 in
set_option maxRecDepth 100000 in
theorem mt_X4_has (l : Launch) (D : va_G) (c : Nat → ClassId) (W : Nat → Nat) (W_number : Int32) (W_windDx : Int32) (W_windDy : Int32) (a1 : Int32) (q0 : Int32) (h : jX4_has W_number a1 = some q0) : DTi l yX4_has wsX4_has rmX4_has D c (wX4_has c W W_number W_windDx W_windDy) [.ref (W 0), .int a1] q0 (wX4_has c W W_number W_windDx W_windDy) 0 0 := by
  refine DTz_of (cc := cX4_has) (nL := 2) RX4 rfl (by decide) rfl (Nat.le_of_ble_eq_true rfl) (fun g C ret => ?_)
  unfold jX4_has at h
  refine vv_lv [0, 1] [(0, .ref (W 0)), (1, .int a1)] rfl ?_
  refine vv_iload_n C dX4_has_0 rfl 1 rfl 1 rfl ?_
  refine vv_if_lt C 16 4 dX4_has_1 (by decide) rfl (fun hc => ?_) (fun hc => ?_)
  · replace h := ite_t hc h
    refine vv_iconst C (v := 0) dX4_has_16 (by decide) 17 rfl ?_
    obtain ⟨hz, h⟩ := chkZ_s h
    obtain rfl := Option.some.inj h
    exact ret _ _ hz dX4_has_17
  · replace h := ite_f hc h
    refine vv_iload_n C dX4_has_4 rfl 1 rfl 5 rfl ?_
    refine vv_aload_n C dX4_has_5 rfl 0 rfl 6 rfl ?_
    refine vv_get C (q0 := 0) (ci := 4) (k := 4) kinX4_has_X4 rfl rfl (by decide) kwX4_has_1 rfl rfl dX4_has_6 9 rfl ?_
    refine vv_icmp_ge C 16 12 dX4_has_9 (by decide) rfl (fun hc => ?_) (fun hc => ?_)
    · replace h := ite_t hc h
      refine vv_iconst C (v := 0) dX4_has_16 (by decide) 17 rfl ?_
      obtain ⟨hz, h⟩ := chkZ_s h
      obtain rfl := Option.some.inj h
      exact ret _ _ hz dX4_has_17
    · replace h := ite_f hc h
      refine vv_iconst C (v := 1) dX4_has_12 (by decide) 13 rfl ?_
      refine vv_goto C 17 dX4_has_13 (by decide) ?_
      obtain ⟨hz, h⟩ := chkZ_s h
      obtain rfl := Option.some.inj h
      exact ret _ _ hz dX4_has_17
abbrev wX4_dxOf (c : Nat → ClassId) (W : Nat → Nat) (W_number : Int32) (W_windDx : Int32) (W_windDy : Int32) (W_dx : Nat → Int32) : va_W := [(W 0, .inr (4, [.ref (W 1), .ref (W 2), .ref (W 3), .ref (W 4), .int W_number, .int W_windDx, .int W_windDy])), aI c (W 1) 8 W_dx]
abbrev rmX4_dxOf : Room := { frames := 1, cells := 0, slots := 0, locals := 21 }
theorem yd_X4_dxOf : yX4_dxOf.cls = RX4 ∧ yX4_dxOf.cls ≠ "java/lang/invoke/MethodHandle" ∧ yX4_dxOf.cls ≠ "java/lang/invoke/VarHandle" ∧ (parseMethodDescriptor yX4_dxOf.desc).map (fun d => d.parameters.length) = some 1 := by decide +kernel
theorem kwX4_dxOf_1 : Cond.fieldLink RX4 9 "BarrelRaft$Waters" "dx" "[I" ∈ wsX4_dxOf := List.mem_of_getElem? (i := 1) rfl
set_option maxRecDepth 20000 in
theorem kinX4_dxOf_X4 : ∀ w ∈ u_ws RX4 TX4 7, w ∈ wsX4_dxOf := by decide +kernel
def jX4_dxOf (W_number : Int32) (W_dx : Nat → Int32) (a1 : Int32) : Option (Int32) :=
  bnd (jX4_has W_number a1) (fun r1 => (if r1 = 0 then some 0 else chk 8 a1 (some (rd W_dx a1))))
set_option maxHeartbeats 4000000 in
set_option maxRecDepth 100000 in
theorem mt_X4_dxOf (l : Launch) (D : va_G) (c : Nat → ClassId) (W : Nat → Nat) (W_number : Int32) (W_windDx : Int32) (W_windDy : Int32) (W_dx : Nat → Int32) (a1 : Int32) (q0 : Int32) (h : jX4_dxOf W_number W_dx a1 = some q0) : DTi l yX4_dxOf wsX4_dxOf rmX4_dxOf D c (wX4_dxOf c W W_number W_windDx W_windDy W_dx) [.ref (W 0), .int a1] q0 (wX4_dxOf c W W_number W_windDx W_windDy W_dx) 0 0 := by
  refine DTi_of (cc := cX4_dxOf) (nL := 2) RX4 rfl (by decide) rfl (Nat.le_of_ble_eq_true rfl) (fun g C ret => ?_)
  unfold jX4_dxOf at h
  refine vv_lv [0, 1] [(0, .ref (W 0)), (1, .int a1)] rfl ?_
  refine vv_aload_n C dX4_dxOf_0 rfl 0 rfl 1 rfl ?_
  refine vv_iload_n C dX4_dxOf_1 rfl 1 rfl 2 rfl ?_
  obtain ⟨r1, hr1, h⟩ := bnd_s h
  refine vv_callVi C (fun l => mt_X4_has l D c W W_number W_windDx W_windDy a1 r1 hr1) gX4_dxOf_X4_has rfl rfl rfl yd_X4_has ⟨Nat.le_of_ble_eq_true rfl, Nat.le_of_ble_eq_true rfl⟩ [0] rfl (by decide) 0 rfl rfl (wX4_dxOf c W W_number W_windDx W_windDy W_dx) [(true, 0), (false, 1)] rfl (by decide) rfl rfl [] rfl (Nat.le_of_ble_eq_true rfl) ⟨Nat.le_of_ble_eq_true rfl, Nat.le_of_ble_eq_true rfl⟩ dX4_dxOf_2 5 0 0 rfl ⟨rfl, rfl⟩ ?_
  refine vv_if_eq C 17 8 dX4_dxOf_5 (by decide) rfl (fun hc => ?_) (fun hc => ?_)
  · replace h := ite_t hc h
    refine vv_iconst C (v := 0) dX4_dxOf_17 (by decide) 18 rfl ?_
    obtain rfl := Option.some.inj h
    exact ret _ _ dX4_dxOf_18
  · replace h := ite_f hc h
    refine vv_aload_n C dX4_dxOf_8 rfl 0 rfl 9 rfl ?_
    refine vv_get C (q0 := 0) (ci := 4) (k := 0) kinX4_dxOf_X4 rfl rfl (by decide) kwX4_dxOf_1 rfl rfl dX4_dxOf_9 12 rfl ?_
    refine vv_iload_n C dX4_dxOf_12 rfl 1 rfl 13 rfl ?_
    obtain ⟨hi, h⟩ := chk_s h
    refine vv_iald C (q0 := 1) rfl hi dX4_dxOf_13 14 rfl ?_
    refine vv_goto C 18 dX4_dxOf_14 (by decide) ?_
    obtain rfl := Option.some.inj h
    exact ret _ _ dX4_dxOf_18
abbrev wX4_dyOf (c : Nat → ClassId) (W : Nat → Nat) (W_number : Int32) (W_windDx : Int32) (W_windDy : Int32) (W_dy : Nat → Int32) : va_W := [(W 0, .inr (4, [.ref (W 1), .ref (W 2), .ref (W 3), .ref (W 4), .int W_number, .int W_windDx, .int W_windDy])), aI c (W 2) 8 W_dy]
abbrev rmX4_dyOf : Room := { frames := 1, cells := 0, slots := 0, locals := 21 }
theorem yd_X4_dyOf : yX4_dyOf.cls = RX4 ∧ yX4_dyOf.cls ≠ "java/lang/invoke/MethodHandle" ∧ yX4_dyOf.cls ≠ "java/lang/invoke/VarHandle" ∧ (parseMethodDescriptor yX4_dyOf.desc).map (fun d => d.parameters.length) = some 1 := by decide +kernel
theorem kwX4_dyOf_1 : Cond.fieldLink RX4 15 "BarrelRaft$Waters" "dy" "[I" ∈ wsX4_dyOf := List.mem_of_getElem? (i := 1) rfl
set_option maxRecDepth 20000 in
theorem kinX4_dyOf_X4 : ∀ w ∈ u_ws RX4 TX4 7, w ∈ wsX4_dyOf := by decide +kernel
def jX4_dyOf (W_number : Int32) (W_dy : Nat → Int32) (a1 : Int32) : Option (Int32) :=
  bnd (jX4_has W_number a1) (fun r1 => (if r1 = 0 then some 0 else chk 8 a1 (some (rd W_dy a1))))
set_option maxHeartbeats 4000000 in
set_option maxRecDepth 100000 in
theorem mt_X4_dyOf (l : Launch) (D : va_G) (c : Nat → ClassId) (W : Nat → Nat) (W_number : Int32) (W_windDx : Int32) (W_windDy : Int32) (W_dy : Nat → Int32) (a1 : Int32) (q0 : Int32) (h : jX4_dyOf W_number W_dy a1 = some q0) : DTi l yX4_dyOf wsX4_dyOf rmX4_dyOf D c (wX4_dyOf c W W_number W_windDx W_windDy W_dy) [.ref (W 0), .int a1] q0 (wX4_dyOf c W W_number W_windDx W_windDy W_dy) 0 0 := by
  refine DTi_of (cc := cX4_dyOf) (nL := 2) RX4 rfl (by decide) rfl (Nat.le_of_ble_eq_true rfl) (fun g C ret => ?_)
  unfold jX4_dyOf at h
  refine vv_lv [0, 1] [(0, .ref (W 0)), (1, .int a1)] rfl ?_
  refine vv_aload_n C dX4_dyOf_0 rfl 0 rfl 1 rfl ?_
  refine vv_iload_n C dX4_dyOf_1 rfl 1 rfl 2 rfl ?_
  obtain ⟨r1, hr1, h⟩ := bnd_s h
  refine vv_callVi C (fun l => mt_X4_has l D c W W_number W_windDx W_windDy a1 r1 hr1) gX4_dyOf_X4_has rfl rfl rfl yd_X4_has ⟨Nat.le_of_ble_eq_true rfl, Nat.le_of_ble_eq_true rfl⟩ [0] rfl (by decide) 0 rfl rfl (wX4_dyOf c W W_number W_windDx W_windDy W_dy) [(true, 0), (false, 1)] rfl (by decide) rfl rfl [] rfl (Nat.le_of_ble_eq_true rfl) ⟨Nat.le_of_ble_eq_true rfl, Nat.le_of_ble_eq_true rfl⟩ dX4_dyOf_2 5 0 0 rfl ⟨rfl, rfl⟩ ?_
  refine vv_if_eq C 17 8 dX4_dyOf_5 (by decide) rfl (fun hc => ?_) (fun hc => ?_)
  · replace h := ite_t hc h
    refine vv_iconst C (v := 0) dX4_dyOf_17 (by decide) 18 rfl ?_
    obtain rfl := Option.some.inj h
    exact ret _ _ dX4_dyOf_18
  · replace h := ite_f hc h
    refine vv_aload_n C dX4_dyOf_8 rfl 0 rfl 9 rfl ?_
    refine vv_get C (q0 := 0) (ci := 4) (k := 1) kinX4_dyOf_X4 rfl rfl (by decide) kwX4_dyOf_1 rfl rfl dX4_dyOf_9 12 rfl ?_
    refine vv_iload_n C dX4_dyOf_12 rfl 1 rfl 13 rfl ?_
    obtain ⟨hi, h⟩ := chk_s h
    refine vv_iald C (q0 := 1) rfl hi dX4_dyOf_13 14 rfl ?_
    refine vv_goto C 18 dX4_dyOf_14 (by decide) ?_
    obtain rfl := Option.some.inj h
    exact ret _ _ dX4_dyOf_18
abbrev wX4_waveOf (c : Nat → ClassId) (W : Nat → Nat) (W_number : Int32) (W_windDx : Int32) (W_windDy : Int32) (W_wave : Nat → Int32) : va_W := [(W 0, .inr (4, [.ref (W 1), .ref (W 2), .ref (W 3), .ref (W 4), .int W_number, .int W_windDx, .int W_windDy])), aI c (W 3) 8 W_wave]
abbrev rmX4_waveOf : Room := { frames := 1, cells := 0, slots := 0, locals := 21 }
theorem yd_X4_waveOf : yX4_waveOf.cls = RX4 ∧ yX4_waveOf.cls ≠ "java/lang/invoke/MethodHandle" ∧ yX4_waveOf.cls ≠ "java/lang/invoke/VarHandle" ∧ (parseMethodDescriptor yX4_waveOf.desc).map (fun d => d.parameters.length) = some 1 := by decide +kernel
theorem kwX4_waveOf_1 : Cond.fieldLink RX4 18 "BarrelRaft$Waters" "wave" "[I" ∈ wsX4_waveOf := List.mem_of_getElem? (i := 1) rfl
set_option maxRecDepth 20000 in
theorem kinX4_waveOf_X4 : ∀ w ∈ u_ws RX4 TX4 7, w ∈ wsX4_waveOf := by decide +kernel
def jX4_waveOf (W_number : Int32) (W_wave : Nat → Int32) (a1 : Int32) : Option (Int32) :=
  bnd (jX4_has W_number a1) (fun r1 => (if r1 = 0 then some 0 else chk 8 a1 (some (rd W_wave a1))))
set_option maxHeartbeats 4000000 in
set_option maxRecDepth 100000 in
theorem mt_X4_waveOf (l : Launch) (D : va_G) (c : Nat → ClassId) (W : Nat → Nat) (W_number : Int32) (W_windDx : Int32) (W_windDy : Int32) (W_wave : Nat → Int32) (a1 : Int32) (q0 : Int32) (h : jX4_waveOf W_number W_wave a1 = some q0) : DTi l yX4_waveOf wsX4_waveOf rmX4_waveOf D c (wX4_waveOf c W W_number W_windDx W_windDy W_wave) [.ref (W 0), .int a1] q0 (wX4_waveOf c W W_number W_windDx W_windDy W_wave) 0 0 := by
  refine DTi_of (cc := cX4_waveOf) (nL := 2) RX4 rfl (by decide) rfl (Nat.le_of_ble_eq_true rfl) (fun g C ret => ?_)
  unfold jX4_waveOf at h
  refine vv_lv [0, 1] [(0, .ref (W 0)), (1, .int a1)] rfl ?_
  refine vv_aload_n C dX4_waveOf_0 rfl 0 rfl 1 rfl ?_
  refine vv_iload_n C dX4_waveOf_1 rfl 1 rfl 2 rfl ?_
  obtain ⟨r1, hr1, h⟩ := bnd_s h
  refine vv_callVi C (fun l => mt_X4_has l D c W W_number W_windDx W_windDy a1 r1 hr1) gX4_waveOf_X4_has rfl rfl rfl yd_X4_has ⟨Nat.le_of_ble_eq_true rfl, Nat.le_of_ble_eq_true rfl⟩ [0] rfl (by decide) 0 rfl rfl (wX4_waveOf c W W_number W_windDx W_windDy W_wave) [(true, 0), (false, 1)] rfl (by decide) rfl rfl [] rfl (Nat.le_of_ble_eq_true rfl) ⟨Nat.le_of_ble_eq_true rfl, Nat.le_of_ble_eq_true rfl⟩ dX4_waveOf_2 5 0 0 rfl ⟨rfl, rfl⟩ ?_
  refine vv_if_eq C 17 8 dX4_waveOf_5 (by decide) rfl (fun hc => ?_) (fun hc => ?_)
  · replace h := ite_t hc h
    refine vv_iconst C (v := 0) dX4_waveOf_17 (by decide) 18 rfl ?_
    obtain rfl := Option.some.inj h
    exact ret _ _ dX4_waveOf_18
  · replace h := ite_f hc h
    refine vv_aload_n C dX4_waveOf_8 rfl 0 rfl 9 rfl ?_
    refine vv_get C (q0 := 0) (ci := 4) (k := 2) kinX4_waveOf_X4 rfl rfl (by decide) kwX4_waveOf_1 rfl rfl dX4_waveOf_9 12 rfl ?_
    refine vv_iload_n C dX4_waveOf_12 rfl 1 rfl 13 rfl ?_
    obtain ⟨hi, h⟩ := chk_s h
    refine vv_iald C (q0 := 1) rfl hi dX4_waveOf_13 14 rfl ?_
    refine vv_goto C 18 dX4_waveOf_14 (by decide) ?_
    obtain rfl := Option.some.inj h
    exact ret _ _ dX4_waveOf_18
abbrev wX4_append (c : Nat → ClassId) (W : Nat → Nat) (W_number : Int32) (W_windDx : Int32) (W_windDy : Int32) (W_dx : Nat → Int32) (W_dy : Nat → Int32) (W_wave : Nat → Int32) : va_W := [(W 0, .inr (4, [.ref (W 1), .ref (W 2), .ref (W 3), .ref (W 4), .int W_number, .int W_windDx, .int W_windDy])), aI c (W 1) 8 W_dx, aI c (W 2) 8 W_dy, aI c (W 3) 8 W_wave]
abbrev rmX4_append : Room := { frames := 0, cells := 0, slots := 0, locals := 0 }
theorem yd_X4_append : yX4_append.cls = RX4 ∧ yX4_append.cls ≠ "java/lang/invoke/MethodHandle" ∧ yX4_append.cls ≠ "java/lang/invoke/VarHandle" ∧ (parseMethodDescriptor yX4_append.desc).map (fun d => d.parameters.length) = some 3 := by decide +kernel
theorem kwX4_append_1 : Cond.fieldLink RX4 34 "BarrelRaft$Waters" "number" "I" ∈ wsX4_append := List.mem_of_getElem? (i := 1) rfl
set_option maxRecDepth 20000 in
theorem kinX4_append_X4 : ∀ w ∈ u_ws RX4 TX4 7, w ∈ wsX4_append := by decide +kernel
theorem kwX4_append_2 : Cond.fieldLink RX4 9 "BarrelRaft$Waters" "dx" "[I" ∈ wsX4_append := List.mem_of_getElem? (i := 2) rfl
theorem kwX4_append_3 : Cond.fieldLink RX4 15 "BarrelRaft$Waters" "dy" "[I" ∈ wsX4_append := List.mem_of_getElem? (i := 3) rfl
theorem kwX4_append_4 : Cond.fieldLink RX4 18 "BarrelRaft$Waters" "wave" "[I" ∈ wsX4_append := List.mem_of_getElem? (i := 4) rfl
def jX4_append (W_number : Int32) (W_dx : Nat → Int32) (W_dy : Nat → Int32) (W_wave : Nat → Int32) (a1 : Int32) (a2 : Int32) (a3 : Int32) : Option (Int32 × Int32 × (Nat → Int32) × (Nat → Int32) × (Nat → Int32)) :=
  (if 8 ≤ W_number then some (W_number, W_number, W_dx, W_dy, W_wave) else chk 8 W_number (chk 8 W_number (chk 8 W_number (some (W_number, W_number + 1, wr W_dx W_number a1, wr W_dy W_number a2, wr W_wave W_number a3)))))
set_option maxHeartbeats 4000000 in
set_option maxRecDepth 100000 in
theorem mt_X4_append (l : Launch) (D : va_G) (c : Nat → ClassId) (W : Nat → Nat) (W_number : Int32) (W_windDx : Int32) (W_windDy : Int32) (W_dx : Nat → Int32) (W_dy : Nat → Int32) (W_wave : Nat → Int32) (a1 : Int32) (a2 : Int32) (a3 : Int32) (q0 : Int32 × Int32 × (Nat → Int32) × (Nat → Int32) × (Nat → Int32)) (h : jX4_append W_number W_dx W_dy W_wave a1 a2 a3 = some q0) : DTi l yX4_append wsX4_append rmX4_append D c (wX4_append c W W_number W_windDx W_windDy W_dx W_dy W_wave) [.ref (W 0), .int a1, .int a2, .int a3] q0.1 (wX4_append c W q0.2.1 W_windDx W_windDy q0.2.2.1 q0.2.2.2.1 q0.2.2.2.2) 0 0 := by
  refine DTi_of (cc := cX4_append) (nL := 5) RX4 rfl (by decide) rfl (Nat.le_of_ble_eq_true rfl) (fun g C ret => ?_)
  unfold jX4_append at h
  refine vv_lv [0, 1, 2, 3] [(0, .ref (W 0)), (1, .int a1), (2, .int a2), (3, .int a3)] rfl ?_
  refine vv_aload_n C dX4_append_0 rfl 0 rfl 1 rfl ?_
  refine vv_get C (q0 := 0) (ci := 4) (k := 4) kinX4_append_X4 rfl rfl (by decide) kwX4_append_1 rfl rfl dX4_append_1 4 rfl ?_
  refine vv_istore C [(4, .int W_number), (0, .ref (W 0)), (1, .int a1), (2, .int a2), (3, .int a3)] dX4_append_4 (by decide) rfl 6 rfl ?_
  refine vv_iload C dX4_append_6 0 rfl 8 rfl ?_
  refine vv_bipush C (v := 8) dX4_append_8 (by decide) 10 rfl ?_
  refine vv_icmp_ge C 47 13 dX4_append_10 (by decide) rfl (fun hc => ?_) (fun hc => ?_)
  · replace h := ite_t hc h
    refine vv_iload C dX4_append_47 0 rfl 49 rfl ?_
    obtain rfl := Option.some.inj h
    exact ret _ _ dX4_append_49
  · replace h := ite_f hc h
    refine vv_aload_n C dX4_append_13 rfl 1 rfl 14 rfl ?_
    refine vv_get C (q0 := 0) (ci := 4) (k := 0) kinX4_append_X4 rfl rfl (by decide) kwX4_append_2 rfl rfl dX4_append_14 17 rfl ?_
    refine vv_iload C dX4_append_17 0 rfl 19 rfl ?_
    refine vv_iload_n C dX4_append_19 rfl 2 rfl 20 rfl ?_
    obtain ⟨hi, h⟩ := chk_s h
    refine vv_iast C (q0 := 1) (wX4_append c W W_number W_windDx W_windDy (wr W_dx W_number a1) W_dy W_wave) rfl hi rfl dX4_append_20 21 rfl ?_
    refine vv_aload_n C dX4_append_21 rfl 1 rfl 22 rfl ?_
    refine vv_get C (q0 := 0) (ci := 4) (k := 1) kinX4_append_X4 rfl rfl (by decide) kwX4_append_3 rfl rfl dX4_append_22 25 rfl ?_
    refine vv_iload C dX4_append_25 0 rfl 27 rfl ?_
    refine vv_iload_n C dX4_append_27 rfl 3 rfl 28 rfl ?_
    obtain ⟨hi, h⟩ := chk_s h
    refine vv_iast C (q0 := 2) (wX4_append c W W_number W_windDx W_windDy (wr W_dx W_number a1) (wr W_dy W_number a2) W_wave) rfl hi rfl dX4_append_28 29 rfl ?_
    refine vv_aload_n C dX4_append_29 rfl 1 rfl 30 rfl ?_
    refine vv_get C (q0 := 0) (ci := 4) (k := 2) kinX4_append_X4 rfl rfl (by decide) kwX4_append_4 rfl rfl dX4_append_30 33 rfl ?_
    refine vv_iload C dX4_append_33 0 rfl 35 rfl ?_
    refine vv_iload_n C dX4_append_35 rfl 4 rfl 36 rfl ?_
    obtain ⟨hi, h⟩ := chk_s h
    refine vv_iast C (q0 := 3) (wX4_append c W W_number W_windDx W_windDy (wr W_dx W_number a1) (wr W_dy W_number a2) (wr W_wave W_number a3)) rfl hi rfl dX4_append_36 37 rfl ?_
    refine vv_aload_n C dX4_append_37 rfl 1 rfl 38 rfl ?_
    refine vv_dup C dX4_append_38 rfl 39 rfl ?_
    refine vv_get C (q0 := 0) (ci := 4) (k := 4) kinX4_append_X4 rfl rfl (by decide) kwX4_append_1 rfl rfl dX4_append_39 42 rfl ?_
    refine vv_iconst C (v := 1) dX4_append_42 (by decide) 43 rfl ?_
    refine vv_iadd C dX4_append_43 44 rfl ?_
    refine vv_put C (q0 := 0) (ci := 4) (k := 4) (ty := .int) (wX4_append c W (W_number + 1) W_windDx W_windDy (wr W_dx W_number a1) (wr W_dy W_number a2) (wr W_wave W_number a3)) tyX4 tyX4_ok nmX4 kinX4_append_X4 rfl rfl (by decide) kwX4_append_1 rfl rfl rfl rfl rfl (Nat.le_of_ble_eq_true rfl) rfl dX4_append_44 47 rfl ?_
    refine vv_iload C dX4_append_47 0 rfl 49 rfl ?_
    obtain rfl := Option.some.inj h
    exact ret _ _ dX4_append_49
abbrev wX4_cover (c : Nat → ClassId) (W : Nat → Nat) (W_number : Int32) (W_windDx : Int32) (W_windDy : Int32) (W_counting : Nat → Int32) : va_W := [(W 0, .inr (4, [.ref (W 1), .ref (W 2), .ref (W 3), .ref (W 4), .int W_number, .int W_windDx, .int W_windDy])), aI c (W 4) 600 W_counting]
abbrev rmX4_cover : Room := { frames := 1, cells := 0, slots := 0, locals := 21 }
theorem yd_X4_cover : yX4_cover.cls = RX4 ∧ yX4_cover.cls ≠ "java/lang/invoke/MethodHandle" ∧ yX4_cover.cls ≠ "java/lang/invoke/VarHandle" ∧ (parseMethodDescriptor yX4_cover.desc).map (fun d => d.parameters.length) = some 4 := by decide +kernel
theorem kwX4_cover_3 : Cond.static yX6_isSea ∈ wsX4_cover := List.mem_of_getElem? (i := 3) rfl
theorem kwX4_cover_4 : Cond.initialized RX6 ∈ wsX4_cover := List.mem_of_getElem? (i := 4) rfl
theorem kwX4_cover_1 : Cond.fieldLink RX4 21 "BarrelRaft$Waters" "counting" "[I" ∈ wsX4_cover := List.mem_of_getElem? (i := 1) rfl
set_option maxRecDepth 20000 in
theorem kinX4_cover_X4 : ∀ w ∈ u_ws RX4 TX4 7, w ∈ wsX4_cover := by decide +kernel
theorem kwX4_cover_2 : Cond.fieldLink RX4 34 "BarrelRaft$Waters" "number" "I" ∈ wsX4_cover := List.mem_of_getElem? (i := 2) rfl
def jX4_cover_L15 (W_number : Int32) (u1 : Int32) (u3 : Int32) (u5 : Int32) (n : Nat) (W_counting_15 : Nat → Int32) (v6_15 : Int32) : Option ((Nat → Int32)) :=
  match n with
  | 0 => none
  | n + 1 => (if u1 + u3 ≤ v6_15 then some W_counting_15 else bnd (jX6_isSea v6_15 u5) (fun r1 => (if r1 = 0 then jX4_cover_L15 W_number u1 u3 u5 n W_counting_15 (v6_15 + 1) else chk 600 (v6_15 + (30 * u5)) (jX4_cover_L15 W_number u1 u3 u5 n (wr W_counting_15 (v6_15 + (30 * u5)) W_number) (v6_15 + 1)))))
def jX4_cover_L3 (W_number : Int32) (u1 : Int32) (u2 : Int32) (u3 : Int32) (u4 : Int32) (n : Nat) (W_counting_3 : Nat → Int32) (v5_3 : Int32) : Option ((Nat → Int32)) :=
  match n with
  | 0 => none
  | n + 1 => (if u2 + u4 ≤ v5_3 then some W_counting_3 else bnd (jX4_cover_L15 W_number u1 u3 v5_3 FU W_counting_3 u1) (fun r2 => jX4_cover_L3 W_number u1 u2 u3 u4 n r2 (v5_3 + 1)))
def jX4_cover (W_number : Int32) (W_counting : Nat → Int32) (a1 : Int32) (a2 : Int32) (a3 : Int32) (a4 : Int32) : Option ((Nat → Int32)) :=
  bnd (jX4_cover_L3 W_number a1 a2 a3 a4 FU W_counting a2) (fun r3 => some r3)
set_option maxHeartbeats 4000000 in
set_option maxRecDepth 100000 in
theorem mt_X4_cover (l : Launch) (D : va_G) (c : Nat → ClassId) (W : Nat → Nat) (W_number : Int32) (W_windDx : Int32) (W_windDy : Int32) (W_counting : Nat → Int32) (a1 : Int32) (a2 : Int32) (a3 : Int32) (a4 : Int32) (q0 : (Nat → Int32)) (h : jX4_cover W_number W_counting a1 a2 a3 a4 = some q0) : DTv l yX4_cover wsX4_cover rmX4_cover D c (wX4_cover c W W_number W_windDx W_windDy W_counting) [.ref (W 0), .int a1, .int a2, .int a3, .int a4] (wX4_cover c W W_number W_windDx W_windDy q0) 0 0 := by
  refine DTv_of (cc := cX4_cover) (nL := 7) RX4 rfl (by decide) rfl (Nat.le_of_ble_eq_true rfl) (fun g C ret => ?_)
  unfold jX4_cover at h
  refine vv_lv [0, 1, 2, 3, 4] [(0, .ref (W 0)), (1, .int a1), (2, .int a2), (3, .int a3), (4, .int a4)] rfl ?_
  refine vv_iload_n C dX4_cover_0 rfl 2 rfl 1 rfl ?_
  refine vv_istore C [(5, .int a2), (0, .ref (W 0)), (1, .int a1), (2, .int a2), (3, .int a3), (4, .int a4)] dX4_cover_1 (by decide) rfl 3 rfl ?_
  refine vv_lv [1, 2, 3, 4, 5, 0] [(0, .ref (W 0)), (1, .int a1), (2, .int a2), (3, .int a3), (4, .int a4), (5, .int a2)] rfl ?_
  have L3 : ∀ (n : Nat) (W_counting_3 : Nat → Int32) (v5_3 : Int32) (q3 : (Nat → Int32)), jX4_cover_L3 W_number a1 a2 a3 a4 n W_counting_3 v5_3 = some q3 → (VV g D 7 0 0 (wX4_cover c W W_number W_windDx W_windDy q3) [] 62 []) → VV g D 7 0 0 (wX4_cover c W W_number W_windDx W_windDy W_counting_3) [(0, .ref (W 0)), (1, .int a1), (2, .int a2), (3, .int a3), (4, .int a4), (5, .int v5_3)] 3 [] := by
    intro n
    induction n with
    | zero =>
      intro W_counting_3 v5_3 q3 h _
      rw [jX4_cover_L3] at h
      cases h
    | succ n ih3 =>
      intro W_counting_3 v5_3 q3 h kk3
      rw [jX4_cover_L3] at h
      refine vv_iload C dX4_cover_3 5 rfl 5 rfl ?_
      refine vv_iload_n C dX4_cover_5 rfl 2 rfl 6 rfl ?_
      refine vv_iload C dX4_cover_6 4 rfl 8 rfl ?_
      refine vv_iadd C dX4_cover_8 9 rfl ?_
      refine vv_icmp_ge C 62 12 dX4_cover_9 (by decide) rfl (fun hc => ?_) (fun hc => ?_)
      · replace h := ite_t hc h
        refine vv_lv [] [] rfl ?_
        obtain rfl := Option.some.inj h
        exact kk3
      · replace h := ite_f hc h
        refine vv_iload_n C dX4_cover_12 rfl 1 rfl 13 rfl ?_
        refine vv_istore C [(6, .int a1), (0, .ref (W 0)), (1, .int a1), (2, .int a2), (3, .int a3), (4, .int a4), (5, .int v5_3)] dX4_cover_13 (by decide) rfl 15 rfl ?_
        refine vv_lv [1, 2, 3, 4, 5, 6, 0] [(0, .ref (W 0)), (1, .int a1), (2, .int a2), (3, .int a3), (4, .int a4), (5, .int v5_3), (6, .int a1)] rfl ?_
        have L15 : ∀ (n : Nat) (W_counting_15 : Nat → Int32) (v6_15 : Int32) (q15 : (Nat → Int32)), jX4_cover_L15 W_number a1 a3 v5_3 n W_counting_15 v6_15 = some q15 → (VV g D 7 0 0 (wX4_cover c W W_number W_windDx W_windDy q15) [(0, .ref (W 0)), (1, .int a1), (2, .int a2), (3, .int a3), (4, .int a4), (5, .int v5_3)] 56 []) → VV g D 7 0 0 (wX4_cover c W W_number W_windDx W_windDy W_counting_15) [(0, .ref (W 0)), (1, .int a1), (2, .int a2), (3, .int a3), (4, .int a4), (5, .int v5_3), (6, .int v6_15)] 15 [] := by
          intro n
          induction n with
          | zero =>
            intro W_counting_15 v6_15 q15 h _
            rw [jX4_cover_L15] at h
            cases h
          | succ n ih15 =>
            intro W_counting_15 v6_15 q15 h kk15
            rw [jX4_cover_L15] at h
            refine vv_iload C dX4_cover_15 6 rfl 17 rfl ?_
            refine vv_iload_n C dX4_cover_17 rfl 1 rfl 18 rfl ?_
            refine vv_iload_n C dX4_cover_18 rfl 3 rfl 19 rfl ?_
            refine vv_iadd C dX4_cover_19 20 rfl ?_
            refine vv_icmp_ge C 56 23 dX4_cover_20 (by decide) rfl (fun hc => ?_) (fun hc => ?_)
            · replace h := ite_t hc h
              refine vv_lv [0, 1, 2, 3, 4, 5] [(0, .ref (W 0)), (1, .int a1), (2, .int a2), (3, .int a3), (4, .int a4), (5, .int v5_3)] rfl ?_
              obtain rfl := Option.some.inj h
              exact kk15
            · replace h := ite_f hc h
              refine vv_iload C dX4_cover_23 6 rfl 25 rfl ?_
              refine vv_iload C dX4_cover_25 5 rfl 27 rfl ?_
              obtain ⟨r1, hr1, h⟩ := bnd_s h
              refine vv_callNi C (fun l => mt_X6_isSea l D c v6_15 v5_3 r1 hr1) gX4_cover_X6_isSea_n30 rfl rfl rfl yd_X6_isSea ⟨Nat.le_of_ble_eq_true rfl, Nat.le_of_ble_eq_true rfl⟩ [] rfl (by decide) (fun _ hN => hN.1) kwX4_cover_3 kwX4_cover_4 (wX4_cover c W W_number W_windDx W_windDy W_counting_15) [(false, 0), (false, 1)] rfl (by decide) rfl rfl [] rfl (Nat.le_of_ble_eq_true rfl) ⟨Nat.le_of_ble_eq_true rfl, Nat.le_of_ble_eq_true rfl⟩ dX4_cover_27 30 0 0 rfl ⟨rfl, rfl⟩ ?_
              refine vv_if_eq C 50 33 dX4_cover_30 (by decide) rfl (fun hc => ?_) (fun hc => ?_)
              · replace h := ite_t hc h
                refine vv_iinc C (k := 6) [(6, .int (v6_15 + 1)), (0, .ref (W 0)), (1, .int a1), (2, .int a2), (3, .int a3), (4, .int a4), (5, .int v5_3)] dX4_cover_50 rfl rfl (by decide) rfl 53 rfl ?_
                refine vv_goto C 15 dX4_cover_53 (by decide) ?_
                refine vv_lv [1, 2, 3, 4, 5, 6, 0] [(0, .ref (W 0)), (1, .int a1), (2, .int a2), (3, .int a3), (4, .int a4), (5, .int v5_3), (6, .int (v6_15 + 1))] rfl ?_
                exact ih15 W_counting_15 (v6_15 + 1) _ h kk15
              · replace h := ite_f hc h
                refine vv_aload_n C dX4_cover_33 rfl 0 rfl 34 rfl ?_
                refine vv_get C (q0 := 0) (ci := 4) (k := 3) kinX4_cover_X4 rfl rfl (by decide) kwX4_cover_1 rfl rfl dX4_cover_34 37 rfl ?_
                refine vv_iload C dX4_cover_37 6 rfl 39 rfl ?_
                refine vv_bipush C (v := 30) dX4_cover_39 (by decide) 41 rfl ?_
                refine vv_iload C dX4_cover_41 5 rfl 43 rfl ?_
                refine vv_imul C dX4_cover_43 44 rfl ?_
                refine vv_iadd C dX4_cover_44 45 rfl ?_
                refine vv_aload_n C dX4_cover_45 rfl 0 rfl 46 rfl ?_
                refine vv_get C (q0 := 0) (ci := 4) (k := 4) kinX4_cover_X4 rfl rfl (by decide) kwX4_cover_2 rfl rfl dX4_cover_46 49 rfl ?_
                obtain ⟨hi, h⟩ := chk_s h
                refine vv_iast C (q0 := 1) (wX4_cover c W W_number W_windDx W_windDy (wr W_counting_15 (v6_15 + (30 * v5_3)) W_number)) rfl hi rfl dX4_cover_49 50 rfl ?_
                refine vv_iinc C (k := 6) [(6, .int (v6_15 + 1)), (0, .ref (W 0)), (1, .int a1), (2, .int a2), (3, .int a3), (4, .int a4), (5, .int v5_3)] dX4_cover_50 rfl rfl (by decide) rfl 53 rfl ?_
                refine vv_goto C 15 dX4_cover_53 (by decide) ?_
                refine vv_lv [1, 2, 3, 4, 5, 6, 0] [(0, .ref (W 0)), (1, .int a1), (2, .int a2), (3, .int a3), (4, .int a4), (5, .int v5_3), (6, .int (v6_15 + 1))] rfl ?_
                exact ih15 (wr W_counting_15 (v6_15 + (30 * v5_3)) W_number) (v6_15 + 1) _ h kk15
        obtain ⟨r2, hr2, h⟩ := bnd_s h
        refine L15 FU W_counting_3 a1 r2 hr2 ?_
        refine vv_iinc C (k := 5) [(5, .int (v5_3 + 1)), (0, .ref (W 0)), (1, .int a1), (2, .int a2), (3, .int a3), (4, .int a4)] dX4_cover_56 rfl rfl (by decide) rfl 59 rfl ?_
        refine vv_goto C 3 dX4_cover_59 (by decide) ?_
        refine vv_lv [1, 2, 3, 4, 5, 0] [(0, .ref (W 0)), (1, .int a1), (2, .int a2), (3, .int a3), (4, .int a4), (5, .int (v5_3 + 1))] rfl ?_
        exact ih3 r2 (v5_3 + 1) _ h kk3
  obtain ⟨r3, hr3, h⟩ := bnd_s h
  refine L3 FU W_counting a2 r3 hr3 ?_
  obtain rfl := Option.some.inj h
  exact ret _ _ dX4_cover_62
