abbrev wX5_direction (c : Nat → ClassId) (Y : Nat → Nat) (Q : Nat → Nat) (Q_number : Int32) (Q_first : Nat → Int32) : va_W := [(Y 0, .inr (5, [.ref (Y 1), .ref (Y 2), .ref (Y 3), .ref (Y 4)])), (Q 0, .inr (2, [.ref (Q 1), .ref (Q 2), .ref (Q 3), .ref (Q 4), .int Q_number])), aI c (Q 1) 48 Q_first]
abbrev rmX5_direction : Room := { frames := 0, cells := 0, slots := 0, locals := 0 }
theorem yd_X5_direction : yX5_direction.cls = RX5 ∧ yX5_direction.cls ≠ "java/lang/invoke/MethodHandle" ∧ yX5_direction.cls ≠ "java/lang/invoke/VarHandle" ∧ (parseMethodDescriptor yX5_direction.desc).map (fun d => d.parameters.length) = some 3 := by decide +kernel
theorem kwX5_direction_1 : Cond.fieldLink RX5 56 "BarrelRaft$Lashings" "first" "[I" ∈ wsX5_direction := List.mem_of_getElem? (i := 1) rfl
set_option maxRecDepth 20000 in
theorem kinX5_direction_X2 : ∀ w ∈ u_ws RX2 TX2 5, w ∈ wsX5_direction := by decide +kernel
def jX5_direction (Q_first : Nat → Int32) (a1 : Int32) (a2 : Int32) : Option (Int32) :=
  chk 48 a1 ((if rd Q_first a1 = a2 then some 1 else some (-1)))
set_option maxHeartbeats 4000000 in
set_option maxRecDepth 100000 in
theorem mt_X5_direction (l : Launch) (D : va_G) (c : Nat → ClassId) (Y : Nat → Nat) (Q : Nat → Nat) (Q_number : Int32) (Q_first : Nat → Int32) (a1 : Int32) (a2 : Int32) (q0 : Int32) (h : jX5_direction Q_first a1 a2 = some q0) : DTi l yX5_direction wsX5_direction rmX5_direction D c (wX5_direction c Y Q Q_number Q_first) [.ref (Y 0), .ref (Q 0), .int a1, .int a2] q0 (wX5_direction c Y Q Q_number Q_first) 0 0 := by
  refine DTi_of (cc := cX5_direction) (nL := 4) RX5 rfl (by decide) rfl (Nat.le_of_ble_eq_true rfl) (fun g C ret => ?_)
  unfold jX5_direction at h
  refine vv_lv [0, 1, 2, 3] [(0, .ref (Y 0)), (1, .ref (Q 0)), (2, .int a1), (3, .int a2)] rfl ?_
  refine vv_aload_n C dX5_direction_0 rfl 1 rfl 1 rfl ?_
  refine vv_get C (q0 := 1) (ci := 2) (k := 0) kinX5_direction_X2 rfl rfl (by decide) kwX5_direction_1 rfl rfl dX5_direction_1 4 rfl ?_
  refine vv_iload_n C dX5_direction_4 rfl 2 rfl 5 rfl ?_
  obtain ⟨hi, h⟩ := chk_s h
  refine vv_iald C (q0 := 2) rfl hi dX5_direction_5 6 rfl ?_
  refine vv_iload_n C dX5_direction_6 rfl 3 rfl 7 rfl ?_
  refine vv_icmp_ne C 14 10 dX5_direction_7 (by decide) rfl (fun hc => ?_) (fun hc => ?_)
  · replace h := ite_f hc h
    refine vv_iconst C (v := (-1)) dX5_direction_14 (by decide) 15 rfl ?_
    obtain rfl := Option.some.inj h
    exact ret _ _ dX5_direction_15
  · replace h := ite_t hc h
    refine vv_iconst C (v := 1) dX5_direction_10 (by decide) 11 rfl ?_
    refine vv_goto C 15 dX5_direction_11 (by decide) ?_
    obtain rfl := Option.some.inj h
    exact ret _ _ dX5_direction_15
abbrev wX5_reachFrom (c : Nat → ClassId) (Y : Nat → Nat) (Q : Nat → Nat) (Y_used : Nat → Int32) (Y_cameBy : Nat → Int32) (Y_reached : Nat → Int32) (Q_number : Int32) (Q_first : Nat → Int32) (Q_second : Nat → Int32) : va_W := [(Y 0, .inr (5, [.ref (Y 1), .ref (Y 2), .ref (Y 3), .ref (Y 4)])), aI c (Y 1) 48 Y_used, aI c (Y 2) 24 Y_cameBy, aI c (Y 3) 24 Y_reached, (Q 0, .inr (2, [.ref (Q 1), .ref (Q 2), .ref (Q 3), .ref (Q 4), .int Q_number])), aI c (Q 1) 48 Q_first, aI c (Q 2) 48 Q_second]
abbrev rmX5_reachFrom : Room := { frames := 1, cells := 0, slots := 0, locals := 23 }
theorem yd_X5_reachFrom : yX5_reachFrom.cls = RX5 ∧ yX5_reachFrom.cls ≠ "java/lang/invoke/MethodHandle" ∧ yX5_reachFrom.cls ≠ "java/lang/invoke/VarHandle" ∧ (parseMethodDescriptor yX5_reachFrom.desc).map (fun d => d.parameters.length) = some 4 := by decide +kernel
theorem kwX5_reachFrom_1 : Cond.fieldLink RX5 30 "BarrelRaft$Lashings" "number" "I" ∈ wsX5_reachFrom := List.mem_of_getElem? (i := 1) rfl
set_option maxRecDepth 20000 in
theorem kinX5_reachFrom_X2 : ∀ w ∈ u_ws RX2 TX2 5, w ∈ wsX5_reachFrom := by decide +kernel
theorem kwX5_reachFrom_2 : Cond.fieldLink RX5 15 "BarrelRaft$Ways" "cameBy" "[I" ∈ wsX5_reachFrom := List.mem_of_getElem? (i := 2) rfl
set_option maxRecDepth 20000 in
theorem kinX5_reachFrom_X5 : ∀ w ∈ u_ws RX5 TX5 4, w ∈ wsX5_reachFrom := by decide +kernel
theorem kwX5_reachFrom_3 : Cond.fieldLink RX5 9 "BarrelRaft$Ways" "used" "[I" ∈ wsX5_reachFrom := List.mem_of_getElem? (i := 3) rfl
theorem kwX5_reachFrom_4 : Cond.fieldLink RX5 18 "BarrelRaft$Ways" "reached" "[I" ∈ wsX5_reachFrom := List.mem_of_getElem? (i := 4) rfl
def jX5_reachFrom_L7 (Y_used : Nat → Int32) (Q_number : Int32) (Q_first : Nat → Int32) (Q_second : Nat → Int32) (u2 : Int32) (u3 : Int32) (n : Nat) (Y_cameBy_7 : Nat → Int32) (Y_reached_7 : Nat → Int32) (v5_7 : Int32) (v6_7 : Int32) : Option ((Nat → Int32) × (Nat → Int32) × Int32) :=
  match n with
  | 0 => none
  | n + 1 => (if Q_number ≤ v6_7 then some (Y_cameBy_7, Y_reached_7, v5_7) else bnd (jX2_leadsTo Q_first Q_second v6_7 u2) (fun r1 => (if r1 < 0 then jX5_reachFrom_L7 Y_used Q_number Q_first Q_second u2 u3 n Y_cameBy_7 Y_reached_7 v5_7 (v6_7 + 1) else (if r1 = u3 then jX5_reachFrom_L7 Y_used Q_number Q_first Q_second u2 u3 n Y_cameBy_7 Y_reached_7 v5_7 (v6_7 + 1) else chk 24 r1 ((if 0 ≤ rd Y_cameBy_7 r1 then jX5_reachFrom_L7 Y_used Q_number Q_first Q_second u2 u3 n Y_cameBy_7 Y_reached_7 v5_7 (v6_7 + 1) else chk 48 v6_7 (bnd (jX5_direction Q_first v6_7 u2) (fun r2 => (if rd Y_used v6_7 = r2 then jX5_reachFrom_L7 Y_used Q_number Q_first Q_second u2 u3 n Y_cameBy_7 Y_reached_7 v5_7 (v6_7 + 1) else (if 24 ≤ v5_7 then jX5_reachFrom_L7 Y_used Q_number Q_first Q_second u2 u3 n Y_cameBy_7 Y_reached_7 v5_7 (v6_7 + 1) else chk 24 r1 (chk 24 v5_7 (jX5_reachFrom_L7 Y_used Q_number Q_first Q_second u2 u3 n (wr Y_cameBy_7 r1 v6_7) (wr Y_reached_7 v5_7 r1) (v5_7 + 1) (v6_7 + 1)))))))))))))
def jX5_reachFrom (Y_used : Nat → Int32) (Y_cameBy : Nat → Int32) (Y_reached : Nat → Int32) (Q_number : Int32) (Q_first : Nat → Int32) (Q_second : Nat → Int32) (a1 : Int32) (a2 : Int32) (a3 : Int32) : Option (Int32 × (Nat → Int32) × (Nat → Int32)) :=
  bnd (jX5_reachFrom_L7 Y_used Q_number Q_first Q_second a1 a2 FU Y_cameBy Y_reached a3 0) (fun r3 => some (r3.2.2, r3.1, r3.2.1))
set_option maxHeartbeats 4000000 in
set_option maxRecDepth 100000 in
theorem mt_X5_reachFrom (l : Launch) (D : va_G) (c : Nat → ClassId) (Y : Nat → Nat) (Q : Nat → Nat) (Y_used : Nat → Int32) (Y_cameBy : Nat → Int32) (Y_reached : Nat → Int32) (Q_number : Int32) (Q_first : Nat → Int32) (Q_second : Nat → Int32) (a1 : Int32) (a2 : Int32) (a3 : Int32) (q0 : Int32 × (Nat → Int32) × (Nat → Int32)) (h : jX5_reachFrom Y_used Y_cameBy Y_reached Q_number Q_first Q_second a1 a2 a3 = some q0) : DTi l yX5_reachFrom wsX5_reachFrom rmX5_reachFrom D c (wX5_reachFrom c Y Q Y_used Y_cameBy Y_reached Q_number Q_first Q_second) [.ref (Y 0), .ref (Q 0), .int a1, .int a2, .int a3] q0.1 (wX5_reachFrom c Y Q Y_used q0.2.1 q0.2.2 Q_number Q_first Q_second) 0 0 := by
  refine DTi_of (cc := cX5_reachFrom) (nL := 8) RX5 rfl (by decide) rfl (Nat.le_of_ble_eq_true rfl) (fun g C ret => ?_)
  unfold jX5_reachFrom at h
  refine vv_lv [0, 1, 2, 3, 4] [(0, .ref (Y 0)), (1, .ref (Q 0)), (2, .int a1), (3, .int a2), (4, .int a3)] rfl ?_
  refine vv_iload C dX5_reachFrom_0 4 rfl 2 rfl ?_
  refine vv_istore C [(5, .int a3), (0, .ref (Y 0)), (1, .ref (Q 0)), (2, .int a1), (3, .int a2), (4, .int a3)] dX5_reachFrom_2 (by decide) rfl 4 rfl ?_
  refine vv_iconst C (v := 0) dX5_reachFrom_4 (by decide) 5 rfl ?_
  refine vv_istore C [(6, .int 0), (5, .int a3), (0, .ref (Y 0)), (1, .ref (Q 0)), (2, .int a1), (3, .int a2), (4, .int a3)] dX5_reachFrom_5 (by decide) rfl 7 rfl ?_
  refine vv_lv [2, 3, 4, 5, 1, 0] [(0, .ref (Y 0)), (1, .ref (Q 0)), (2, .int a1), (3, .int a2), (5, .int a3), (6, .int 0)] rfl ?_
  have L7 : ∀ (n : Nat) (Y_cameBy_7 : Nat → Int32) (Y_reached_7 : Nat → Int32) (v5_7 : Int32) (v6_7 : Int32) (q7 : (Nat → Int32) × (Nat → Int32) × Int32), jX5_reachFrom_L7 Y_used Q_number Q_first Q_second a1 a2 n Y_cameBy_7 Y_reached_7 v5_7 v6_7 = some q7 → (VV g D 8 0 0 (wX5_reachFrom c Y Q Y_used q7.1 q7.2.1 Q_number Q_first Q_second) [(5, .int q7.2.2)] 98 []) → VV g D 8 0 0 (wX5_reachFrom c Y Q Y_used Y_cameBy_7 Y_reached_7 Q_number Q_first Q_second) [(0, .ref (Y 0)), (1, .ref (Q 0)), (2, .int a1), (3, .int a2), (5, .int v5_7), (6, .int v6_7)] 7 [] := by
    intro n
    induction n with
    | zero =>
      intro Y_cameBy_7 Y_reached_7 v5_7 v6_7 q7 h _
      rw [jX5_reachFrom_L7] at h
      cases h
    | succ n ih7 =>
      intro Y_cameBy_7 Y_reached_7 v5_7 v6_7 q7 h kk7
      rw [jX5_reachFrom_L7] at h
      refine vv_iload C dX5_reachFrom_7 5 rfl 9 rfl ?_
      refine vv_aload_n C dX5_reachFrom_9 rfl 1 rfl 10 rfl ?_
      refine vv_get C (q0 := 4) (ci := 2) (k := 4) kinX5_reachFrom_X2 rfl rfl (by decide) kwX5_reachFrom_1 rfl rfl dX5_reachFrom_10 13 rfl ?_
      refine vv_icmp_ge C 98 16 dX5_reachFrom_13 (by decide) rfl (fun hc => ?_) (fun hc => ?_)
      · replace h := ite_t hc h
        refine vv_lv [4] [(5, .int v5_7)] rfl ?_
        obtain rfl := Option.some.inj h
        exact kk7
      · replace h := ite_f hc h
        refine vv_aload_n C dX5_reachFrom_16 rfl 1 rfl 17 rfl ?_
        refine vv_iload C dX5_reachFrom_17 5 rfl 19 rfl ?_
        refine vv_iload_n C dX5_reachFrom_19 rfl 2 rfl 20 rfl ?_
        obtain ⟨r1, hr1, h⟩ := bnd_s h
        refine vv_callVi C (fun l => mt_X2_leadsTo l D c Q Q_number Q_first Q_second v6_7 a1 r1 hr1) gX5_reachFrom_X2_leadsTo rfl rfl rfl yd_X2_leadsTo ⟨Nat.le_of_ble_eq_true rfl, Nat.le_of_ble_eq_true rfl⟩ [4, 5, 6] rfl (by decide) 0 rfl rfl (wX5_reachFrom c Y Q Y_used Y_cameBy_7 Y_reached_7 Q_number Q_first Q_second) [(false, 0), (false, 1), (false, 2), (false, 3), (true, 0), (true, 1), (true, 2)] rfl (by decide) rfl rfl [] rfl (Nat.le_of_ble_eq_true rfl) ⟨Nat.le_of_ble_eq_true rfl, Nat.le_of_ble_eq_true rfl⟩ dX5_reachFrom_20 23 0 0 rfl ⟨rfl, rfl⟩ ?_
        refine vv_istore C [(7, .int r1), (0, .ref (Y 0)), (1, .ref (Q 0)), (2, .int a1), (3, .int a2), (5, .int v5_7), (6, .int v6_7)] dX5_reachFrom_23 (by decide) rfl 25 rfl ?_
        refine vv_iload C dX5_reachFrom_25 0 rfl 27 rfl ?_
        refine vv_if_lt C 92 30 dX5_reachFrom_27 (by decide) rfl (fun hc => ?_) (fun hc => ?_)
        · replace h := ite_t hc h
          refine vv_iinc C (k := 6) [(6, .int (v6_7 + 1)), (7, .int r1), (0, .ref (Y 0)), (1, .ref (Q 0)), (2, .int a1), (3, .int a2), (5, .int v5_7)] dX5_reachFrom_92 rfl rfl (by decide) rfl 95 rfl ?_
          refine vv_goto C 7 dX5_reachFrom_95 (by decide) ?_
          refine vv_lv [2, 3, 4, 5, 6, 0] [(0, .ref (Y 0)), (1, .ref (Q 0)), (2, .int a1), (3, .int a2), (5, .int v5_7), (6, .int (v6_7 + 1))] rfl ?_
          exact ih7 Y_cameBy_7 Y_reached_7 v5_7 (v6_7 + 1) _ h kk7
        · replace h := ite_f hc h
          refine vv_iload C dX5_reachFrom_30 0 rfl 32 rfl ?_
          refine vv_iload_n C dX5_reachFrom_32 rfl 4 rfl 33 rfl ?_
          refine vv_icmp_eq C 92 36 dX5_reachFrom_33 (by decide) rfl (fun hc => ?_) (fun hc => ?_)
          · replace h := ite_t hc h
            refine vv_iinc C (k := 6) [(6, .int (v6_7 + 1)), (7, .int r1), (0, .ref (Y 0)), (1, .ref (Q 0)), (2, .int a1), (3, .int a2), (5, .int v5_7)] dX5_reachFrom_92 rfl rfl (by decide) rfl 95 rfl ?_
            refine vv_goto C 7 dX5_reachFrom_95 (by decide) ?_
            refine vv_lv [2, 3, 4, 5, 6, 0] [(0, .ref (Y 0)), (1, .ref (Q 0)), (2, .int a1), (3, .int a2), (5, .int v5_7), (6, .int (v6_7 + 1))] rfl ?_
            exact ih7 Y_cameBy_7 Y_reached_7 v5_7 (v6_7 + 1) _ h kk7
          · replace h := ite_f hc h
            refine vv_aload_n C dX5_reachFrom_36 rfl 1 rfl 37 rfl ?_
            refine vv_get C (q0 := 0) (ci := 5) (k := 1) kinX5_reachFrom_X5 rfl rfl (by decide) kwX5_reachFrom_2 rfl rfl dX5_reachFrom_37 40 rfl ?_
            refine vv_iload C dX5_reachFrom_40 0 rfl 42 rfl ?_
            obtain ⟨hi, h⟩ := chk_s h
            refine vv_iald C (q0 := 2) rfl hi dX5_reachFrom_42 43 rfl ?_
            refine vv_if_ge C 92 46 dX5_reachFrom_43 (by decide) rfl (fun hc => ?_) (fun hc => ?_)
            · replace h := ite_t hc h
              refine vv_iinc C (k := 6) [(6, .int (v6_7 + 1)), (7, .int r1), (0, .ref (Y 0)), (1, .ref (Q 0)), (2, .int a1), (3, .int a2), (5, .int v5_7)] dX5_reachFrom_92 rfl rfl (by decide) rfl 95 rfl ?_
              refine vv_goto C 7 dX5_reachFrom_95 (by decide) ?_
              refine vv_lv [2, 3, 4, 5, 6, 0] [(0, .ref (Y 0)), (1, .ref (Q 0)), (2, .int a1), (3, .int a2), (5, .int v5_7), (6, .int (v6_7 + 1))] rfl ?_
              exact ih7 Y_cameBy_7 Y_reached_7 v5_7 (v6_7 + 1) _ h kk7
            · replace h := ite_f hc h
              refine vv_aload_n C dX5_reachFrom_46 rfl 1 rfl 47 rfl ?_
              refine vv_get C (q0 := 0) (ci := 5) (k := 0) kinX5_reachFrom_X5 rfl rfl (by decide) kwX5_reachFrom_3 rfl rfl dX5_reachFrom_47 50 rfl ?_
              refine vv_iload C dX5_reachFrom_50 6 rfl 52 rfl ?_
              obtain ⟨hi, h⟩ := chk_s h
              refine vv_iald C (q0 := 1) rfl hi dX5_reachFrom_52 53 rfl ?_
              refine vv_aload_n C dX5_reachFrom_53 rfl 1 rfl 54 rfl ?_
              refine vv_aload_n C dX5_reachFrom_54 rfl 2 rfl 55 rfl ?_
              refine vv_iload C dX5_reachFrom_55 6 rfl 57 rfl ?_
              refine vv_iload_n C dX5_reachFrom_57 rfl 3 rfl 58 rfl ?_
              obtain ⟨r2, hr2, h⟩ := bnd_s h
              refine vv_callVi C (fun l => mt_X5_direction l D c Y Q Q_number Q_first v6_7 a1 r2 hr2) gX5_reachFrom_X5_direction rfl rfl rfl yd_X5_direction ⟨Nat.le_of_ble_eq_true rfl, Nat.le_of_ble_eq_true rfl⟩ [0, 4, 5] rfl (by decide) 0 rfl rfl (wX5_reachFrom c Y Q Y_used Y_cameBy_7 Y_reached_7 Q_number Q_first Q_second) [(true, 0), (false, 1), (false, 2), (false, 3), (true, 1), (true, 2), (false, 6)] rfl (by decide) rfl rfl [.int (rd Y_used v6_7)] rfl (Nat.le_of_ble_eq_true rfl) ⟨Nat.le_of_ble_eq_true rfl, Nat.le_of_ble_eq_true rfl⟩ dX5_reachFrom_58 61 0 0 rfl ⟨rfl, rfl⟩ ?_
              refine vv_icmp_eq C 92 64 dX5_reachFrom_61 (by decide) rfl (fun hc => ?_) (fun hc => ?_)
              · replace h := ite_t hc h
                refine vv_iinc C (k := 6) [(6, .int (v6_7 + 1)), (7, .int r1), (0, .ref (Y 0)), (1, .ref (Q 0)), (2, .int a1), (3, .int a2), (5, .int v5_7)] dX5_reachFrom_92 rfl rfl (by decide) rfl 95 rfl ?_
                refine vv_goto C 7 dX5_reachFrom_95 (by decide) ?_
                refine vv_lv [2, 3, 4, 5, 6, 0] [(0, .ref (Y 0)), (1, .ref (Q 0)), (2, .int a1), (3, .int a2), (5, .int v5_7), (6, .int (v6_7 + 1))] rfl ?_
                exact ih7 Y_cameBy_7 Y_reached_7 v5_7 (v6_7 + 1) _ h kk7
              · replace h := ite_f hc h
                refine vv_iload C dX5_reachFrom_64 5 rfl 66 rfl ?_
                refine vv_bipush C (v := 24) dX5_reachFrom_66 (by decide) 68 rfl ?_
                refine vv_icmp_ge C 92 71 dX5_reachFrom_68 (by decide) rfl (fun hc => ?_) (fun hc => ?_)
                · replace h := ite_t hc h
                  refine vv_iinc C (k := 6) [(6, .int (v6_7 + 1)), (7, .int r1), (0, .ref (Y 0)), (1, .ref (Q 0)), (2, .int a1), (3, .int a2), (5, .int v5_7)] dX5_reachFrom_92 rfl rfl (by decide) rfl 95 rfl ?_
                  refine vv_goto C 7 dX5_reachFrom_95 (by decide) ?_
                  refine vv_lv [2, 3, 4, 5, 6, 0] [(0, .ref (Y 0)), (1, .ref (Q 0)), (2, .int a1), (3, .int a2), (5, .int v5_7), (6, .int (v6_7 + 1))] rfl ?_
                  exact ih7 Y_cameBy_7 Y_reached_7 v5_7 (v6_7 + 1) _ h kk7
                · replace h := ite_f hc h
                  refine vv_aload_n C dX5_reachFrom_71 rfl 1 rfl 72 rfl ?_
                  refine vv_get C (q0 := 0) (ci := 5) (k := 1) kinX5_reachFrom_X5 rfl rfl (by decide) kwX5_reachFrom_2 rfl rfl dX5_reachFrom_72 75 rfl ?_
                  refine vv_iload C dX5_reachFrom_75 0 rfl 77 rfl ?_
                  refine vv_iload C dX5_reachFrom_77 6 rfl 79 rfl ?_
                  obtain ⟨hi, h⟩ := chk_s h
                  refine vv_iast C (q0 := 2) (wX5_reachFrom c Y Q Y_used (wr Y_cameBy_7 r1 v6_7) Y_reached_7 Q_number Q_first Q_second) rfl hi rfl dX5_reachFrom_79 80 rfl ?_
                  refine vv_aload_n C dX5_reachFrom_80 rfl 1 rfl 81 rfl ?_
                  refine vv_get C (q0 := 0) (ci := 5) (k := 2) kinX5_reachFrom_X5 rfl rfl (by decide) kwX5_reachFrom_4 rfl rfl dX5_reachFrom_81 84 rfl ?_
                  refine vv_iload C dX5_reachFrom_84 5 rfl 86 rfl ?_
                  refine vv_iload C dX5_reachFrom_86 0 rfl 88 rfl ?_
                  obtain ⟨hi, h⟩ := chk_s h
                  refine vv_iast C (q0 := 3) (wX5_reachFrom c Y Q Y_used (wr Y_cameBy_7 r1 v6_7) (wr Y_reached_7 v5_7 r1) Q_number Q_first Q_second) rfl hi rfl dX5_reachFrom_88 89 rfl ?_
                  refine vv_iinc C (k := 5) [(5, .int (v5_7 + 1)), (7, .int r1), (0, .ref (Y 0)), (1, .ref (Q 0)), (2, .int a1), (3, .int a2), (6, .int v6_7)] dX5_reachFrom_89 rfl rfl (by decide) rfl 92 rfl ?_
                  refine vv_iinc C (k := 6) [(6, .int (v6_7 + 1)), (5, .int (v5_7 + 1)), (7, .int r1), (0, .ref (Y 0)), (1, .ref (Q 0)), (2, .int a1), (3, .int a2)] dX5_reachFrom_92 rfl rfl (by decide) rfl 95 rfl ?_
                  refine vv_goto C 7 dX5_reachFrom_95 (by decide) ?_
                  refine vv_lv [3, 4, 5, 6, 1, 0] [(0, .ref (Y 0)), (1, .ref (Q 0)), (2, .int a1), (3, .int a2), (5, .int (v5_7 + 1)), (6, .int (v6_7 + 1))] rfl ?_
                  exact ih7 (wr Y_cameBy_7 r1 v6_7) (wr Y_reached_7 v5_7 r1) (v5_7 + 1) (v6_7 + 1) _ h kk7
  obtain ⟨r3, hr3, h⟩ := bnd_s h
  refine L7 FU Y_cameBy Y_reached a3 0 r3 hr3 ?_
  refine vv_iload C dX5_reachFrom_98 0 rfl 100 rfl ?_
  obtain rfl := Option.some.inj h
  exact ret _ _ dX5_reachFrom_100
abbrev wX5_findWay (c : Nat → ClassId) (Y : Nat → Nat) (Q : Nat → Nat) (Y_used : Nat → Int32) (Y_cameBy : Nat → Int32) (Y_reached : Nat → Int32) (Q_number : Int32) (Q_first : Nat → Int32) (Q_second : Nat → Int32) : va_W := [(Y 0, .inr (5, [.ref (Y 1), .ref (Y 2), .ref (Y 3), .ref (Y 4)])), aI c (Y 1) 48 Y_used, aI c (Y 2) 24 Y_cameBy, aI c (Y 3) 24 Y_reached, (Q 0, .inr (2, [.ref (Q 1), .ref (Q 2), .ref (Q 3), .ref (Q 4), .int Q_number])), aI c (Q 1) 48 Q_first, aI c (Q 2) 48 Q_second]
abbrev rmX5_findWay : Room := { frames := 2, cells := 0, slots := 0, locals := 50 }
theorem yd_X5_findWay : yX5_findWay.cls = RX5 ∧ yX5_findWay.cls ≠ "java/lang/invoke/MethodHandle" ∧ yX5_findWay.cls ≠ "java/lang/invoke/VarHandle" ∧ (parseMethodDescriptor yX5_findWay.desc).map (fun d => d.parameters.length) = some 3 := by decide +kernel
theorem kwX5_findWay_1 : Cond.fieldLink RX5 15 "BarrelRaft$Ways" "cameBy" "[I" ∈ wsX5_findWay := List.mem_of_getElem? (i := 1) rfl
set_option maxRecDepth 20000 in
theorem kinX5_findWay_X5 : ∀ w ∈ u_ws RX5 TX5 4, w ∈ wsX5_findWay := by decide +kernel
theorem kwX5_findWay_2 : Cond.fieldLink RX5 18 "BarrelRaft$Ways" "reached" "[I" ∈ wsX5_findWay := List.mem_of_getElem? (i := 2) rfl
def jX5_findWay_L21 (Y_used : Nat → Int32) (Q_number : Int32) (Q_first : Nat → Int32) (Q_second : Nat → Int32) (u2 : Int32) (u3 : Int32) (n : Nat) (Y_cameBy_21 : Nat → Int32) (Y_reached_21 : Nat → Int32) (v4_21 : Int32) (v5_21 : Int32) : Option ((Nat → Int32) × (Nat → Int32)) :=
  match n with
  | 0 => none
  | n + 1 => (if v4_21 ≤ v5_21 then some (Y_cameBy_21, Y_reached_21) else (if 24 ≤ v5_21 then some (Y_cameBy_21, Y_reached_21) else chk 24 u3 ((if 0 ≤ rd Y_cameBy_21 u3 then some (Y_cameBy_21, Y_reached_21) else chk 24 v5_21 (bnd (jX5_reachFrom Y_used Y_cameBy_21 Y_reached_21 Q_number Q_first Q_second (rd Y_reached_21 v5_21) u2 v4_21) (fun r2 => jX5_findWay_L21 Y_used Q_number Q_first Q_second u2 u3 n r2.2.1 r2.2.2 r2.1 (v5_21 + 1)))))))
def jX5_findWay (Y_used : Nat → Int32) (Y_cameBy : Nat → Int32) (Y_reached : Nat → Int32) (Q_number : Int32) (Q_first : Nat → Int32) (Q_second : Nat → Int32) (a1 : Int32) (a2 : Int32) : Option (Int32 × (Nat → Int32) × (Nat → Int32)) :=
  bnd (jJ7_fill_53178 24 Y_cameBy (-1)) (fun r1 => chk 24 0 (bnd (jX5_findWay_L21 Y_used Q_number Q_first Q_second a1 a2 FU r1 (wr Y_reached 0 a1) 1 0) (fun r3 => chk 24 a2 ((if rd r3.1 a2 < 0 then chkZ 0 (some (0, r3.1, r3.2)) else chkZ 1 (some (1, r3.1, r3.2)))))))
set_option maxHeartbeats 4000000 in
set_option maxRecDepth 100000 in
theorem mt_X5_findWay (l : Launch) (D : va_G) (c : Nat → ClassId) (Y : Nat → Nat) (Q : Nat → Nat) (Y_used : Nat → Int32) (Y_cameBy : Nat → Int32) (Y_reached : Nat → Int32) (Q_number : Int32) (Q_first : Nat → Int32) (Q_second : Nat → Int32) (a1 : Int32) (a2 : Int32) (q0 : Int32 × (Nat → Int32) × (Nat → Int32)) (h : jX5_findWay Y_used Y_cameBy Y_reached Q_number Q_first Q_second a1 a2 = some q0) : DTi l yX5_findWay wsX5_findWay rmX5_findWay D c (wX5_findWay c Y Q Y_used Y_cameBy Y_reached Q_number Q_first Q_second) [.ref (Y 0), .ref (Q 0), .int a1, .int a2] q0.1 (wX5_findWay c Y Q Y_used q0.2.1 q0.2.2 Q_number Q_first Q_second) 0 0 := by
  refine DTz_of (cc := cX5_findWay) (nL := 6) RX5 rfl (by decide) rfl (Nat.le_of_ble_eq_true rfl) (fun g C ret => ?_)
  unfold jX5_findWay at h
  refine vv_lv [0, 1, 2, 3] [(0, .ref (Y 0)), (1, .ref (Q 0)), (2, .int a1), (3, .int a2)] rfl ?_
  refine vv_aload_n C dX5_findWay_0 rfl 0 rfl 1 rfl ?_
  refine vv_get C (q0 := 0) (ci := 5) (k := 1) kinX5_findWay_X5 rfl rfl (by decide) kwX5_findWay_1 rfl rfl dX5_findWay_1 4 rfl ?_
  refine vv_iconst C (v := (-1)) dX5_findWay_4 (by decide) 5 rfl ?_
  obtain ⟨r1, hr1, h⟩ := bnd_s h
  refine vv_callSv C (fun l => mt_J7_fill_53178 l D c (fun _ => (Y 2)) 24 Y_cameBy (-1) r1 hr1) gX5_findWay_J7_fill_53178 rfl rfl rfl yd_J7_fill_53178 ⟨Nat.le_of_ble_eq_true rfl, Nat.le_of_ble_eq_true rfl⟩ [2] rfl (by decide) (wX5_findWay c Y Q Y_used r1 Y_reached Q_number Q_first Q_second) [(false, 0), (false, 1), (true, 0), (false, 3), (false, 4), (false, 5), (false, 6)] rfl (by decide) rfl rfl [] rfl (Nat.le_of_ble_eq_true rfl) ⟨Nat.le_of_ble_eq_true rfl, Nat.le_of_ble_eq_true rfl⟩ dX5_findWay_5 8 0 0 rfl ⟨rfl, rfl⟩ ?_
  refine vv_aload_n C dX5_findWay_8 rfl 0 rfl 9 rfl ?_
  refine vv_get C (q0 := 0) (ci := 5) (k := 2) kinX5_findWay_X5 rfl rfl (by decide) kwX5_findWay_2 rfl rfl dX5_findWay_9 12 rfl ?_
  refine vv_iconst C (v := 0) dX5_findWay_12 (by decide) 13 rfl ?_
  refine vv_iload_n C dX5_findWay_13 rfl 2 rfl 14 rfl ?_
  obtain ⟨hi, h⟩ := chk_s h
  refine vv_iast C (q0 := 3) (wX5_findWay c Y Q Y_used r1 (wr Y_reached 0 a1) Q_number Q_first Q_second) rfl hi rfl dX5_findWay_14 15 rfl ?_
  refine vv_iconst C (v := 1) dX5_findWay_15 (by decide) 16 rfl ?_
  refine vv_istore C [(4, .int 1), (0, .ref (Y 0)), (1, .ref (Q 0)), (2, .int a1), (3, .int a2)] dX5_findWay_16 (by decide) rfl 18 rfl ?_
  refine vv_iconst C (v := 0) dX5_findWay_18 (by decide) 19 rfl ?_
  refine vv_istore C [(5, .int 0), (4, .int 1), (0, .ref (Y 0)), (1, .ref (Q 0)), (2, .int a1), (3, .int a2)] dX5_findWay_19 (by decide) rfl 21 rfl ?_
  refine vv_lv [2, 3, 4, 5, 1, 0] [(0, .ref (Y 0)), (1, .ref (Q 0)), (2, .int a1), (3, .int a2), (4, .int 1), (5, .int 0)] rfl ?_
  have L21 : ∀ (n : Nat) (Y_cameBy_21 : Nat → Int32) (Y_reached_21 : Nat → Int32) (v4_21 : Int32) (v5_21 : Int32) (q21 : (Nat → Int32) × (Nat → Int32)), jX5_findWay_L21 Y_used Q_number Q_first Q_second a1 a2 n Y_cameBy_21 Y_reached_21 v4_21 v5_21 = some q21 → (VV g D 6 0 0 (wX5_findWay c Y Q Y_used q21.1 q21.2 Q_number Q_first Q_second) [(0, .ref (Y 0)), (3, .int a2)] 67 []) → VV g D 6 0 0 (wX5_findWay c Y Q Y_used Y_cameBy_21 Y_reached_21 Q_number Q_first Q_second) [(0, .ref (Y 0)), (1, .ref (Q 0)), (2, .int a1), (3, .int a2), (4, .int v4_21), (5, .int v5_21)] 21 [] := by
    intro n
    induction n with
    | zero =>
      intro Y_cameBy_21 Y_reached_21 v4_21 v5_21 q21 h _
      rw [jX5_findWay_L21] at h
      cases h
    | succ n ih21 =>
      intro Y_cameBy_21 Y_reached_21 v4_21 v5_21 q21 h kk21
      rw [jX5_findWay_L21] at h
      refine vv_iload C dX5_findWay_21 5 rfl 23 rfl ?_
      refine vv_iload C dX5_findWay_23 4 rfl 25 rfl ?_
      refine vv_icmp_ge C 67 28 dX5_findWay_25 (by decide) rfl (fun hc => ?_) (fun hc => ?_)
      · replace h := ite_t hc h
        refine vv_lv [0, 3] [(0, .ref (Y 0)), (3, .int a2)] rfl ?_
        obtain rfl := Option.some.inj h
        exact kk21
      · replace h := ite_f hc h
        refine vv_iload C dX5_findWay_28 5 rfl 30 rfl ?_
        refine vv_bipush C (v := 24) dX5_findWay_30 (by decide) 32 rfl ?_
        refine vv_icmp_ge C 67 35 dX5_findWay_32 (by decide) rfl (fun hc => ?_) (fun hc => ?_)
        · replace h := ite_t hc h
          refine vv_lv [0, 3] [(0, .ref (Y 0)), (3, .int a2)] rfl ?_
          obtain rfl := Option.some.inj h
          exact kk21
        · replace h := ite_f hc h
          refine vv_aload_n C dX5_findWay_35 rfl 0 rfl 36 rfl ?_
          refine vv_get C (q0 := 0) (ci := 5) (k := 1) kinX5_findWay_X5 rfl rfl (by decide) kwX5_findWay_1 rfl rfl dX5_findWay_36 39 rfl ?_
          refine vv_iload_n C dX5_findWay_39 rfl 3 rfl 40 rfl ?_
          obtain ⟨hi, h⟩ := chk_s h
          refine vv_iald C (q0 := 2) rfl hi dX5_findWay_40 41 rfl ?_
          refine vv_if_ge C 67 44 dX5_findWay_41 (by decide) rfl (fun hc => ?_) (fun hc => ?_)
          · replace h := ite_t hc h
            refine vv_lv [0, 3] [(0, .ref (Y 0)), (3, .int a2)] rfl ?_
            obtain rfl := Option.some.inj h
            exact kk21
          · replace h := ite_f hc h
            refine vv_aload_n C dX5_findWay_44 rfl 0 rfl 45 rfl ?_
            refine vv_aload_n C dX5_findWay_45 rfl 1 rfl 46 rfl ?_
            refine vv_aload_n C dX5_findWay_46 rfl 0 rfl 47 rfl ?_
            refine vv_get C (q0 := 0) (ci := 5) (k := 2) kinX5_findWay_X5 rfl rfl (by decide) kwX5_findWay_2 rfl rfl dX5_findWay_47 50 rfl ?_
            refine vv_iload C dX5_findWay_50 5 rfl 52 rfl ?_
            obtain ⟨hi, h⟩ := chk_s h
            refine vv_iald C (q0 := 3) rfl hi dX5_findWay_52 53 rfl ?_
            refine vv_iload_n C dX5_findWay_53 rfl 2 rfl 54 rfl ?_
            refine vv_iload C dX5_findWay_54 4 rfl 56 rfl ?_
            obtain ⟨r2, hr2, h⟩ := bnd_s h
            refine vv_callVi C (fun l => mt_X5_reachFrom l D c Y Q Y_used Y_cameBy_21 Y_reached_21 Q_number Q_first Q_second (rd Y_reached_21 v5_21) a1 v4_21 r2 hr2) gX5_findWay_X5_reachFrom rfl rfl rfl yd_X5_reachFrom ⟨Nat.le_of_ble_eq_true rfl, Nat.le_of_ble_eq_true rfl⟩ [0, 1, 2, 3, 4, 5, 6] rfl (by decide) 0 rfl rfl (wX5_findWay c Y Q Y_used r2.2.1 r2.2.2 Q_number Q_first Q_second) [(true, 0), (true, 1), (true, 2), (true, 3), (true, 4), (true, 5), (true, 6)] rfl (by decide) rfl rfl [] rfl (Nat.le_of_ble_eq_true rfl) ⟨Nat.le_of_ble_eq_true rfl, Nat.le_of_ble_eq_true rfl⟩ dX5_findWay_56 59 0 0 rfl ⟨rfl, rfl⟩ ?_
            refine vv_istore C [(4, .int r2.1), (0, .ref (Y 0)), (1, .ref (Q 0)), (2, .int a1), (3, .int a2), (5, .int v5_21)] dX5_findWay_59 (by decide) rfl 61 rfl ?_
            refine vv_iinc C (k := 5) [(5, .int (v5_21 + 1)), (4, .int r2.1), (0, .ref (Y 0)), (1, .ref (Q 0)), (2, .int a1), (3, .int a2)] dX5_findWay_61 rfl rfl (by decide) rfl 64 rfl ?_
            refine vv_goto C 21 dX5_findWay_64 (by decide) ?_
            refine vv_lv [2, 3, 4, 5, 1, 0] [(0, .ref (Y 0)), (1, .ref (Q 0)), (2, .int a1), (3, .int a2), (4, .int r2.1), (5, .int (v5_21 + 1))] rfl ?_
            exact ih21 r2.2.1 r2.2.2 r2.1 (v5_21 + 1) _ h kk21
  obtain ⟨r3, hr3, h⟩ := bnd_s h
  refine L21 FU r1 (wr Y_reached 0 a1) 1 0 r3 hr3 ?_
  refine vv_aload_n C dX5_findWay_67 rfl 0 rfl 68 rfl ?_
  refine vv_get C (q0 := 0) (ci := 5) (k := 1) kinX5_findWay_X5 rfl rfl (by decide) kwX5_findWay_1 rfl rfl dX5_findWay_68 71 rfl ?_
  refine vv_iload_n C dX5_findWay_71 rfl 1 rfl 72 rfl ?_
  obtain ⟨hi, h⟩ := chk_s h
  refine vv_iald C (q0 := 2) rfl hi dX5_findWay_72 73 rfl ?_
  refine vv_if_lt C 80 76 dX5_findWay_73 (by decide) rfl (fun hc => ?_) (fun hc => ?_)
  · replace h := ite_t hc h
    refine vv_iconst C (v := 0) dX5_findWay_80 (by decide) 81 rfl ?_
    obtain ⟨hz, h⟩ := chkZ_s h
    obtain rfl := Option.some.inj h
    exact ret _ _ hz dX5_findWay_81
  · replace h := ite_f hc h
    refine vv_iconst C (v := 1) dX5_findWay_76 (by decide) 77 rfl ?_
    refine vv_goto C 81 dX5_findWay_77 (by decide) ?_
    obtain ⟨hz, h⟩ := chkZ_s h
    obtain rfl := Option.some.inj h
    exact ret _ _ hz dX5_findWay_81
abbrev wX5_useWay (c : Nat → ClassId) (Y : Nat → Nat) (Q : Nat → Nat) (Y_used : Nat → Int32) (Y_cameBy : Nat → Int32) (Q_number : Int32) (Q_first : Nat → Int32) (Q_second : Nat → Int32) : va_W := [(Y 0, .inr (5, [.ref (Y 1), .ref (Y 2), .ref (Y 3), .ref (Y 4)])), aI c (Y 1) 48 Y_used, aI c (Y 2) 24 Y_cameBy, (Q 0, .inr (2, [.ref (Q 1), .ref (Q 2), .ref (Q 3), .ref (Q 4), .int Q_number])), aI c (Q 1) 48 Q_first, aI c (Q 2) 48 Q_second]
abbrev rmX5_useWay : Room := { frames := 1, cells := 0, slots := 0, locals := 23 }
theorem yd_X5_useWay : yX5_useWay.cls = RX5 ∧ yX5_useWay.cls ≠ "java/lang/invoke/MethodHandle" ∧ yX5_useWay.cls ≠ "java/lang/invoke/VarHandle" ∧ (parseMethodDescriptor yX5_useWay.desc).map (fun d => d.parameters.length) = some 3 := by decide +kernel
theorem kwX5_useWay_1 : Cond.fieldLink RX5 15 "BarrelRaft$Ways" "cameBy" "[I" ∈ wsX5_useWay := List.mem_of_getElem? (i := 1) rfl
set_option maxRecDepth 20000 in
theorem kinX5_useWay_X5 : ∀ w ∈ u_ws RX5 TX5 4, w ∈ wsX5_useWay := by decide +kernel
theorem kwX5_useWay_2 : Cond.fieldLink RX5 9 "BarrelRaft$Ways" "used" "[I" ∈ wsX5_useWay := List.mem_of_getElem? (i := 2) rfl
def jX5_useWay_L6 (Y_cameBy : Nat → Int32) (Q_first : Nat → Int32) (Q_second : Nat → Int32) (u2 : Int32) (n : Nat) (Y_used_6 : Nat → Int32) (v4_6 : Int32) (v5_6 : Int32) : Option ((Nat → Int32)) :=
  match n with
  | 0 => none
  | n + 1 => (if 24 ≤ v5_6 then some Y_used_6 else (if v4_6 < 0 then some Y_used_6 else (if v4_6 = u2 then some Y_used_6 else chk 24 v4_6 (jn (fun (x50 : Int32) => (if x50 < 0 then jX5_useWay_L6 Y_cameBy Q_first Q_second u2 n Y_used_6 x50 (v5_6 + 1) else chk 48 (rd Y_cameBy v4_6) (bnd (jX5_direction Q_first (rd Y_cameBy v4_6) x50) (fun r1 => chk 48 (rd Y_cameBy v4_6) (jX5_useWay_L6 Y_cameBy Q_first Q_second u2 n (wr Y_used_6 (rd Y_cameBy v4_6) ((rd Y_used_6 (rd Y_cameBy v4_6)) + r1)) x50 (v5_6 + 1)))))) (fun k50 => if rd Y_cameBy v4_6 < 0 then k50 (-1) else bnd (jX2_leadsTo Q_first Q_second (rd Y_cameBy v4_6) v4_6) (fun r2 => k50 r2))))))
def jX5_useWay (Y_used : Nat → Int32) (Y_cameBy : Nat → Int32) (Q_first : Nat → Int32) (Q_second : Nat → Int32) (a1 : Int32) (a2 : Int32) : Option ((Nat → Int32)) :=
  bnd (jX5_useWay_L6 Y_cameBy Q_first Q_second a1 FU Y_used a2 0) (fun r3 => some r3)
set_option maxHeartbeats 4000000 in
set_option maxRecDepth 100000 in
theorem mt_X5_useWay (l : Launch) (D : va_G) (c : Nat → ClassId) (Y : Nat → Nat) (Q : Nat → Nat) (Y_used : Nat → Int32) (Y_cameBy : Nat → Int32) (Q_number : Int32) (Q_first : Nat → Int32) (Q_second : Nat → Int32) (a1 : Int32) (a2 : Int32) (q0 : (Nat → Int32)) (h : jX5_useWay Y_used Y_cameBy Q_first Q_second a1 a2 = some q0) : DTv l yX5_useWay wsX5_useWay rmX5_useWay D c (wX5_useWay c Y Q Y_used Y_cameBy Q_number Q_first Q_second) [.ref (Y 0), .ref (Q 0), .int a1, .int a2] (wX5_useWay c Y Q q0 Y_cameBy Q_number Q_first Q_second) 0 0 := by
  refine DTv_of (cc := cX5_useWay) (nL := 8) RX5 rfl (by decide) rfl (Nat.le_of_ble_eq_true rfl) (fun g C ret => ?_)
  unfold jX5_useWay at h
  refine vv_lv [0, 1, 2, 3] [(0, .ref (Y 0)), (1, .ref (Q 0)), (2, .int a1), (3, .int a2)] rfl ?_
  refine vv_iload_n C dX5_useWay_0 rfl 3 rfl 1 rfl ?_
  refine vv_istore C [(4, .int a2), (0, .ref (Y 0)), (1, .ref (Q 0)), (2, .int a1), (3, .int a2)] dX5_useWay_1 (by decide) rfl 3 rfl ?_
  refine vv_iconst C (v := 0) dX5_useWay_3 (by decide) 4 rfl ?_
  refine vv_istore C [(5, .int 0), (4, .int a2), (0, .ref (Y 0)), (1, .ref (Q 0)), (2, .int a1), (3, .int a2)] dX5_useWay_4 (by decide) rfl 6 rfl ?_
  refine vv_lv [2, 3, 4, 1, 0] [(0, .ref (Y 0)), (1, .ref (Q 0)), (2, .int a1), (4, .int a2), (5, .int 0)] rfl ?_
  have L6 : ∀ (n : Nat) (Y_used_6 : Nat → Int32) (v4_6 : Int32) (v5_6 : Int32) (q6 : (Nat → Int32)), jX5_useWay_L6 Y_cameBy Q_first Q_second a1 n Y_used_6 v4_6 v5_6 = some q6 → (VV g D 8 0 0 (wX5_useWay c Y Q q6 Y_cameBy Q_number Q_first Q_second) [] 86 []) → VV g D 8 0 0 (wX5_useWay c Y Q Y_used_6 Y_cameBy Q_number Q_first Q_second) [(0, .ref (Y 0)), (1, .ref (Q 0)), (2, .int a1), (4, .int v4_6), (5, .int v5_6)] 6 [] := by
    intro n
    induction n with
    | zero =>
      intro Y_used_6 v4_6 v5_6 q6 h _
      rw [jX5_useWay_L6] at h
      cases h
    | succ n ih6 =>
      intro Y_used_6 v4_6 v5_6 q6 h kk6
      rw [jX5_useWay_L6] at h
      refine vv_iload C dX5_useWay_6 4 rfl 8 rfl ?_
      refine vv_bipush C (v := 24) dX5_useWay_8 (by decide) 10 rfl ?_
      refine vv_icmp_ge C 86 13 dX5_useWay_10 (by decide) rfl (fun hc => ?_) (fun hc => ?_)
      · replace h := ite_t hc h
        refine vv_lv [] [] rfl ?_
        obtain rfl := Option.some.inj h
        exact kk6
      · replace h := ite_f hc h
        refine vv_iload C dX5_useWay_13 3 rfl 15 rfl ?_
        refine vv_if_lt C 86 18 dX5_useWay_15 (by decide) rfl (fun hc => ?_) (fun hc => ?_)
        · replace h := ite_t hc h
          refine vv_lv [] [] rfl ?_
          obtain rfl := Option.some.inj h
          exact kk6
        · replace h := ite_f hc h
          refine vv_iload C dX5_useWay_18 3 rfl 20 rfl ?_
          refine vv_iload_n C dX5_useWay_20 rfl 2 rfl 21 rfl ?_
          refine vv_icmp_eq C 86 24 dX5_useWay_21 (by decide) rfl (fun hc => ?_) (fun hc => ?_)
          · replace h := ite_t hc h
            refine vv_lv [] [] rfl ?_
            obtain rfl := Option.some.inj h
            exact kk6
          · replace h := ite_f hc h
            refine vv_aload_n C dX5_useWay_24 rfl 0 rfl 25 rfl ?_
            refine vv_get C (q0 := 0) (ci := 5) (k := 1) kinX5_useWay_X5 rfl rfl (by decide) kwX5_useWay_1 rfl rfl dX5_useWay_25 28 rfl ?_
            refine vv_iload C dX5_useWay_28 3 rfl 30 rfl ?_
            obtain ⟨hi, h⟩ := chk_s h
            refine vv_iald C (q0 := 2) rfl hi dX5_useWay_30 31 rfl ?_
            refine vv_istore C [(6, .int (rd Y_cameBy v4_6)), (0, .ref (Y 0)), (1, .ref (Q 0)), (2, .int a1), (4, .int v4_6), (5, .int v5_6)] dX5_useWay_31 (by decide) rfl 33 rfl ?_
            refine vv_iload C dX5_useWay_33 0 rfl 35 rfl ?_
            obtain ⟨k50, hk50, h⟩ := jn_s h
            have J50 : ∀ (x50 : Int32), k50 x50 = some q6 → VV g D 8 0 0 (wX5_useWay c Y Q Y_used_6 Y_cameBy Q_number Q_first Q_second) [(0, .ref (Y 0)), (1, .ref (Q 0)), (2, .int a1), (5, .int v5_6), (6, .int (rd Y_cameBy v4_6))] 50 [.int x50] := by
              intro x50 h
              replace h := jn_u hk50 h
              refine vv_istore C [(7, .int x50), (0, .ref (Y 0)), (1, .ref (Q 0)), (2, .int a1), (5, .int v5_6), (6, .int (rd Y_cameBy v4_6))] dX5_useWay_50 (by decide) rfl 52 rfl ?_
              refine vv_iload C dX5_useWay_52 0 rfl 54 rfl ?_
              refine vv_if_lt C 76 57 dX5_useWay_54 (by decide) rfl (fun hc => ?_) (fun hc => ?_)
              · replace h := ite_t hc h
                refine vv_iload C dX5_useWay_76 0 rfl 78 rfl ?_
                refine vv_istore C [(4, .int x50), (7, .int x50), (0, .ref (Y 0)), (1, .ref (Q 0)), (2, .int a1), (5, .int v5_6), (6, .int (rd Y_cameBy v4_6))] dX5_useWay_78 (by decide) rfl 80 rfl ?_
                refine vv_iinc C (k := 5) [(5, .int (v5_6 + 1)), (4, .int x50), (7, .int x50), (0, .ref (Y 0)), (1, .ref (Q 0)), (2, .int a1), (6, .int (rd Y_cameBy v4_6))] dX5_useWay_80 rfl rfl (by decide) rfl 83 rfl ?_
                refine vv_goto C 6 dX5_useWay_83 (by decide) ?_
                refine vv_lv [3, 4, 5, 1, 0] [(0, .ref (Y 0)), (1, .ref (Q 0)), (2, .int a1), (4, .int x50), (5, .int (v5_6 + 1))] rfl ?_
                exact ih6 Y_used_6 x50 (v5_6 + 1) _ h kk6
              · replace h := ite_f hc h
                refine vv_aload_n C dX5_useWay_57 rfl 1 rfl 58 rfl ?_
                refine vv_get C (q0 := 0) (ci := 5) (k := 0) kinX5_useWay_X5 rfl rfl (by decide) kwX5_useWay_2 rfl rfl dX5_useWay_58 61 rfl ?_
                refine vv_iload C dX5_useWay_61 5 rfl 63 rfl ?_
                refine vv_dup2 C dX5_useWay_63 rfl rfl 64 rfl ?_
                obtain ⟨hi, h⟩ := chk_s h
                refine vv_iald C (q0 := 1) rfl hi dX5_useWay_64 65 rfl ?_
                refine vv_aload_n C dX5_useWay_65 rfl 1 rfl 66 rfl ?_
                refine vv_aload_n C dX5_useWay_66 rfl 2 rfl 67 rfl ?_
                refine vv_iload C dX5_useWay_67 5 rfl 69 rfl ?_
                refine vv_iload C dX5_useWay_69 0 rfl 71 rfl ?_
                obtain ⟨r1, hr1, h⟩ := bnd_s h
                refine vv_callVi C (fun l => mt_X5_direction l D c Y Q Q_number Q_first (rd Y_cameBy v4_6) x50 r1 hr1) gX5_useWay_X5_direction rfl rfl rfl yd_X5_direction ⟨Nat.le_of_ble_eq_true rfl, Nat.le_of_ble_eq_true rfl⟩ [0, 3, 4] rfl (by decide) 0 rfl rfl (wX5_useWay c Y Q Y_used_6 Y_cameBy Q_number Q_first Q_second) [(true, 0), (false, 1), (false, 2), (true, 1), (true, 2), (false, 5)] rfl (by decide) rfl rfl [.int (rd Y_used_6 (rd Y_cameBy v4_6)), .int (rd Y_cameBy v4_6), .ref (Y 1)] rfl (Nat.le_of_ble_eq_true rfl) ⟨Nat.le_of_ble_eq_true rfl, Nat.le_of_ble_eq_true rfl⟩ dX5_useWay_71 74 0 0 rfl ⟨rfl, rfl⟩ ?_
                refine vv_iadd C dX5_useWay_74 75 rfl ?_
                obtain ⟨hi, h⟩ := chk_s h
                refine vv_iast C (q0 := 1) (wX5_useWay c Y Q (wr Y_used_6 (rd Y_cameBy v4_6) ((rd Y_used_6 (rd Y_cameBy v4_6)) + r1)) Y_cameBy Q_number Q_first Q_second) rfl hi rfl dX5_useWay_75 76 rfl ?_
                refine vv_iload C dX5_useWay_76 0 rfl 78 rfl ?_
                refine vv_istore C [(4, .int x50), (7, .int x50), (0, .ref (Y 0)), (1, .ref (Q 0)), (2, .int a1), (5, .int v5_6), (6, .int (rd Y_cameBy v4_6))] dX5_useWay_78 (by decide) rfl 80 rfl ?_
                refine vv_iinc C (k := 5) [(5, .int (v5_6 + 1)), (4, .int x50), (7, .int x50), (0, .ref (Y 0)), (1, .ref (Q 0)), (2, .int a1), (6, .int (rd Y_cameBy v4_6))] dX5_useWay_80 rfl rfl (by decide) rfl 83 rfl ?_
                refine vv_goto C 6 dX5_useWay_83 (by decide) ?_
                refine vv_lv [3, 4, 5, 1, 0] [(0, .ref (Y 0)), (1, .ref (Q 0)), (2, .int a1), (4, .int x50), (5, .int (v5_6 + 1))] rfl ?_
                exact ih6 (wr Y_used_6 (rd Y_cameBy v4_6) ((rd Y_used_6 (rd Y_cameBy v4_6)) + r1)) x50 (v5_6 + 1) _ h kk6
            refine vv_if_lt C 49 38 dX5_useWay_35 (by decide) rfl (fun hc => ?_) (fun hc => ?_)
            · replace h := ite_t hc h
              refine vv_iconst C (v := (-1)) dX5_useWay_49 (by decide) 50 rfl ?_
              refine vv_lv [1, 2, 3, 5, 0] [(0, .ref (Y 0)), (1, .ref (Q 0)), (2, .int a1), (5, .int v5_6), (6, .int (rd Y_cameBy v4_6))] rfl ?_
              exact J50 (-1) h
            · replace h := ite_f hc h
              refine vv_aload_n C dX5_useWay_38 rfl 2 rfl 39 rfl ?_
              refine vv_iload C dX5_useWay_39 0 rfl 41 rfl ?_
              refine vv_iload C dX5_useWay_41 4 rfl 43 rfl ?_
              obtain ⟨r2, hr2, h⟩ := bnd_s h
              refine vv_callVi C (fun l => mt_X2_leadsTo l D c Q Q_number Q_first Q_second (rd Y_cameBy v4_6) v4_6 r2 hr2) gX5_useWay_X2_leadsTo rfl rfl rfl yd_X2_leadsTo ⟨Nat.le_of_ble_eq_true rfl, Nat.le_of_ble_eq_true rfl⟩ [3, 4, 5] rfl (by decide) 0 rfl rfl (wX5_useWay c Y Q Y_used_6 Y_cameBy Q_number Q_first Q_second) [(false, 0), (false, 1), (false, 2), (true, 0), (true, 1), (true, 2)] rfl (by decide) rfl rfl [] rfl (Nat.le_of_ble_eq_true rfl) ⟨Nat.le_of_ble_eq_true rfl, Nat.le_of_ble_eq_true rfl⟩ dX5_useWay_43 46 0 0 rfl ⟨rfl, rfl⟩ ?_
              refine vv_goto C 50 dX5_useWay_46 (by decide) ?_
              refine vv_lv [1, 2, 3, 5, 0] [(0, .ref (Y 0)), (1, .ref (Q 0)), (2, .int a1), (5, .int v5_6), (6, .int (rd Y_cameBy v4_6))] rfl ?_
              exact J50 r2 h
  obtain ⟨r3, hr3, h⟩ := bnd_s h
  refine L6 FU Y_used a2 0 r3 hr3 ?_
  obtain rfl := Option.some.inj h
  exact ret _ _ dX5_useWay_86
abbrev wX5_countApart (c : Nat → ClassId) (Y : Nat → Nat) (Q : Nat → Nat) (Y_used : Nat → Int32) (Y_cameBy : Nat → Int32) (Y_reached : Nat → Int32) (Q_number : Int32) (Q_first : Nat → Int32) (Q_second : Nat → Int32) : va_W := [(Y 0, .inr (5, [.ref (Y 1), .ref (Y 2), .ref (Y 3), .ref (Y 4)])), aI c (Y 1) 48 Y_used, aI c (Y 2) 24 Y_cameBy, aI c (Y 3) 24 Y_reached, (Q 0, .inr (2, [.ref (Q 1), .ref (Q 2), .ref (Q 3), .ref (Q 4), .int Q_number])), aI c (Q 1) 48 Q_first, aI c (Q 2) 48 Q_second]
abbrev rmX5_countApart : Room := { frames := 3, cells := 0, slots := 0, locals := 75 }
theorem yd_X5_countApart : yX5_countApart.cls = RX5 ∧ yX5_countApart.cls ≠ "java/lang/invoke/MethodHandle" ∧ yX5_countApart.cls ≠ "java/lang/invoke/VarHandle" ∧ (parseMethodDescriptor yX5_countApart.desc).map (fun d => d.parameters.length) = some 3 := by decide +kernel
theorem kwX5_countApart_1 : Cond.fieldLink RX5 9 "BarrelRaft$Ways" "used" "[I" ∈ wsX5_countApart := List.mem_of_getElem? (i := 1) rfl
set_option maxRecDepth 20000 in
theorem kinX5_countApart_X5 : ∀ w ∈ u_ws RX5 TX5 4, w ∈ wsX5_countApart := by decide +kernel
theorem kwX5_countApart_2 : Cond.fieldLink RX5 30 "BarrelRaft$Lashings" "number" "I" ∈ wsX5_countApart := List.mem_of_getElem? (i := 2) rfl
set_option maxRecDepth 20000 in
theorem kinX5_countApart_X2 : ∀ w ∈ u_ws RX2 TX2 5, w ∈ wsX5_countApart := by decide +kernel
def jX5_countApart_L11 (Q_number : Int32) (Q_first : Nat → Int32) (Q_second : Nat → Int32) (u2 : Int32) (u3 : Int32) (n : Nat) (Y_used_11 : Nat → Int32) (Y_cameBy_11 : Nat → Int32) (Y_reached_11 : Nat → Int32) (v4_11 : Int32) : Option ((Nat → Int32) × (Nat → Int32) × (Nat → Int32) × Int32) :=
  match n with
  | 0 => none
  | n + 1 => (if Q_number ≤ v4_11 then some (Y_used_11, Y_cameBy_11, Y_reached_11, v4_11) else bnd (jX5_findWay Y_used_11 Y_cameBy_11 Y_reached_11 Q_number Q_first Q_second u2 u3) (fun r2 => (if r2.1 = 0 then some (Y_used_11, r2.2.1, r2.2.2, v4_11) else bnd (jX5_useWay Y_used_11 r2.2.1 Q_first Q_second u2 u3) (fun r3 => jX5_countApart_L11 Q_number Q_first Q_second u2 u3 n r3 r2.2.1 r2.2.2 (v4_11 + 1)))))
def jX5_countApart (Y_used : Nat → Int32) (Y_cameBy : Nat → Int32) (Y_reached : Nat → Int32) (Q_number : Int32) (Q_first : Nat → Int32) (Q_second : Nat → Int32) (a1 : Int32) (a2 : Int32) : Option (Int32 × (Nat → Int32) × (Nat → Int32) × (Nat → Int32)) :=
  bnd (jJ7_fill_53178 48 Y_used 0) (fun r1 => bnd (jX5_countApart_L11 Q_number Q_first Q_second a1 a2 FU r1 Y_cameBy Y_reached 0) (fun r4 => some (r4.2.2.2, r4.1, r4.2.1, r4.2.2.1)))
set_option maxHeartbeats 4000000 in
set_option maxRecDepth 100000 in
theorem mt_X5_countApart (l : Launch) (D : va_G) (c : Nat → ClassId) (Y : Nat → Nat) (Q : Nat → Nat) (Y_used : Nat → Int32) (Y_cameBy : Nat → Int32) (Y_reached : Nat → Int32) (Q_number : Int32) (Q_first : Nat → Int32) (Q_second : Nat → Int32) (a1 : Int32) (a2 : Int32) (q0 : Int32 × (Nat → Int32) × (Nat → Int32) × (Nat → Int32)) (h : jX5_countApart Y_used Y_cameBy Y_reached Q_number Q_first Q_second a1 a2 = some q0) : DTi l yX5_countApart wsX5_countApart rmX5_countApart D c (wX5_countApart c Y Q Y_used Y_cameBy Y_reached Q_number Q_first Q_second) [.ref (Y 0), .ref (Q 0), .int a1, .int a2] q0.1 (wX5_countApart c Y Q q0.2.1 q0.2.2.1 q0.2.2.2 Q_number Q_first Q_second) 0 0 := by
  refine DTi_of (cc := cX5_countApart) (nL := 5) RX5 rfl (by decide) rfl (Nat.le_of_ble_eq_true rfl) (fun g C ret => ?_)
  unfold jX5_countApart at h
  refine vv_lv [0, 1, 2, 3] [(0, .ref (Y 0)), (1, .ref (Q 0)), (2, .int a1), (3, .int a2)] rfl ?_
  refine vv_aload_n C dX5_countApart_0 rfl 0 rfl 1 rfl ?_
  refine vv_get C (q0 := 0) (ci := 5) (k := 0) kinX5_countApart_X5 rfl rfl (by decide) kwX5_countApart_1 rfl rfl dX5_countApart_1 4 rfl ?_
  refine vv_iconst C (v := 0) dX5_countApart_4 (by decide) 5 rfl ?_
  obtain ⟨r1, hr1, h⟩ := bnd_s h
  refine vv_callSv C (fun l => mt_J7_fill_53178 l D c (fun _ => (Y 1)) 48 Y_used 0 r1 hr1) gX5_countApart_J7_fill_53178 rfl rfl rfl yd_J7_fill_53178 ⟨Nat.le_of_ble_eq_true rfl, Nat.le_of_ble_eq_true rfl⟩ [1] rfl (by decide) (wX5_countApart c Y Q r1 Y_cameBy Y_reached Q_number Q_first Q_second) [(false, 0), (true, 0), (false, 2), (false, 3), (false, 4), (false, 5), (false, 6)] rfl (by decide) rfl rfl [] rfl (Nat.le_of_ble_eq_true rfl) ⟨Nat.le_of_ble_eq_true rfl, Nat.le_of_ble_eq_true rfl⟩ dX5_countApart_5 8 0 0 rfl ⟨rfl, rfl⟩ ?_
  refine vv_iconst C (v := 0) dX5_countApart_8 (by decide) 9 rfl ?_
  refine vv_istore C [(4, .int 0), (0, .ref (Y 0)), (1, .ref (Q 0)), (2, .int a1), (3, .int a2)] dX5_countApart_9 (by decide) rfl 11 rfl ?_
  refine vv_lv [1, 2, 3, 4, 0] [(0, .ref (Y 0)), (1, .ref (Q 0)), (2, .int a1), (3, .int a2), (4, .int 0)] rfl ?_
  have L11 : ∀ (n : Nat) (Y_used_11 : Nat → Int32) (Y_cameBy_11 : Nat → Int32) (Y_reached_11 : Nat → Int32) (v4_11 : Int32) (q11 : (Nat → Int32) × (Nat → Int32) × (Nat → Int32) × Int32), jX5_countApart_L11 Q_number Q_first Q_second a1 a2 n Y_used_11 Y_cameBy_11 Y_reached_11 v4_11 = some q11 → (VV g D 5 0 0 (wX5_countApart c Y Q q11.1 q11.2.1 q11.2.2.1 Q_number Q_first Q_second) [(4, .int q11.2.2.2)] 43 []) → VV g D 5 0 0 (wX5_countApart c Y Q Y_used_11 Y_cameBy_11 Y_reached_11 Q_number Q_first Q_second) [(0, .ref (Y 0)), (1, .ref (Q 0)), (2, .int a1), (3, .int a2), (4, .int v4_11)] 11 [] := by
    intro n
    induction n with
    | zero =>
      intro Y_used_11 Y_cameBy_11 Y_reached_11 v4_11 q11 h _
      rw [jX5_countApart_L11] at h
      cases h
    | succ n ih11 =>
      intro Y_used_11 Y_cameBy_11 Y_reached_11 v4_11 q11 h kk11
      rw [jX5_countApart_L11] at h
      refine vv_iload C dX5_countApart_11 4 rfl 13 rfl ?_
      refine vv_aload_n C dX5_countApart_13 rfl 1 rfl 14 rfl ?_
      refine vv_get C (q0 := 4) (ci := 2) (k := 4) kinX5_countApart_X2 rfl rfl (by decide) kwX5_countApart_2 rfl rfl dX5_countApart_14 17 rfl ?_
      refine vv_icmp_ge C 43 20 dX5_countApart_17 (by decide) rfl (fun hc => ?_) (fun hc => ?_)
      · replace h := ite_t hc h
        refine vv_lv [4] [(4, .int v4_11)] rfl ?_
        obtain rfl := Option.some.inj h
        exact kk11
      · replace h := ite_f hc h
        refine vv_aload_n C dX5_countApart_20 rfl 0 rfl 21 rfl ?_
        refine vv_aload_n C dX5_countApart_21 rfl 1 rfl 22 rfl ?_
        refine vv_iload_n C dX5_countApart_22 rfl 2 rfl 23 rfl ?_
        refine vv_iload_n C dX5_countApart_23 rfl 3 rfl 24 rfl ?_
        obtain ⟨r2, hr2, h⟩ := bnd_s h
        refine vv_callVi C (fun l => mt_X5_findWay l D c Y Q Y_used_11 Y_cameBy_11 Y_reached_11 Q_number Q_first Q_second a1 a2 r2 hr2) gX5_countApart_X5_findWay rfl rfl rfl yd_X5_findWay ⟨Nat.le_of_ble_eq_true rfl, Nat.le_of_ble_eq_true rfl⟩ [0, 1, 2, 3, 4, 5, 6] rfl (by decide) 0 rfl rfl (wX5_countApart c Y Q Y_used_11 r2.2.1 r2.2.2 Q_number Q_first Q_second) [(true, 0), (true, 1), (true, 2), (true, 3), (true, 4), (true, 5), (true, 6)] rfl (by decide) rfl rfl [] rfl (Nat.le_of_ble_eq_true rfl) ⟨Nat.le_of_ble_eq_true rfl, Nat.le_of_ble_eq_true rfl⟩ dX5_countApart_24 27 0 0 rfl ⟨rfl, rfl⟩ ?_
        refine vv_if_eq C 43 30 dX5_countApart_27 (by decide) rfl (fun hc => ?_) (fun hc => ?_)
        · replace h := ite_t hc h
          refine vv_lv [4] [(4, .int v4_11)] rfl ?_
          obtain rfl := Option.some.inj h
          exact kk11
        · replace h := ite_f hc h
          refine vv_aload_n C dX5_countApart_30 rfl 0 rfl 31 rfl ?_
          refine vv_aload_n C dX5_countApart_31 rfl 1 rfl 32 rfl ?_
          refine vv_iload_n C dX5_countApart_32 rfl 2 rfl 33 rfl ?_
          refine vv_iload_n C dX5_countApart_33 rfl 3 rfl 34 rfl ?_
          obtain ⟨r3, hr3, h⟩ := bnd_s h
          refine vv_callVv C (fun l => mt_X5_useWay l D c Y Q Y_used_11 r2.2.1 Q_number Q_first Q_second a1 a2 r3 hr3) gX5_countApart_X5_useWay rfl rfl rfl yd_X5_useWay ⟨Nat.le_of_ble_eq_true rfl, Nat.le_of_ble_eq_true rfl⟩ [0, 1, 2, 4, 5, 6] rfl (by decide) 0 rfl rfl (wX5_countApart c Y Q r3 r2.2.1 r2.2.2 Q_number Q_first Q_second) [(true, 0), (true, 1), (true, 2), (false, 3), (true, 3), (true, 4), (true, 5)] rfl (by decide) rfl rfl [] rfl (Nat.le_of_ble_eq_true rfl) ⟨Nat.le_of_ble_eq_true rfl, Nat.le_of_ble_eq_true rfl⟩ dX5_countApart_34 37 0 0 rfl ⟨rfl, rfl⟩ ?_
          refine vv_iinc C (k := 4) [(4, .int (v4_11 + 1)), (0, .ref (Y 0)), (1, .ref (Q 0)), (2, .int a1), (3, .int a2)] dX5_countApart_37 rfl rfl (by decide) rfl 40 rfl ?_
          refine vv_goto C 11 dX5_countApart_40 (by decide) ?_
          refine vv_lv [1, 2, 3, 4, 0] [(0, .ref (Y 0)), (1, .ref (Q 0)), (2, .int a1), (3, .int a2), (4, .int (v4_11 + 1))] rfl ?_
          exact ih11 r3 r2.2.1 r2.2.2 (v4_11 + 1) _ h kk11
  obtain ⟨r4, hr4, h⟩ := bnd_s h
  refine L11 FU r1 Y_cameBy Y_reached 0 r4 hr4 ?_
  refine vv_iload C dX5_countApart_43 0 rfl 45 rfl ?_
  obtain rfl := Option.some.inj h
  exact ret _ _ dX5_countApart_45
abbrev wX5_strengthen (c : Nat → ClassId) (Y : Nat → Nat) (Q : Nat → Nat) (Y_best : Nat → Int32) (Q_number : Int32) (Q_first : Nat → Int32) (Q_second : Nat → Int32) (Q_strength : Nat → Int32) (Q_wear : Nat → Int32) : va_W := [(Y 0, .inr (5, [.ref (Y 1), .ref (Y 2), .ref (Y 3), .ref (Y 4)])), aI c (Y 4) 24 Y_best, (Q 0, .inr (2, [.ref (Q 1), .ref (Q 2), .ref (Q 3), .ref (Q 4), .int Q_number])), aI c (Q 1) 48 Q_first, aI c (Q 2) 48 Q_second, aI c (Q 3) 48 Q_strength, aI c (Q 4) 48 Q_wear]
abbrev rmX5_strengthen : Room := { frames := 1, cells := 0, slots := 0, locals := 21 }
theorem yd_X5_strengthen : yX5_strengthen.cls = RX5 ∧ yX5_strengthen.cls ≠ "java/lang/invoke/MethodHandle" ∧ yX5_strengthen.cls ≠ "java/lang/invoke/VarHandle" ∧ (parseMethodDescriptor yX5_strengthen.desc).map (fun d => d.parameters.length) = some 1 := by decide +kernel
theorem kwX5_strengthen_1 : Cond.fieldLink RX5 30 "BarrelRaft$Lashings" "number" "I" ∈ wsX5_strengthen := List.mem_of_getElem? (i := 1) rfl
set_option maxRecDepth 20000 in
theorem kinX5_strengthen_X2 : ∀ w ∈ u_ws RX2 TX2 5, w ∈ wsX5_strengthen := by decide +kernel
theorem kwX5_strengthen_2 : Cond.fieldLink RX5 56 "BarrelRaft$Lashings" "first" "[I" ∈ wsX5_strengthen := List.mem_of_getElem? (i := 2) rfl
theorem kwX5_strengthen_3 : Cond.fieldLink RX5 63 "BarrelRaft$Lashings" "second" "[I" ∈ wsX5_strengthen := List.mem_of_getElem? (i := 3) rfl
theorem kwX5_strengthen_4 : Cond.fieldLink RX5 21 "BarrelRaft$Ways" "best" "[I" ∈ wsX5_strengthen := List.mem_of_getElem? (i := 4) rfl
set_option maxRecDepth 20000 in
theorem kinX5_strengthen_X5 : ∀ w ∈ u_ws RX5 TX5 4, w ∈ wsX5_strengthen := by decide +kernel
theorem kwX5_strengthen_5 : Cond.methodLink RX5 70 Lib.Math.max.name ∈ wsX5_strengthen := List.mem_of_getElem? (i := 5) rfl
theorem kwX5_strengthen_6 : Cond.static Lib.Math.max.name ∈ wsX5_strengthen := List.mem_of_getElem? (i := 6) rfl
theorem kwX5_strengthen_7 : Cond.initialized "java/lang/Math" ∈ wsX5_strengthen := List.mem_of_getElem? (i := 7) rfl
theorem kwX5_strengthen_8 : Cond.code Lib.Math.max.name Lib.Math.max.code 2 (some .int) ∈ wsX5_strengthen := List.mem_of_getElem? (i := 8) rfl
theorem kwX5_strengthen_9 : Cond.methodLink RX5 75 Lib.Math.min.name ∈ wsX5_strengthen := List.mem_of_getElem? (i := 9) rfl
theorem kwX5_strengthen_10 : Cond.static Lib.Math.min.name ∈ wsX5_strengthen := List.mem_of_getElem? (i := 10) rfl
theorem kwX5_strengthen_11 : Cond.code Lib.Math.min.name Lib.Math.min.code 2 (some .int) ∈ wsX5_strengthen := List.mem_of_getElem? (i := 11) rfl
def jX5_strengthen_L4 (Q_number : Int32) (Q_first : Nat → Int32) (Q_second : Nat → Int32) (Q_strength : Nat → Int32) (Q_wear : Nat → Int32) (n : Nat) (Y_best_4 : Nat → Int32) (v2_4 : Int32) (v3_4 : Int32) : Option ((Nat → Int32) × Int32) :=
  match n with
  | 0 => none
  | n + 1 => (if Q_number ≤ v3_4 then some (Y_best_4, v2_4) else chk 48 v3_4 (chk 48 v3_4 (bnd (jX2_left Q_strength Q_wear v3_4) (fun r1 => chk 24 (rd Q_first v3_4) (chk 24 (rd Q_second v3_4) (chk 24 (rd Q_first v3_4) (jn (fun (x78 : Int32 × (Nat → Int32)) => chk 24 (rd Q_second v3_4) ((if mmin r1 (mmax (rd Y_best_4 (rd Q_first v3_4)) (rd Y_best_4 (rd Q_second v3_4))) ≤ rd x78.2 (rd Q_second v3_4) then jX5_strengthen_L4 Q_number Q_first Q_second Q_strength Q_wear n x78.2 x78.1 (v3_4 + 1) else chk 24 (rd Q_second v3_4) (jX5_strengthen_L4 Q_number Q_first Q_second Q_strength Q_wear n (wr x78.2 (rd Q_second v3_4) (mmin r1 (mmax (rd Y_best_4 (rd Q_first v3_4)) (rd Y_best_4 (rd Q_second v3_4))))) 1 (v3_4 + 1))))) (fun k78 => if mmin r1 (mmax (rd Y_best_4 (rd Q_first v3_4)) (rd Y_best_4 (rd Q_second v3_4))) ≤ rd Y_best_4 (rd Q_first v3_4) then k78 (v2_4, Y_best_4) else chk 24 (rd Q_first v3_4) (k78 (1, wr Y_best_4 (rd Q_first v3_4) (mmin r1 (mmax (rd Y_best_4 (rd Q_first v3_4)) (rd Y_best_4 (rd Q_second v3_4))))))))))))))
def jX5_strengthen (Y_best : Nat → Int32) (Q_number : Int32) (Q_first : Nat → Int32) (Q_second : Nat → Int32) (Q_strength : Nat → Int32) (Q_wear : Nat → Int32) : Option (Int32 × (Nat → Int32)) :=
  bnd (jX5_strengthen_L4 Q_number Q_first Q_second Q_strength Q_wear FU Y_best 0 0) (fun r2 => chkZ r2.2 (some (r2.2, r2.1)))
set_option maxHeartbeats 4000000 in
set_option maxRecDepth 100000 in
theorem mt_X5_strengthen (l : Launch) (D : va_G) (c : Nat → ClassId) (Y : Nat → Nat) (Q : Nat → Nat) (Y_best : Nat → Int32) (Q_number : Int32) (Q_first : Nat → Int32) (Q_second : Nat → Int32) (Q_strength : Nat → Int32) (Q_wear : Nat → Int32) (q0 : Int32 × (Nat → Int32)) (h : jX5_strengthen Y_best Q_number Q_first Q_second Q_strength Q_wear = some q0) : DTi l yX5_strengthen wsX5_strengthen rmX5_strengthen D c (wX5_strengthen c Y Q Y_best Q_number Q_first Q_second Q_strength Q_wear) [.ref (Y 0), .ref (Q 0)] q0.1 (wX5_strengthen c Y Q q0.2 Q_number Q_first Q_second Q_strength Q_wear) 0 0 := by
  refine DTz_of (cc := cX5_strengthen) (nL := 7) RX5 rfl (by decide) rfl (Nat.le_of_ble_eq_true rfl) (fun g C ret => ?_)
  unfold jX5_strengthen at h
  refine vv_lv [0, 1] [(0, .ref (Y 0)), (1, .ref (Q 0))] rfl ?_
  refine vv_iconst C (v := 0) dX5_strengthen_0 (by decide) 1 rfl ?_
  refine vv_istore_n C [(2, .int 0), (0, .ref (Y 0)), (1, .ref (Q 0))] dX5_strengthen_1 rfl (by decide) rfl 2 rfl ?_
  refine vv_iconst C (v := 0) dX5_strengthen_2 (by decide) 3 rfl ?_
  refine vv_istore_n C [(3, .int 0), (2, .int 0), (0, .ref (Y 0)), (1, .ref (Q 0))] dX5_strengthen_3 rfl (by decide) rfl 4 rfl ?_
  refine vv_lv [2, 3, 1, 0] [(0, .ref (Y 0)), (1, .ref (Q 0)), (2, .int 0), (3, .int 0)] rfl ?_
  have L4 : ∀ (n : Nat) (Y_best_4 : Nat → Int32) (v2_4 : Int32) (v3_4 : Int32) (q4 : (Nat → Int32) × Int32), jX5_strengthen_L4 Q_number Q_first Q_second Q_strength Q_wear n Y_best_4 v2_4 v3_4 = some q4 → (VV g D 7 0 0 (wX5_strengthen c Y Q q4.1 Q_number Q_first Q_second Q_strength Q_wear) [(2, .int q4.2)] 107 []) → VV g D 7 0 0 (wX5_strengthen c Y Q Y_best_4 Q_number Q_first Q_second Q_strength Q_wear) [(0, .ref (Y 0)), (1, .ref (Q 0)), (2, .int v2_4), (3, .int v3_4)] 4 [] := by
    intro n
    induction n with
    | zero =>
      intro Y_best_4 v2_4 v3_4 q4 h _
      rw [jX5_strengthen_L4] at h
      cases h
    | succ n ih4 =>
      intro Y_best_4 v2_4 v3_4 q4 h kk4
      rw [jX5_strengthen_L4] at h
      refine vv_iload_n C dX5_strengthen_4 rfl 3 rfl 5 rfl ?_
      refine vv_aload_n C dX5_strengthen_5 rfl 1 rfl 6 rfl ?_
      refine vv_get C (q0 := 2) (ci := 2) (k := 4) kinX5_strengthen_X2 rfl rfl (by decide) kwX5_strengthen_1 rfl rfl dX5_strengthen_6 9 rfl ?_
      refine vv_icmp_ge C 107 12 dX5_strengthen_9 (by decide) rfl (fun hc => ?_) (fun hc => ?_)
      · replace h := ite_t hc h
        refine vv_lv [2] [(2, .int v2_4)] rfl ?_
        obtain rfl := Option.some.inj h
        exact kk4
      · replace h := ite_f hc h
        refine vv_aload_n C dX5_strengthen_12 rfl 1 rfl 13 rfl ?_
        refine vv_get C (q0 := 2) (ci := 2) (k := 0) kinX5_strengthen_X2 rfl rfl (by decide) kwX5_strengthen_2 rfl rfl dX5_strengthen_13 16 rfl ?_
        refine vv_iload_n C dX5_strengthen_16 rfl 3 rfl 17 rfl ?_
        obtain ⟨hi, h⟩ := chk_s h
        refine vv_iald C (q0 := 3) rfl hi dX5_strengthen_17 18 rfl ?_
        refine vv_istore C [(4, .int (rd Q_first v3_4)), (0, .ref (Y 0)), (1, .ref (Q 0)), (2, .int v2_4), (3, .int v3_4)] dX5_strengthen_18 (by decide) rfl 20 rfl ?_
        refine vv_aload_n C dX5_strengthen_20 rfl 2 rfl 21 rfl ?_
        refine vv_get C (q0 := 2) (ci := 2) (k := 1) kinX5_strengthen_X2 rfl rfl (by decide) kwX5_strengthen_3 rfl rfl dX5_strengthen_21 24 rfl ?_
        refine vv_iload_n C dX5_strengthen_24 rfl 4 rfl 25 rfl ?_
        obtain ⟨hi, h⟩ := chk_s h
        refine vv_iald C (q0 := 4) rfl hi dX5_strengthen_25 26 rfl ?_
        refine vv_istore C [(5, .int (rd Q_second v3_4)), (4, .int (rd Q_first v3_4)), (0, .ref (Y 0)), (1, .ref (Q 0)), (2, .int v2_4), (3, .int v3_4)] dX5_strengthen_26 (by decide) rfl 28 rfl ?_
        refine vv_aload_n C dX5_strengthen_28 rfl 3 rfl 29 rfl ?_
        refine vv_iload_n C dX5_strengthen_29 rfl 5 rfl 30 rfl ?_
        obtain ⟨r1, hr1, h⟩ := bnd_s h
        refine vv_callVi C (fun l => mt_X2_left l D c Q Q_number Q_strength Q_wear v3_4 r1 hr1) gX5_strengthen_X2_left rfl rfl rfl yd_X2_left ⟨Nat.le_of_ble_eq_true rfl, Nat.le_of_ble_eq_true rfl⟩ [2, 5, 6] rfl (by decide) 0 rfl rfl (wX5_strengthen c Y Q Y_best_4 Q_number Q_first Q_second Q_strength Q_wear) [(false, 0), (false, 1), (true, 0), (false, 3), (false, 4), (true, 1), (true, 2)] rfl (by decide) rfl rfl [] rfl (Nat.le_of_ble_eq_true rfl) ⟨Nat.le_of_ble_eq_true rfl, Nat.le_of_ble_eq_true rfl⟩ dX5_strengthen_30 33 0 0 rfl ⟨rfl, rfl⟩ ?_
        refine vv_aload_n C dX5_strengthen_33 rfl 2 rfl 34 rfl ?_
        refine vv_get C (q0 := 0) (ci := 5) (k := 3) kinX5_strengthen_X5 rfl rfl (by decide) kwX5_strengthen_4 rfl rfl dX5_strengthen_34 37 rfl ?_
        refine vv_iload C dX5_strengthen_37 1 rfl 39 rfl ?_
        obtain ⟨hi, h⟩ := chk_s h
        refine vv_iald C (q0 := 1) rfl hi dX5_strengthen_39 40 rfl ?_
        refine vv_aload_n C dX5_strengthen_40 rfl 2 rfl 41 rfl ?_
        refine vv_get C (q0 := 0) (ci := 5) (k := 3) kinX5_strengthen_X5 rfl rfl (by decide) kwX5_strengthen_4 rfl rfl dX5_strengthen_41 44 rfl ?_
        refine vv_iload C dX5_strengthen_44 0 rfl 46 rfl ?_
        obtain ⟨hi, h⟩ := chk_s h
        refine vv_iald C (q0 := 1) rfl hi dX5_strengthen_46 47 rfl ?_
        refine vv_mmax C kwX5_strengthen_5 kwX5_strengthen_6 kwX5_strengthen_7 kwX5_strengthen_8 ⟨Nat.le_of_ble_eq_true rfl, Nat.le_of_ble_eq_true rfl⟩ ⟨Nat.le_of_ble_eq_true rfl, Nat.le_of_ble_eq_true rfl⟩ dX5_strengthen_47 50 rfl ?_
        refine vv_mmin C kwX5_strengthen_9 kwX5_strengthen_10 kwX5_strengthen_7 kwX5_strengthen_11 ⟨Nat.le_of_ble_eq_true rfl, Nat.le_of_ble_eq_true rfl⟩ ⟨Nat.le_of_ble_eq_true rfl, Nat.le_of_ble_eq_true rfl⟩ dX5_strengthen_50 53 rfl ?_
        refine vv_istore C [(6, .int (mmin r1 (mmax (rd Y_best_4 (rd Q_first v3_4)) (rd Y_best_4 (rd Q_second v3_4))))), (5, .int (rd Q_second v3_4)), (4, .int (rd Q_first v3_4)), (0, .ref (Y 0)), (1, .ref (Q 0)), (2, .int v2_4), (3, .int v3_4)] dX5_strengthen_53 (by decide) rfl 55 rfl ?_
        refine vv_iload C dX5_strengthen_55 0 rfl 57 rfl ?_
        refine vv_aload_n C dX5_strengthen_57 rfl 3 rfl 58 rfl ?_
        refine vv_get C (q0 := 0) (ci := 5) (k := 3) kinX5_strengthen_X5 rfl rfl (by decide) kwX5_strengthen_4 rfl rfl dX5_strengthen_58 61 rfl ?_
        refine vv_iload C dX5_strengthen_61 2 rfl 63 rfl ?_
        obtain ⟨hi, h⟩ := chk_s h
        refine vv_iald C (q0 := 1) rfl hi dX5_strengthen_63 64 rfl ?_
        obtain ⟨k78, hk78, h⟩ := jn_s h
        have J78 : ∀ (x78 : Int32 × (Nat → Int32)), k78 x78 = some q4 → VV g D 7 0 0 (wX5_strengthen c Y Q x78.2 Q_number Q_first Q_second Q_strength Q_wear) [(0, .ref (Y 0)), (1, .ref (Q 0)), (2, .int x78.1), (3, .int v3_4), (5, .int (rd Q_second v3_4)), (6, .int (mmin r1 (mmax (rd Y_best_4 (rd Q_first v3_4)) (rd Y_best_4 (rd Q_second v3_4)))))] 78 [] := by
          intro x78 h
          replace h := jn_u hk78 h
          refine vv_iload C dX5_strengthen_78 5 rfl 80 rfl ?_
          refine vv_aload_n C dX5_strengthen_80 rfl 0 rfl 81 rfl ?_
          refine vv_get C (q0 := 0) (ci := 5) (k := 3) kinX5_strengthen_X5 rfl rfl (by decide) kwX5_strengthen_4 rfl rfl dX5_strengthen_81 84 rfl ?_
          refine vv_iload C dX5_strengthen_84 4 rfl 86 rfl ?_
          obtain ⟨hi, h⟩ := chk_s h
          refine vv_iald C (q0 := 1) rfl hi dX5_strengthen_86 87 rfl ?_
          refine vv_icmp_le C 101 90 dX5_strengthen_87 (by decide) rfl (fun hc => ?_) (fun hc => ?_)
          · replace h := ite_t hc h
            refine vv_iinc C (k := 3) [(3, .int (v3_4 + 1)), (0, .ref (Y 0)), (1, .ref (Q 0)), (2, .int x78.1), (5, .int (rd Q_second v3_4)), (6, .int (mmin r1 (mmax (rd Y_best_4 (rd Q_first v3_4)) (rd Y_best_4 (rd Q_second v3_4)))))] dX5_strengthen_101 rfl rfl (by decide) rfl 104 rfl ?_
            refine vv_goto C 4 dX5_strengthen_104 (by decide) ?_
            refine vv_lv [1, 2, 3, 0] [(0, .ref (Y 0)), (1, .ref (Q 0)), (2, .int x78.1), (3, .int (v3_4 + 1))] rfl ?_
            exact ih4 x78.2 x78.1 (v3_4 + 1) _ h kk4
          · replace h := ite_f hc h
            refine vv_aload_n C dX5_strengthen_90 rfl 0 rfl 91 rfl ?_
            refine vv_get C (q0 := 0) (ci := 5) (k := 3) kinX5_strengthen_X5 rfl rfl (by decide) kwX5_strengthen_4 rfl rfl dX5_strengthen_91 94 rfl ?_
            refine vv_iload C dX5_strengthen_94 4 rfl 96 rfl ?_
            refine vv_iload C dX5_strengthen_96 5 rfl 98 rfl ?_
            obtain ⟨hi, h⟩ := chk_s h
            refine vv_iast C (q0 := 1) (wX5_strengthen c Y Q (wr x78.2 (rd Q_second v3_4) (mmin r1 (mmax (rd Y_best_4 (rd Q_first v3_4)) (rd Y_best_4 (rd Q_second v3_4))))) Q_number Q_first Q_second Q_strength Q_wear) rfl hi rfl dX5_strengthen_98 99 rfl ?_
            refine vv_iconst C (v := 1) dX5_strengthen_99 (by decide) 100 rfl ?_
            refine vv_istore_n C [(2, .int 1), (0, .ref (Y 0)), (1, .ref (Q 0)), (3, .int v3_4), (5, .int (rd Q_second v3_4)), (6, .int (mmin r1 (mmax (rd Y_best_4 (rd Q_first v3_4)) (rd Y_best_4 (rd Q_second v3_4)))))] dX5_strengthen_100 rfl (by decide) rfl 101 rfl ?_
            refine vv_iinc C (k := 3) [(3, .int (v3_4 + 1)), (2, .int 1), (0, .ref (Y 0)), (1, .ref (Q 0)), (5, .int (rd Q_second v3_4)), (6, .int (mmin r1 (mmax (rd Y_best_4 (rd Q_first v3_4)) (rd Y_best_4 (rd Q_second v3_4)))))] dX5_strengthen_101 rfl rfl (by decide) rfl 104 rfl ?_
            refine vv_goto C 4 dX5_strengthen_104 (by decide) ?_
            refine vv_lv [2, 3, 1, 0] [(0, .ref (Y 0)), (1, .ref (Q 0)), (2, .int 1), (3, .int (v3_4 + 1))] rfl ?_
            exact ih4 (wr x78.2 (rd Q_second v3_4) (mmin r1 (mmax (rd Y_best_4 (rd Q_first v3_4)) (rd Y_best_4 (rd Q_second v3_4))))) 1 (v3_4 + 1) _ h kk4
        refine vv_icmp_le C 78 67 dX5_strengthen_64 (by decide) rfl (fun hc => ?_) (fun hc => ?_)
        · replace h := ite_t hc h
          refine vv_lv [3, 4, 5, 6, 1, 0] [(0, .ref (Y 0)), (1, .ref (Q 0)), (2, .int v2_4), (3, .int v3_4), (5, .int (rd Q_second v3_4)), (6, .int (mmin r1 (mmax (rd Y_best_4 (rd Q_first v3_4)) (rd Y_best_4 (rd Q_second v3_4)))))] rfl ?_
          exact J78 (v2_4, Y_best_4) h
        · replace h := ite_f hc h
          refine vv_aload_n C dX5_strengthen_67 rfl 3 rfl 68 rfl ?_
          refine vv_get C (q0 := 0) (ci := 5) (k := 3) kinX5_strengthen_X5 rfl rfl (by decide) kwX5_strengthen_4 rfl rfl dX5_strengthen_68 71 rfl ?_
          refine vv_iload C dX5_strengthen_71 2 rfl 73 rfl ?_
          refine vv_iload C dX5_strengthen_73 0 rfl 75 rfl ?_
          obtain ⟨hi, h⟩ := chk_s h
          refine vv_iast C (q0 := 1) (wX5_strengthen c Y Q (wr Y_best_4 (rd Q_first v3_4) (mmin r1 (mmax (rd Y_best_4 (rd Q_first v3_4)) (rd Y_best_4 (rd Q_second v3_4))))) Q_number Q_first Q_second Q_strength Q_wear) rfl hi rfl dX5_strengthen_75 76 rfl ?_
          refine vv_iconst C (v := 1) dX5_strengthen_76 (by decide) 77 rfl ?_
          refine vv_istore_n C [(2, .int 1), (6, .int (mmin r1 (mmax (rd Y_best_4 (rd Q_first v3_4)) (rd Y_best_4 (rd Q_second v3_4))))), (5, .int (rd Q_second v3_4)), (4, .int (rd Q_first v3_4)), (0, .ref (Y 0)), (1, .ref (Q 0)), (3, .int v3_4)] dX5_strengthen_77 rfl (by decide) rfl 78 rfl ?_
          refine vv_lv [4, 5, 0, 6, 2, 1] [(0, .ref (Y 0)), (1, .ref (Q 0)), (2, .int 1), (3, .int v3_4), (5, .int (rd Q_second v3_4)), (6, .int (mmin r1 (mmax (rd Y_best_4 (rd Q_first v3_4)) (rd Y_best_4 (rd Q_second v3_4)))))] rfl ?_
          exact J78 (1, wr Y_best_4 (rd Q_first v3_4) (mmin r1 (mmax (rd Y_best_4 (rd Q_first v3_4)) (rd Y_best_4 (rd Q_second v3_4))))) h
  obtain ⟨r2, hr2, h⟩ := bnd_s h
  refine L4 FU Y_best 0 0 r2 hr2 ?_
  refine vv_iload_n C dX5_strengthen_107 rfl 0 rfl 108 rfl ?_
  obtain ⟨hz, h⟩ := chkZ_s h
  obtain rfl := Option.some.inj h
  exact ret _ _ hz dX5_strengthen_108
abbrev wX5_strongest (c : Nat → ClassId) (Y : Nat → Nat) (Q : Nat → Nat) (Y_best : Nat → Int32) (Q_number : Int32) (Q_first : Nat → Int32) (Q_second : Nat → Int32) (Q_strength : Nat → Int32) (Q_wear : Nat → Int32) : va_W := [(Y 0, .inr (5, [.ref (Y 1), .ref (Y 2), .ref (Y 3), .ref (Y 4)])), aI c (Y 4) 24 Y_best, (Q 0, .inr (2, [.ref (Q 1), .ref (Q 2), .ref (Q 3), .ref (Q 4), .int Q_number])), aI c (Q 1) 48 Q_first, aI c (Q 2) 48 Q_second, aI c (Q 3) 48 Q_strength, aI c (Q 4) 48 Q_wear]
abbrev rmX5_strongest : Room := { frames := 2, cells := 0, slots := 0, locals := 47 }
theorem yd_X5_strongest : yX5_strongest.cls = RX5 ∧ yX5_strongest.cls ≠ "java/lang/invoke/MethodHandle" ∧ yX5_strongest.cls ≠ "java/lang/invoke/VarHandle" ∧ (parseMethodDescriptor yX5_strongest.desc).map (fun d => d.parameters.length) = some 3 := by decide +kernel
theorem kwX5_strongest_1 : Cond.fieldLink RX5 21 "BarrelRaft$Ways" "best" "[I" ∈ wsX5_strongest := List.mem_of_getElem? (i := 1) rfl
set_option maxRecDepth 20000 in
theorem kinX5_strongest_X5 : ∀ w ∈ u_ws RX5 TX5 4, w ∈ wsX5_strongest := by decide +kernel
def jX5_strongest_L22 (Q_number : Int32) (Q_first : Nat → Int32) (Q_second : Nat → Int32) (Q_strength : Nat → Int32) (Q_wear : Nat → Int32) (n : Nat) (Y_best_22 : Nat → Int32) (v4_22 : Int32) (v5_22 : Int32) : Option ((Nat → Int32)) :=
  match n with
  | 0 => none
  | n + 1 => (if 24 ≤ v5_22 then some Y_best_22 else (if v4_22 = 0 then some Y_best_22 else bnd (jX5_strengthen Y_best_22 Q_number Q_first Q_second Q_strength Q_wear) (fun r2 => jX5_strongest_L22 Q_number Q_first Q_second Q_strength Q_wear n r2.2 r2.1 (v5_22 + 1))))
def jX5_strongest (Y_best : Nat → Int32) (Q_number : Int32) (Q_first : Nat → Int32) (Q_second : Nat → Int32) (Q_strength : Nat → Int32) (Q_wear : Nat → Int32) (a1 : Int32) (a2 : Int32) : Option (Int32 × (Nat → Int32)) :=
  bnd (jJ7_fill_53178 24 Y_best 0) (fun r1 => chk 24 a1 (bnd (jX5_strongest_L22 Q_number Q_first Q_second Q_strength Q_wear FU (wr r1 a1 50) 1 0) (fun r3 => chk 24 a2 (some (rd r3 a2, r3)))))
set_option maxHeartbeats 4000000 in
set_option maxRecDepth 100000 in
theorem mt_X5_strongest (l : Launch) (D : va_G) (c : Nat → ClassId) (Y : Nat → Nat) (Q : Nat → Nat) (Y_best : Nat → Int32) (Q_number : Int32) (Q_first : Nat → Int32) (Q_second : Nat → Int32) (Q_strength : Nat → Int32) (Q_wear : Nat → Int32) (a1 : Int32) (a2 : Int32) (q0 : Int32 × (Nat → Int32)) (h : jX5_strongest Y_best Q_number Q_first Q_second Q_strength Q_wear a1 a2 = some q0) : DTi l yX5_strongest wsX5_strongest rmX5_strongest D c (wX5_strongest c Y Q Y_best Q_number Q_first Q_second Q_strength Q_wear) [.ref (Y 0), .ref (Q 0), .int a1, .int a2] q0.1 (wX5_strongest c Y Q q0.2 Q_number Q_first Q_second Q_strength Q_wear) 0 0 := by
  refine DTi_of (cc := cX5_strongest) (nL := 6) RX5 rfl (by decide) rfl (Nat.le_of_ble_eq_true rfl) (fun g C ret => ?_)
  unfold jX5_strongest at h
  refine vv_lv [0, 1, 2, 3] [(0, .ref (Y 0)), (1, .ref (Q 0)), (2, .int a1), (3, .int a2)] rfl ?_
  refine vv_aload_n C dX5_strongest_0 rfl 0 rfl 1 rfl ?_
  refine vv_get C (q0 := 0) (ci := 5) (k := 3) kinX5_strongest_X5 rfl rfl (by decide) kwX5_strongest_1 rfl rfl dX5_strongest_1 4 rfl ?_
  refine vv_iconst C (v := 0) dX5_strongest_4 (by decide) 5 rfl ?_
  obtain ⟨r1, hr1, h⟩ := bnd_s h
  refine vv_callSv C (fun l => mt_J7_fill_53178 l D c (fun _ => (Y 4)) 24 Y_best 0 r1 hr1) gX5_strongest_J7_fill_53178 rfl rfl rfl yd_J7_fill_53178 ⟨Nat.le_of_ble_eq_true rfl, Nat.le_of_ble_eq_true rfl⟩ [1] rfl (by decide) (wX5_strongest c Y Q r1 Q_number Q_first Q_second Q_strength Q_wear) [(false, 0), (true, 0), (false, 2), (false, 3), (false, 4), (false, 5), (false, 6)] rfl (by decide) rfl rfl [] rfl (Nat.le_of_ble_eq_true rfl) ⟨Nat.le_of_ble_eq_true rfl, Nat.le_of_ble_eq_true rfl⟩ dX5_strongest_5 8 0 0 rfl ⟨rfl, rfl⟩ ?_
  refine vv_aload_n C dX5_strongest_8 rfl 0 rfl 9 rfl ?_
  refine vv_get C (q0 := 0) (ci := 5) (k := 3) kinX5_strongest_X5 rfl rfl (by decide) kwX5_strongest_1 rfl rfl dX5_strongest_9 12 rfl ?_
  refine vv_iload_n C dX5_strongest_12 rfl 2 rfl 13 rfl ?_
  refine vv_bipush C (v := 50) dX5_strongest_13 (by decide) 15 rfl ?_
  obtain ⟨hi, h⟩ := chk_s h
  refine vv_iast C (q0 := 1) (wX5_strongest c Y Q (wr r1 a1 50) Q_number Q_first Q_second Q_strength Q_wear) rfl hi rfl dX5_strongest_15 16 rfl ?_
  refine vv_iconst C (v := 1) dX5_strongest_16 (by decide) 17 rfl ?_
  refine vv_istore C [(4, .int 1), (0, .ref (Y 0)), (1, .ref (Q 0)), (2, .int a1), (3, .int a2)] dX5_strongest_17 (by decide) rfl 19 rfl ?_
  refine vv_iconst C (v := 0) dX5_strongest_19 (by decide) 20 rfl ?_
  refine vv_istore C [(5, .int 0), (4, .int 1), (0, .ref (Y 0)), (1, .ref (Q 0)), (2, .int a1), (3, .int a2)] dX5_strongest_20 (by decide) rfl 22 rfl ?_
  refine vv_lv [2, 3, 5, 1, 0] [(0, .ref (Y 0)), (1, .ref (Q 0)), (3, .int a2), (4, .int 1), (5, .int 0)] rfl ?_
  have L22 : ∀ (n : Nat) (Y_best_22 : Nat → Int32) (v4_22 : Int32) (v5_22 : Int32) (q22 : (Nat → Int32)), jX5_strongest_L22 Q_number Q_first Q_second Q_strength Q_wear n Y_best_22 v4_22 v5_22 = some q22 → (VV g D 6 0 0 (wX5_strongest c Y Q q22 Q_number Q_first Q_second Q_strength Q_wear) [(0, .ref (Y 0)), (3, .int a2)] 47 []) → VV g D 6 0 0 (wX5_strongest c Y Q Y_best_22 Q_number Q_first Q_second Q_strength Q_wear) [(0, .ref (Y 0)), (1, .ref (Q 0)), (3, .int a2), (4, .int v4_22), (5, .int v5_22)] 22 [] := by
    intro n
    induction n with
    | zero =>
      intro Y_best_22 v4_22 v5_22 q22 h _
      rw [jX5_strongest_L22] at h
      cases h
    | succ n ih22 =>
      intro Y_best_22 v4_22 v5_22 q22 h kk22
      rw [jX5_strongest_L22] at h
      refine vv_iload C dX5_strongest_22 4 rfl 24 rfl ?_
      refine vv_bipush C (v := 24) dX5_strongest_24 (by decide) 26 rfl ?_
      refine vv_icmp_ge C 47 29 dX5_strongest_26 (by decide) rfl (fun hc => ?_) (fun hc => ?_)
      · replace h := ite_t hc h
        refine vv_lv [0, 2] [(0, .ref (Y 0)), (3, .int a2)] rfl ?_
        obtain rfl := Option.some.inj h
        exact kk22
      · replace h := ite_f hc h
        refine vv_iload C dX5_strongest_29 3 rfl 31 rfl ?_
        refine vv_if_eq C 47 34 dX5_strongest_31 (by decide) rfl (fun hc => ?_) (fun hc => ?_)
        · replace h := ite_t hc h
          refine vv_lv [0, 2] [(0, .ref (Y 0)), (3, .int a2)] rfl ?_
          obtain rfl := Option.some.inj h
          exact kk22
        · replace h := ite_f hc h
          refine vv_aload_n C dX5_strongest_34 rfl 0 rfl 35 rfl ?_
          refine vv_aload_n C dX5_strongest_35 rfl 1 rfl 36 rfl ?_
          obtain ⟨r2, hr2, h⟩ := bnd_s h
          refine vv_callVi C (fun l => mt_X5_strengthen l D c Y Q Y_best_22 Q_number Q_first Q_second Q_strength Q_wear r2 hr2) gX5_strongest_X5_strengthen rfl rfl rfl yd_X5_strengthen ⟨Nat.le_of_ble_eq_true rfl, Nat.le_of_ble_eq_true rfl⟩ [0, 1, 2, 3, 4, 5, 6] rfl (by decide) 0 rfl rfl (wX5_strongest c Y Q r2.2 Q_number Q_first Q_second Q_strength Q_wear) [(true, 0), (true, 1), (true, 2), (true, 3), (true, 4), (true, 5), (true, 6)] rfl (by decide) rfl rfl [] rfl (Nat.le_of_ble_eq_true rfl) ⟨Nat.le_of_ble_eq_true rfl, Nat.le_of_ble_eq_true rfl⟩ dX5_strongest_36 39 0 0 rfl ⟨rfl, rfl⟩ ?_
          refine vv_istore C [(4, .int r2.1), (0, .ref (Y 0)), (1, .ref (Q 0)), (3, .int a2), (5, .int v5_22)] dX5_strongest_39 (by decide) rfl 41 rfl ?_
          refine vv_iinc C (k := 4) [(5, .int (v5_22 + 1)), (4, .int r2.1), (0, .ref (Y 0)), (1, .ref (Q 0)), (3, .int a2)] dX5_strongest_41 rfl rfl (by decide) rfl 44 rfl ?_
          refine vv_goto C 22 dX5_strongest_44 (by decide) ?_
          refine vv_lv [2, 3, 4, 1, 0] [(0, .ref (Y 0)), (1, .ref (Q 0)), (3, .int a2), (4, .int r2.1), (5, .int (v5_22 + 1))] rfl ?_
          exact ih22 r2.2 r2.1 (v5_22 + 1) _ h kk22
  obtain ⟨r3, hr3, h⟩ := bnd_s h
  refine L22 FU (wr r1 a1 50) 1 0 r3 hr3 ?_
  refine vv_aload_n C dX5_strongest_47 rfl 0 rfl 48 rfl ?_
  refine vv_get C (q0 := 0) (ci := 5) (k := 3) kinX5_strongest_X5 rfl rfl (by decide) kwX5_strongest_1 rfl rfl dX5_strongest_48 51 rfl ?_
  refine vv_iload_n C dX5_strongest_51 rfl 1 rfl 52 rfl ?_
  obtain ⟨hi, h⟩ := chk_s h
  refine vv_iald C (q0 := 1) rfl hi dX5_strongest_52 53 rfl ?_
  obtain rfl := Option.some.inj h
  exact ret _ _ dX5_strongest_53
