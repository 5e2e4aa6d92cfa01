abbrev wX7_isIn (c : Nat → ClassId)  : va_W := []
abbrev rmX7_isIn : Room := { frames := 0, cells := 0, slots := 0, locals := 0 }
theorem yd_X7_isIn : yX7_isIn.cls ≠ "java/lang/invoke/MethodHandle" ∧ yX7_isIn.cls ≠ "java/lang/invoke/VarHandle" ∧ (parseMethodDescriptor yX7_isIn.desc).map (fun d => d.parameters.length) = some 3 := by decide +kernel
def jX7_isIn (a1 : Int32) (a2 : Int32) (a3 : Int32) : Option (Int32) :=
  (if a1 < a2 then chkZ 0 (some 0) else (if a3 < a1 then chkZ 0 (some 0) else chkZ 1 (some 1)))
set_option maxHeartbeats 4000000 in
set_option maxRecDepth 100000 in
theorem mt_X7_isIn (l : Launch) (D : va_G) (c : Nat → ClassId) (a1 : Int32) (a2 : Int32) (a3 : Int32) (q0 : Int32) (h : jX7_isIn a1 a2 a3 = some q0) : DTi l yX7_isIn wsX7_isIn rmX7_isIn D c (wX7_isIn c ) [.int a1, .int a2, .int a3] q0 (wX7_isIn c ) 0 0 := by
  refine DTz_of (cc := cX7_isIn) (nL := 3) RX7 rfl (by decide) rfl (Nat.le_of_ble_eq_true rfl) (fun g C ret => ?_)
  unfold jX7_isIn at h
  refine vv_lv [0, 1, 2] [(0, .int a1), (1, .int a2), (2, .int a3)] rfl ?_
  refine vv_iload_n C dX7_isIn_0 rfl 0 rfl 1 rfl ?_
  refine vv_iload_n C dX7_isIn_1 rfl 1 rfl 2 rfl ?_
  refine vv_icmp_lt C 14 5 dX7_isIn_2 (by decide) rfl (fun hc => ?_) (fun hc => ?_)
  · replace h := ite_t hc h
    refine vv_iconst C (v := 0) dX7_isIn_14 (by decide) 15 rfl ?_
    obtain ⟨hz, h⟩ := chkZ_s h
    obtain rfl := Option.some.inj h
    exact ret _ _ hz dX7_isIn_15
  · replace h := ite_f hc h
    refine vv_iload_n C dX7_isIn_5 rfl 0 rfl 6 rfl ?_
    refine vv_iload_n C dX7_isIn_6 rfl 2 rfl 7 rfl ?_
    refine vv_icmp_gt C 14 10 dX7_isIn_7 (by decide) rfl (fun hc => ?_) (fun hc => ?_)
    · replace h := ite_t hc h
      refine vv_iconst C (v := 0) dX7_isIn_14 (by decide) 15 rfl ?_
      obtain ⟨hz, h⟩ := chkZ_s h
      obtain rfl := Option.some.inj h
      exact ret _ _ hz dX7_isIn_15
    · replace h := ite_f hc h
      refine vv_iconst C (v := 1) dX7_isIn_10 (by decide) 11 rfl ?_
      refine vv_goto C 15 dX7_isIn_11 (by decide) ?_
      obtain ⟨hz, h⟩ := chkZ_s h
      obtain rfl := Option.some.inj h
      exact ret _ _ hz dX7_isIn_15
abbrev wX7_fail (c : Nat → ClassId) (M : Nat → Nat) (M_thrown : Int32) (M_waters : Int32) (M_windX : Int32) (M_windY : Int32) (M_barrels : Int32) (M_crew : Int32) : va_W := [(M 0, .inr (7, [.int M_thrown, .int M_waters, .ref (M 1), .int M_windX, .int M_windY, .int M_barrels, .ref (M 2), .int M_crew, .ref (M 3), .ref (M 4), .ref (M 5), .ref (M 6), .ref (M 7), .ref (M 8), .ref (M 9), .ref (M 10), .ref (M 11), .ref (M 12)]))]
abbrev rmX7_fail : Room := { frames := 0, cells := 0, slots := 0, locals := 0 }
theorem yd_X7_fail : yX7_fail.cls = RX7 ∧ yX7_fail.cls ≠ "java/lang/invoke/MethodHandle" ∧ yX7_fail.cls ≠ "java/lang/invoke/VarHandle" ∧ (parseMethodDescriptor yX7_fail.desc).map (fun d => d.parameters.length) = some 1 := by decide +kernel
theorem kwX7_fail_1 : Cond.fieldLink RX7 47 "BarrelRaftModel" "thrown" "I" ∈ wsX7_fail := List.mem_of_getElem? (i := 1) rfl
set_option maxRecDepth 20000 in
theorem kinX7_fail_X7 : ∀ w ∈ u_ws RX7 TX7 18, w ∈ wsX7_fail := by decide +kernel
def jX7_fail (M_thrown : Int32) (a1 : Int32) : Option (Int32 × Int32) :=
  some (0, a1)
set_option maxHeartbeats 4000000 in
set_option maxRecDepth 100000 in
theorem mt_X7_fail (l : Launch) (D : va_G) (c : Nat → ClassId) (M : Nat → Nat) (M_thrown : Int32) (M_waters : Int32) (M_windX : Int32) (M_windY : Int32) (M_barrels : Int32) (M_crew : Int32) (a1 : Int32) (q0 : Int32 × Int32) (h : jX7_fail M_thrown a1 = some q0) : DTi l yX7_fail wsX7_fail rmX7_fail D c (wX7_fail c M M_thrown M_waters M_windX M_windY M_barrels M_crew) [.ref (M 0), .int a1] q0.1 (wX7_fail c M q0.2 M_waters M_windX M_windY M_barrels M_crew) 0 0 := by
  refine DTi_of (cc := cX7_fail) (nL := 2) RX7 rfl (by decide) rfl (Nat.le_of_ble_eq_true rfl) (fun g C ret => ?_)
  unfold jX7_fail at h
  refine vv_lv [0, 1] [(0, .ref (M 0)), (1, .int a1)] rfl ?_
  refine vv_aload_n C dX7_fail_0 rfl 0 rfl 1 rfl ?_
  refine vv_iload_n C dX7_fail_1 rfl 1 rfl 2 rfl ?_
  refine vv_put C (q0 := 0) (ci := 7) (k := 0) (ty := .int) (wX7_fail c M a1 M_waters M_windX M_windY M_barrels M_crew) tyX7 tyX7_ok nmX7 kinX7_fail_X7 rfl rfl (by decide) kwX7_fail_1 rfl rfl rfl rfl rfl (Nat.le_of_ble_eq_true rfl) rfl dX7_fail_2 5 rfl ?_
  refine vv_iconst C (v := 0) dX7_fail_5 (by decide) 6 rfl ?_
  obtain rfl := Option.some.inj h
  exact ret _ _ dX7_fail_6
abbrev wX7_fx (c : Nat → ClassId) (M : Nat → Nat) (M_thrown : Int32) (M_waters : Int32) (M_windX : Int32) (M_windY : Int32) (M_barrels : Int32) (M_crew : Int32) (M_fixed : Nat → Int32) : va_W := [(M 0, .inr (7, [.int M_thrown, .int M_waters, .ref (M 1), .int M_windX, .int M_windY, .int M_barrels, .ref (M 2), .int M_crew, .ref (M 3), .ref (M 4), .ref (M 5), .ref (M 6), .ref (M 7), .ref (M 8), .ref (M 9), .ref (M 10), .ref (M 11), .ref (M 12)])), aI c (M 2) 72 M_fixed]
abbrev rmX7_fx : Room := { frames := 0, cells := 0, slots := 0, locals := 0 }
theorem yd_X7_fx : yX7_fx.cls = RX7 ∧ yX7_fx.cls ≠ "java/lang/invoke/MethodHandle" ∧ yX7_fx.cls ≠ "java/lang/invoke/VarHandle" ∧ (parseMethodDescriptor yX7_fx.desc).map (fun d => d.parameters.length) = some 2 := by decide +kernel
theorem kwX7_fx_1 : Cond.fieldLink RX7 13 "BarrelRaftModel" "fixed" "[I" ∈ wsX7_fx := List.mem_of_getElem? (i := 1) rfl
set_option maxRecDepth 20000 in
theorem kinX7_fx_X7 : ∀ w ∈ u_ws RX7 TX7 18, w ∈ wsX7_fx := by decide +kernel
def jX7_fx (M_fixed : Nat → Int32) (a1 : Int32) (a2 : Int32) : Option (Int32) :=
  chk 72 ((3 * a1) + a2) (some (rd M_fixed ((3 * a1) + a2)))
set_option maxHeartbeats 4000000 in
set_option maxRecDepth 100000 in
theorem mt_X7_fx (l : Launch) (D : va_G) (c : Nat → ClassId) (M : Nat → Nat) (M_thrown : Int32) (M_waters : Int32) (M_windX : Int32) (M_windY : Int32) (M_barrels : Int32) (M_crew : Int32) (M_fixed : Nat → Int32) (a1 : Int32) (a2 : Int32) (q0 : Int32) (h : jX7_fx M_fixed a1 a2 = some q0) : DTi l yX7_fx wsX7_fx rmX7_fx D c (wX7_fx c M M_thrown M_waters M_windX M_windY M_barrels M_crew M_fixed) [.ref (M 0), .int a1, .int a2] q0 (wX7_fx c M M_thrown M_waters M_windX M_windY M_barrels M_crew M_fixed) 0 0 := by
  refine DTi_of (cc := cX7_fx) (nL := 3) RX7 rfl (by decide) rfl (Nat.le_of_ble_eq_true rfl) (fun g C ret => ?_)
  unfold jX7_fx at h
  refine vv_lv [0, 1, 2] [(0, .ref (M 0)), (1, .int a1), (2, .int a2)] rfl ?_
  refine vv_aload_n C dX7_fx_0 rfl 0 rfl 1 rfl ?_
  refine vv_get C (q0 := 0) (ci := 7) (k := 6) kinX7_fx_X7 rfl rfl (by decide) kwX7_fx_1 rfl rfl dX7_fx_1 4 rfl ?_
  refine vv_iconst C (v := 3) dX7_fx_4 (by decide) 5 rfl ?_
  refine vv_iload_n C dX7_fx_5 rfl 1 rfl 6 rfl ?_
  refine vv_imul C dX7_fx_6 7 rfl ?_
  refine vv_iload_n C dX7_fx_7 rfl 2 rfl 8 rfl ?_
  refine vv_iadd C dX7_fx_8 9 rfl ?_
  obtain ⟨hi, h⟩ := chk_s h
  refine vv_iald C (q0 := 1) rfl hi dX7_fx_9 10 rfl ?_
  obtain rfl := Option.some.inj h
  exact ret _ _ dX7_fx_10
abbrev wX7_ba (c : Nat → ClassId) (M : Nat → Nat) (M_thrown : Int32) (M_waters : Int32) (M_windX : Int32) (M_windY : Int32) (M_barrels : Int32) (M_crew : Int32) (M_table : Nat → Int32) : va_W := [(M 0, .inr (7, [.int M_thrown, .int M_waters, .ref (M 1), .int M_windX, .int M_windY, .int M_barrels, .ref (M 2), .int M_crew, .ref (M 3), .ref (M 4), .ref (M 5), .ref (M 6), .ref (M 7), .ref (M 8), .ref (M 9), .ref (M 10), .ref (M 11), .ref (M 12)])), aI c (M 3) 120 M_table]
abbrev rmX7_ba : Room := { frames := 0, cells := 0, slots := 0, locals := 0 }
theorem yd_X7_ba : yX7_ba.cls = RX7 ∧ yX7_ba.cls ≠ "java/lang/invoke/MethodHandle" ∧ yX7_ba.cls ≠ "java/lang/invoke/VarHandle" ∧ (parseMethodDescriptor yX7_ba.desc).map (fun d => d.parameters.length) = some 2 := by decide +kernel
theorem kwX7_ba_1 : Cond.fieldLink RX7 16 "BarrelRaftModel" "table" "[I" ∈ wsX7_ba := List.mem_of_getElem? (i := 1) rfl
set_option maxRecDepth 20000 in
theorem kinX7_ba_X7 : ∀ w ∈ u_ws RX7 TX7 18, w ∈ wsX7_ba := by decide +kernel
def jX7_ba (M_table : Nat → Int32) (a1 : Int32) (a2 : Int32) : Option (Int32) :=
  chk 120 ((5 * a1) + a2) (some (rd M_table ((5 * a1) + a2)))
set_option maxHeartbeats 4000000 in
set_option maxRecDepth 100000 in
theorem mt_X7_ba (l : Launch) (D : va_G) (c : Nat → ClassId) (M : Nat → Nat) (M_thrown : Int32) (M_waters : Int32) (M_windX : Int32) (M_windY : Int32) (M_barrels : Int32) (M_crew : Int32) (M_table : Nat → Int32) (a1 : Int32) (a2 : Int32) (q0 : Int32) (h : jX7_ba M_table a1 a2 = some q0) : DTi l yX7_ba wsX7_ba rmX7_ba D c (wX7_ba c M M_thrown M_waters M_windX M_windY M_barrels M_crew M_table) [.ref (M 0), .int a1, .int a2] q0 (wX7_ba c M M_thrown M_waters M_windX M_windY M_barrels M_crew M_table) 0 0 := by
  refine DTi_of (cc := cX7_ba) (nL := 3) RX7 rfl (by decide) rfl (Nat.le_of_ble_eq_true rfl) (fun g C ret => ?_)
  unfold jX7_ba at h
  refine vv_lv [0, 1, 2] [(0, .ref (M 0)), (1, .int a1), (2, .int a2)] rfl ?_
  refine vv_aload_n C dX7_ba_0 rfl 0 rfl 1 rfl ?_
  refine vv_get C (q0 := 0) (ci := 7) (k := 8) kinX7_ba_X7 rfl rfl (by decide) kwX7_ba_1 rfl rfl dX7_ba_1 4 rfl ?_
  refine vv_iconst C (v := 5) dX7_ba_4 (by decide) 5 rfl ?_
  refine vv_iload_n C dX7_ba_5 rfl 1 rfl 6 rfl ?_
  refine vv_imul C dX7_ba_6 7 rfl ?_
  refine vv_iload_n C dX7_ba_7 rfl 2 rfl 8 rfl ?_
  refine vv_iadd C dX7_ba_8 9 rfl ?_
  obtain ⟨hi, h⟩ := chk_s h
  refine vv_iald C (q0 := 1) rfl hi dX7_ba_9 10 rfl ?_
  obtain rfl := Option.some.inj h
  exact ret _ _ dX7_ba_10
abbrev wX7_floats (c : Nat → ClassId) (M : Nat → Nat) (M_thrown : Int32) (M_waters : Int32) (M_windX : Int32) (M_windY : Int32) (M_barrels : Int32) (M_crew : Int32) (M_table : Nat → Int32) : va_W := [(M 0, .inr (7, [.int M_thrown, .int M_waters, .ref (M 1), .int M_windX, .int M_windY, .int M_barrels, .ref (M 2), .int M_crew, .ref (M 3), .ref (M 4), .ref (M 5), .ref (M 6), .ref (M 7), .ref (M 8), .ref (M 9), .ref (M 10), .ref (M 11), .ref (M 12)])), aI c (M 3) 120 M_table]
abbrev rmX7_floats : Room := { frames := 1, cells := 0, slots := 0, locals := 22 }
theorem yd_X7_floats : yX7_floats.cls = RX7 ∧ yX7_floats.cls ≠ "java/lang/invoke/MethodHandle" ∧ yX7_floats.cls ≠ "java/lang/invoke/VarHandle" ∧ (parseMethodDescriptor yX7_floats.desc).map (fun d => d.parameters.length) = some 1 := by decide +kernel
def jX7_floats (M_table : Nat → Int32) (a1 : Int32) : Option (Int32) :=
  bnd (jX7_ba M_table a1 2) (fun r1 => (if r1 = 0 then chkZ 1 (some 1) else chkZ 0 (some 0)))
set_option maxHeartbeats 4000000 in
set_option maxRecDepth 100000 in
theorem mt_X7_floats (l : Launch) (D : va_G) (c : Nat → ClassId) (M : Nat → Nat) (M_thrown : Int32) (M_waters : Int32) (M_windX : Int32) (M_windY : Int32) (M_barrels : Int32) (M_crew : Int32) (M_table : Nat → Int32) (a1 : Int32) (q0 : Int32) (h : jX7_floats M_table a1 = some q0) : DTi l yX7_floats wsX7_floats rmX7_floats D c (wX7_floats c M M_thrown M_waters M_windX M_windY M_barrels M_crew M_table) [.ref (M 0), .int a1] q0 (wX7_floats c M M_thrown M_waters M_windX M_windY M_barrels M_crew M_table) 0 0 := by
  refine DTz_of (cc := cX7_floats) (nL := 2) RX7 rfl (by decide) rfl (Nat.le_of_ble_eq_true rfl) (fun g C ret => ?_)
  unfold jX7_floats at h
  refine vv_lv [0, 1] [(0, .ref (M 0)), (1, .int a1)] rfl ?_
  refine vv_aload_n C dX7_floats_0 rfl 0 rfl 1 rfl ?_
  refine vv_iload_n C dX7_floats_1 rfl 1 rfl 2 rfl ?_
  refine vv_iconst C (v := 2) dX7_floats_2 (by decide) 3 rfl ?_
  obtain ⟨r1, hr1, h⟩ := bnd_s h
  refine vv_callVi C (fun l => mt_X7_ba l D c M M_thrown M_waters M_windX M_windY M_barrels M_crew M_table a1 2 r1 hr1) gX7_floats_X7_ba rfl rfl rfl yd_X7_ba ⟨Nat.le_of_ble_eq_true rfl, Nat.le_of_ble_eq_true rfl⟩ [0, 1] rfl (by decide) 0 rfl rfl (wX7_floats c M M_thrown M_waters M_windX M_windY M_barrels M_crew M_table) [(true, 0), (true, 1)] rfl (by decide) rfl rfl [] rfl (Nat.le_of_ble_eq_true rfl) ⟨Nat.le_of_ble_eq_true rfl, Nat.le_of_ble_eq_true rfl⟩ dX7_floats_3 6 0 0 rfl ⟨rfl, rfl⟩ ?_
  refine vv_if_ne C 13 9 dX7_floats_6 (by decide) rfl (fun hc => ?_) (fun hc => ?_)
  · replace h := ite_f hc h
    refine vv_iconst C (v := 0) dX7_floats_13 (by decide) 14 rfl ?_
    obtain ⟨hz, h⟩ := chkZ_s h
    obtain rfl := Option.some.inj h
    exact ret _ _ hz dX7_floats_14
  · replace h := ite_t hc h
    refine vv_iconst C (v := 1) dX7_floats_9 (by decide) 10 rfl ?_
    refine vv_goto C 14 dX7_floats_10 (by decide) ?_
    obtain ⟨hz, h⟩ := chkZ_s h
    obtain rfl := Option.some.inj h
    exact ret _ _ hz dX7_floats_14
abbrev wX7_addBarrel (c : Nat → ClassId) (M : Nat → Nat) (M_thrown : Int32) (M_waters : Int32) (M_windX : Int32) (M_windY : Int32) (M_barrels : Int32) (M_crew : Int32) (M_fixed : Nat → Int32) (M_table : Nat → Int32) : va_W := [(M 0, .inr (7, [.int M_thrown, .int M_waters, .ref (M 1), .int M_windX, .int M_windY, .int M_barrels, .ref (M 2), .int M_crew, .ref (M 3), .ref (M 4), .ref (M 5), .ref (M 6), .ref (M 7), .ref (M 8), .ref (M 9), .ref (M 10), .ref (M 11), .ref (M 12)])), aI c (M 2) 72 M_fixed, aI c (M 3) 120 M_table]
abbrev rmX7_addBarrel : Room := { frames := 2, cells := 2, slots := 8, locals := 60 }
theorem yd_X7_addBarrel : yX7_addBarrel.cls = RX7 ∧ yX7_addBarrel.cls ≠ "java/lang/invoke/MethodHandle" ∧ yX7_addBarrel.cls ≠ "java/lang/invoke/VarHandle" ∧ (parseMethodDescriptor yX7_addBarrel.desc).map (fun d => d.parameters.length) = some 4 := by decide +kernel
theorem kwX7_addBarrel_1 : Cond.fieldLink RX7 47 "BarrelRaftModel" "thrown" "I" ∈ wsX7_addBarrel := List.mem_of_getElem? (i := 1) rfl
set_option maxRecDepth 20000 in
theorem kinX7_addBarrel_X7 : ∀ w ∈ u_ws RX7 TX7 18, w ∈ wsX7_addBarrel := by decide +kernel
theorem kwX7_addBarrel_2 : Cond.fieldLink RX7 51 "BarrelRaftModel" "barrels" "I" ∈ wsX7_addBarrel := List.mem_of_getElem? (i := 2) rfl
theorem kwX7_addBarrel_3 : Cond.arrayClass .int ∈ wsX7_addBarrel := List.mem_of_getElem? (i := 3) rfl
theorem kwX7_addBarrel_4 : Cond.fieldLink RX7 13 "BarrelRaftModel" "fixed" "[I" ∈ wsX7_addBarrel := List.mem_of_getElem? (i := 4) rfl
theorem kwX7_addBarrel_5 : Cond.methodLink RX7 80 arraycopyName ∈ wsX7_addBarrel := List.mem_of_getElem? (i := 5) rfl
theorem kwX7_addBarrel_6 : Cond.native arraycopyName ∈ wsX7_addBarrel := List.mem_of_getElem? (i := 6) rfl
theorem kwX7_addBarrel_7 : Cond.static arraycopyName ∈ wsX7_addBarrel := List.mem_of_getElem? (i := 7) rfl
theorem kwX7_addBarrel_8 : Cond.initialized "java/lang/System" ∈ wsX7_addBarrel := List.mem_of_getElem? (i := 8) rfl
theorem kwX7_addBarrel_9 : Cond.fieldLink RX7 16 "BarrelRaftModel" "table" "[I" ∈ wsX7_addBarrel := List.mem_of_getElem? (i := 9) rfl
def jX7_addBarrel_L87 (M_fixed : Nat → Int32) (M_table : Nat → Int32) (u5 : Int32) (n : Nat) (v6_87 : Int32) (v7_87 : Int32) (v8_87 : Int32) : Option (Int32 × Int32) :=
  match n with
  | 0 => none
  | n + 1 => (if v8_87 < 0 then some (v6_87, v7_87) else (if v7_87 = 0 then bnd (jX7_floats M_table v8_87) (fun r8 => (if r8 = 0 then jX7_addBarrel_L87 M_fixed M_table u5 n v6_87 0 (v8_87 + (-1)) else jX7_addBarrel_L87 M_fixed M_table u5 n v8_87 0 (v8_87 + (-1)))) else bnd (jX7_fx M_fixed v8_87 0) (fun r9 => (if r9 = u5 then bnd (jX7_floats M_table v8_87) (fun r10 => (if r10 = 0 then jX7_addBarrel_L87 M_fixed M_table u5 n v6_87 0 (v8_87 + (-1)) else jX7_addBarrel_L87 M_fixed M_table u5 n v8_87 0 (v8_87 + (-1)))) else bnd (jX7_floats M_table v8_87) (fun r11 => (if r11 = 0 then jX7_addBarrel_L87 M_fixed M_table u5 n v6_87 1 (v8_87 + (-1)) else jX7_addBarrel_L87 M_fixed M_table u5 n v8_87 1 (v8_87 + (-1))))))))
def jX7_addBarrel (M_thrown : Int32) (M_barrels : Int32) (M_fixed : Nat → Int32) (M_table : Nat → Int32) (a1 : Int32) (a2 : Int32) (a3 : Int32) (a4 : Int32) : Option (Int32 × Int32 × Int32 × (Nat → Int32) × (Nat → Int32)) :=
  bnd (jX7_isIn a1 0 7) (fun r1 => (if r1 = 0 then bnd (jX7_fail 0 1) (fun r2 => some (r2.1, r2.2, M_barrels, M_fixed, M_table)) else bnd (jX7_isIn a2 0 7) (fun r3 => (if r3 = 0 then bnd (jX7_fail 0 1) (fun r4 => some (r4.1, r4.2, M_barrels, M_fixed, M_table)) else bnd (jX7_isIn a3 1 40) (fun r5 => (if r5 = 0 then bnd (jX7_fail 0 1) (fun r6 => some (r6.1, r6.2, M_barrels, M_fixed, M_table)) else bnd (jX7_isIn a4 0 9) (fun r7 => (if r7 = 0 then bnd (jX7_fail 0 1) (fun r16 => some (r16.1, r16.2, M_barrels, M_fixed, M_table)) else jn (fun (x77 : Int32) => bnd (jX7_addBarrel_L87 M_fixed M_table (a1 + (8 * a2)) FU (-1) x77 (M_barrels - 1)) (fun r12 => (if r12.2 = 0 then bnd (jX7_fail 0 2) (fun r15 => some (r15.1, r15.2, M_barrels, M_fixed, M_table)) else chk 3 0 (chk 3 1 (chk 3 2 (chkP (CPOK 3 72 0 (3 * M_barrels) 3) (chk 5 0 (chk 5 1 (chk 5 2 (jn (fun (x216 : Int32) => chk 5 3 (jn (fun (x237 : Int32) => chk 5 4 (chkP (CPOK 5 120 0 (5 * M_barrels) 5) (some ((M_barrels + 1) - 1, 0, M_barrels + 1, cpy (wr (wr (wr (fun _ => 0) 0 (a1 + (8 * a2))) 1 a3) 2 a4) M_fixed 0 (3 * M_barrels) 3, cpy (wr (wr (wr (wr (wr (fun _ => 0) 0 0) 1 0) 2 0) 3 x216) 4 x237) M_table 0 (5 * M_barrels) 5)))) (fun k237 => if r12.1 = (-1) then k237 10 else bnd (jX7_ba M_table r12.1 4) (fun r13 => k237 r13)))) (fun k216 => if r12.1 = (-1) then k216 0 else bnd (jX7_ba M_table r12.1 3) (fun r14 => k216 r14)))))))))))) (fun k77 => if 24 ≤ M_barrels then k77 0 else k77 1)))))))))
set_option maxHeartbeats 4000000 in
set_option maxRecDepth 100000 in
theorem mt_X7_addBarrel (l : Launch) (D : va_G) (c : Nat → ClassId) (M : Nat → Nat) (M_thrown : Int32) (M_waters : Int32) (M_windX : Int32) (M_windY : Int32) (M_barrels : Int32) (M_crew : Int32) (M_fixed : Nat → Int32) (M_table : Nat → Int32) (a1 : Int32) (a2 : Int32) (a3 : Int32) (a4 : Int32) (q0 : Int32 × Int32 × Int32 × (Nat → Int32) × (Nat → Int32)) (h : jX7_addBarrel M_thrown M_barrels M_fixed M_table a1 a2 a3 a4 = some q0) : DTi l yX7_addBarrel wsX7_addBarrel rmX7_addBarrel D c (wX7_addBarrel c M M_thrown M_waters M_windX M_windY M_barrels M_crew M_fixed M_table) [.ref (M 0), .int a1, .int a2, .int a3, .int a4] q0.1 (wX7_addBarrel c M q0.2.1 M_waters M_windX M_windY q0.2.2.1 M_crew q0.2.2.2.1 q0.2.2.2.2) 2 8 := by
  refine DTi_of (cc := cX7_addBarrel) (nL := 10) RX7 rfl (by decide) rfl (Nat.le_of_ble_eq_true rfl) (fun g C ret => ?_)
  unfold jX7_addBarrel at h
  refine vv_lv [0, 1, 2, 3, 4] [(0, .ref (M 0)), (1, .int a1), (2, .int a2), (3, .int a3), (4, .int a4)] rfl ?_
  refine vv_aload_n C dX7_addBarrel_0 rfl 0 rfl 1 rfl ?_
  refine vv_iconst C (v := 0) dX7_addBarrel_1 (by decide) 2 rfl ?_
  refine vv_put C (q0 := 0) (ci := 7) (k := 0) (ty := .int) (wX7_addBarrel c M 0 M_waters M_windX M_windY M_barrels M_crew M_fixed M_table) tyX7 tyX7_ok nmX7 kinX7_addBarrel_X7 rfl rfl (by decide) kwX7_addBarrel_1 rfl rfl rfl rfl rfl (Nat.le_of_ble_eq_true rfl) rfl dX7_addBarrel_2 5 rfl ?_
  refine vv_iload_n C dX7_addBarrel_5 rfl 1 rfl 6 rfl ?_
  refine vv_iconst C (v := 0) dX7_addBarrel_6 (by decide) 7 rfl ?_
  refine vv_bipush C (v := 7) dX7_addBarrel_7 (by decide) 9 rfl ?_
  obtain ⟨r1, hr1, h⟩ := bnd_s h
  refine vv_callSi C (fun l => mt_X7_isIn l D c a1 0 7 r1 hr1) gX7_addBarrel_X7_isIn rfl rfl rfl yd_X7_isIn ⟨Nat.le_of_ble_eq_true rfl, Nat.le_of_ble_eq_true rfl⟩ [] rfl (by decide) (wX7_addBarrel c M 0 M_waters M_windX M_windY M_barrels M_crew M_fixed M_table) [(false, 0), (false, 1), (false, 2)] rfl (by decide) rfl rfl [] rfl (Nat.le_of_ble_eq_true rfl) ⟨Nat.le_of_ble_eq_true rfl, Nat.le_of_ble_eq_true rfl⟩ dX7_addBarrel_9 12 0 0 rfl ⟨rfl, rfl⟩ ?_
  refine vv_if_eq C 46 15 dX7_addBarrel_12 (by decide) rfl (fun hc => ?_) (fun hc => ?_)
  · replace h := ite_t hc h
    refine vv_aload_n C dX7_addBarrel_46 rfl 0 rfl 47 rfl ?_
    refine vv_iconst C (v := 1) dX7_addBarrel_47 (by decide) 48 rfl ?_
    obtain ⟨r2, hr2, h⟩ := bnd_s h
    refine vv_callVi C (fun l => mt_X7_fail l D c M 0 M_waters M_windX M_windY M_barrels M_crew 1 r2 hr2) gX7_addBarrel_X7_fail rfl rfl rfl yd_X7_fail ⟨Nat.le_of_ble_eq_true rfl, Nat.le_of_ble_eq_true rfl⟩ [0] rfl (by decide) 0 rfl rfl (wX7_addBarrel c M r2.2 M_waters M_windX M_windY M_barrels M_crew M_fixed M_table) [(true, 0), (false, 1), (false, 2)] rfl (by decide) rfl rfl [] rfl (Nat.le_of_ble_eq_true rfl) ⟨Nat.le_of_ble_eq_true rfl, Nat.le_of_ble_eq_true rfl⟩ dX7_addBarrel_48 51 0 0 rfl ⟨rfl, rfl⟩ ?_
    obtain rfl := Option.some.inj h
    refine vv_widen (k := 2) (n := 8) (by decide) (by decide) ?_
    exact ret _ _ dX7_addBarrel_51
  · replace h := ite_f hc h
    refine vv_iload_n C dX7_addBarrel_15 rfl 2 rfl 16 rfl ?_
    refine vv_iconst C (v := 0) dX7_addBarrel_16 (by decide) 17 rfl ?_
    refine vv_bipush C (v := 7) dX7_addBarrel_17 (by decide) 19 rfl ?_
    obtain ⟨r3, hr3, h⟩ := bnd_s h
    refine vv_callSi C (fun l => mt_X7_isIn l D c a2 0 7 r3 hr3) gX7_addBarrel_X7_isIn rfl rfl rfl yd_X7_isIn ⟨Nat.le_of_ble_eq_true rfl, Nat.le_of_ble_eq_true rfl⟩ [] rfl (by decide) (wX7_addBarrel c M 0 M_waters M_windX M_windY M_barrels M_crew M_fixed M_table) [(false, 0), (false, 1), (false, 2)] rfl (by decide) rfl rfl [] rfl (Nat.le_of_ble_eq_true rfl) ⟨Nat.le_of_ble_eq_true rfl, Nat.le_of_ble_eq_true rfl⟩ dX7_addBarrel_19 22 0 0 rfl ⟨rfl, rfl⟩ ?_
    refine vv_if_eq C 46 25 dX7_addBarrel_22 (by decide) rfl (fun hc => ?_) (fun hc => ?_)
    · replace h := ite_t hc h
      refine vv_aload_n C dX7_addBarrel_46 rfl 0 rfl 47 rfl ?_
      refine vv_iconst C (v := 1) dX7_addBarrel_47 (by decide) 48 rfl ?_
      obtain ⟨r4, hr4, h⟩ := bnd_s h
      refine vv_callVi C (fun l => mt_X7_fail l D c M 0 M_waters M_windX M_windY M_barrels M_crew 1 r4 hr4) gX7_addBarrel_X7_fail rfl rfl rfl yd_X7_fail ⟨Nat.le_of_ble_eq_true rfl, Nat.le_of_ble_eq_true rfl⟩ [0] rfl (by decide) 0 rfl rfl (wX7_addBarrel c M r4.2 M_waters M_windX M_windY M_barrels M_crew M_fixed M_table) [(true, 0), (false, 1), (false, 2)] rfl (by decide) rfl rfl [] rfl (Nat.le_of_ble_eq_true rfl) ⟨Nat.le_of_ble_eq_true rfl, Nat.le_of_ble_eq_true rfl⟩ dX7_addBarrel_48 51 0 0 rfl ⟨rfl, rfl⟩ ?_
      obtain rfl := Option.some.inj h
      refine vv_widen (k := 2) (n := 8) (by decide) (by decide) ?_
      exact ret _ _ dX7_addBarrel_51
    · replace h := ite_f hc h
      refine vv_iload_n C dX7_addBarrel_25 rfl 3 rfl 26 rfl ?_
      refine vv_iconst C (v := 1) dX7_addBarrel_26 (by decide) 27 rfl ?_
      refine vv_bipush C (v := 40) dX7_addBarrel_27 (by decide) 29 rfl ?_
      obtain ⟨r5, hr5, h⟩ := bnd_s h
      refine vv_callSi C (fun l => mt_X7_isIn l D c a3 1 40 r5 hr5) gX7_addBarrel_X7_isIn rfl rfl rfl yd_X7_isIn ⟨Nat.le_of_ble_eq_true rfl, Nat.le_of_ble_eq_true rfl⟩ [] rfl (by decide) (wX7_addBarrel c M 0 M_waters M_windX M_windY M_barrels M_crew M_fixed M_table) [(false, 0), (false, 1), (false, 2)] rfl (by decide) rfl rfl [] rfl (Nat.le_of_ble_eq_true rfl) ⟨Nat.le_of_ble_eq_true rfl, Nat.le_of_ble_eq_true rfl⟩ dX7_addBarrel_29 32 0 0 rfl ⟨rfl, rfl⟩ ?_
      refine vv_if_eq C 46 35 dX7_addBarrel_32 (by decide) rfl (fun hc => ?_) (fun hc => ?_)
      · replace h := ite_t hc h
        refine vv_aload_n C dX7_addBarrel_46 rfl 0 rfl 47 rfl ?_
        refine vv_iconst C (v := 1) dX7_addBarrel_47 (by decide) 48 rfl ?_
        obtain ⟨r6, hr6, h⟩ := bnd_s h
        refine vv_callVi C (fun l => mt_X7_fail l D c M 0 M_waters M_windX M_windY M_barrels M_crew 1 r6 hr6) gX7_addBarrel_X7_fail rfl rfl rfl yd_X7_fail ⟨Nat.le_of_ble_eq_true rfl, Nat.le_of_ble_eq_true rfl⟩ [0] rfl (by decide) 0 rfl rfl (wX7_addBarrel c M r6.2 M_waters M_windX M_windY M_barrels M_crew M_fixed M_table) [(true, 0), (false, 1), (false, 2)] rfl (by decide) rfl rfl [] rfl (Nat.le_of_ble_eq_true rfl) ⟨Nat.le_of_ble_eq_true rfl, Nat.le_of_ble_eq_true rfl⟩ dX7_addBarrel_48 51 0 0 rfl ⟨rfl, rfl⟩ ?_
        obtain rfl := Option.some.inj h
        refine vv_widen (k := 2) (n := 8) (by decide) (by decide) ?_
        exact ret _ _ dX7_addBarrel_51
      · replace h := ite_f hc h
        refine vv_iload C dX7_addBarrel_35 4 rfl 37 rfl ?_
        refine vv_iconst C (v := 0) dX7_addBarrel_37 (by decide) 38 rfl ?_
        refine vv_bipush C (v := 9) dX7_addBarrel_38 (by decide) 40 rfl ?_
        obtain ⟨r7, hr7, h⟩ := bnd_s h
        refine vv_callSi C (fun l => mt_X7_isIn l D c a4 0 9 r7 hr7) gX7_addBarrel_X7_isIn rfl rfl rfl yd_X7_isIn ⟨Nat.le_of_ble_eq_true rfl, Nat.le_of_ble_eq_true rfl⟩ [] rfl (by decide) (wX7_addBarrel c M 0 M_waters M_windX M_windY M_barrels M_crew M_fixed M_table) [(false, 0), (false, 1), (false, 2)] rfl (by decide) rfl rfl [] rfl (Nat.le_of_ble_eq_true rfl) ⟨Nat.le_of_ble_eq_true rfl, Nat.le_of_ble_eq_true rfl⟩ dX7_addBarrel_40 43 0 0 rfl ⟨rfl, rfl⟩ ?_
        refine vv_if_ne C 52 46 dX7_addBarrel_43 (by decide) rfl (fun hc => ?_) (fun hc => ?_)
        · replace h := ite_f hc h
          refine vv_iload_n C dX7_addBarrel_52 rfl 1 rfl 53 rfl ?_
          refine vv_bipush C (v := 8) dX7_addBarrel_53 (by decide) 55 rfl ?_
          refine vv_iload_n C dX7_addBarrel_55 rfl 2 rfl 56 rfl ?_
          refine vv_imul C dX7_addBarrel_56 57 rfl ?_
          refine vv_iadd C dX7_addBarrel_57 58 rfl ?_
          refine vv_istore C [(5, .int (a1 + (8 * a2))), (0, .ref (M 0)), (1, .int a1), (2, .int a2), (3, .int a3), (4, .int a4)] dX7_addBarrel_58 (by decide) rfl 60 rfl ?_
          refine vv_iconst C (v := (-1)) dX7_addBarrel_60 (by decide) 61 rfl ?_
          refine vv_istore C [(6, .int (-1)), (5, .int (a1 + (8 * a2))), (0, .ref (M 0)), (1, .int a1), (2, .int a2), (3, .int a3), (4, .int a4)] dX7_addBarrel_61 (by decide) rfl 63 rfl ?_
          refine vv_aload_n C dX7_addBarrel_63 rfl 2 rfl 64 rfl ?_
          refine vv_get C (q0 := 0) (ci := 7) (k := 5) kinX7_addBarrel_X7 rfl rfl (by decide) kwX7_addBarrel_2 rfl rfl dX7_addBarrel_64 67 rfl ?_
          refine vv_bipush C (v := 24) dX7_addBarrel_67 (by decide) 69 rfl ?_
          obtain ⟨k77, hk77, h⟩ := jn_s h
          have J77 : ∀ (x77 : Int32), k77 x77 = some q0 → VV g D 10 0 0 (wX7_addBarrel c M 0 M_waters M_windX M_windY M_barrels M_crew M_fixed M_table) [(0, .ref (M 0)), (3, .int a3), (4, .int a4), (5, .int (a1 + (8 * a2))), (6, .int (-1))] 77 [.int x77] := by
            intro x77 h
            replace h := jn_u hk77 h
            refine vv_istore C [(7, .int x77), (0, .ref (M 0)), (3, .int a3), (4, .int a4), (5, .int (a1 + (8 * a2))), (6, .int (-1))] dX7_addBarrel_77 (by decide) rfl 79 rfl ?_
            refine vv_aload_n C dX7_addBarrel_79 rfl 1 rfl 80 rfl ?_
            refine vv_get C (q0 := 0) (ci := 7) (k := 5) kinX7_addBarrel_X7 rfl rfl (by decide) kwX7_addBarrel_2 rfl rfl dX7_addBarrel_80 83 rfl ?_
            refine vv_iconst C (v := 1) dX7_addBarrel_83 (by decide) 84 rfl ?_
            refine vv_isub C dX7_addBarrel_84 85 rfl ?_
            refine vv_istore C [(8, .int (M_barrels - 1)), (7, .int x77), (0, .ref (M 0)), (3, .int a3), (4, .int a4), (5, .int (a1 + (8 * a2))), (6, .int (-1))] dX7_addBarrel_85 (by decide) rfl 87 rfl ?_
            refine vv_lv [2, 3, 4, 5, 6, 1, 0] [(0, .ref (M 0)), (3, .int a3), (4, .int a4), (5, .int (a1 + (8 * a2))), (6, .int (-1)), (7, .int x77), (8, .int (M_barrels - 1))] rfl ?_
            have L87 : ∀ (n : Nat) (v6_87 : Int32) (v7_87 : Int32) (v8_87 : Int32) (q87 : Int32 × Int32), jX7_addBarrel_L87 M_fixed M_table (a1 + (8 * a2)) n v6_87 v7_87 v8_87 = some q87 → (VV g D 10 0 0 (wX7_addBarrel c M 0 M_waters M_windX M_windY M_barrels M_crew M_fixed M_table) [(0, .ref (M 0)), (3, .int a3), (4, .int a4), (5, .int (a1 + (8 * a2))), (6, .int q87.1), (7, .int q87.2)] 135 []) → VV g D 10 0 0 (wX7_addBarrel c M 0 M_waters M_windX M_windY M_barrels M_crew M_fixed M_table) [(0, .ref (M 0)), (3, .int a3), (4, .int a4), (5, .int (a1 + (8 * a2))), (6, .int v6_87), (7, .int v7_87), (8, .int v8_87)] 87 [] := by
              intro n
              induction n with
              | zero =>
                intro v6_87 v7_87 v8_87 q87 h _
                rw [jX7_addBarrel_L87] at h
                cases h
              | succ n ih87 =>
                intro v6_87 v7_87 v8_87 q87 h kk87
                rw [jX7_addBarrel_L87] at h
                refine vv_iload C dX7_addBarrel_87 6 rfl 89 rfl ?_
                refine vv_if_lt C 135 92 dX7_addBarrel_89 (by decide) rfl (fun hc => ?_) (fun hc => ?_)
                · replace h := ite_t hc h
                  refine vv_lv [0, 1, 2, 3, 4, 5] [(0, .ref (M 0)), (3, .int a3), (4, .int a4), (5, .int (a1 + (8 * a2))), (6, .int v6_87), (7, .int v7_87)] rfl ?_
                  obtain rfl := Option.some.inj h
                  exact kk87
                · replace h := ite_f hc h
                  refine vv_iload C dX7_addBarrel_92 5 rfl 94 rfl ?_
                  refine vv_if_eq C 113 97 dX7_addBarrel_94 (by decide) rfl (fun hc => ?_) (fun hc => ?_)
                  · replace h := ite_t hc h
                    refine vv_iconst C (v := 0) dX7_addBarrel_113 (by decide) 114 rfl ?_
                    refine vv_istore C [(7, .int 0), (0, .ref (M 0)), (3, .int a3), (4, .int a4), (5, .int (a1 + (8 * a2))), (6, .int v6_87), (8, .int v8_87)] dX7_addBarrel_114 (by decide) rfl 116 rfl ?_
                    refine vv_aload_n C dX7_addBarrel_116 rfl 1 rfl 117 rfl ?_
                    refine vv_iload C dX7_addBarrel_117 6 rfl 119 rfl ?_
                    obtain ⟨r8, hr8, h⟩ := bnd_s h
                    refine vv_callVi C (fun l => mt_X7_floats l D c M 0 M_waters M_windX M_windY M_barrels M_crew M_table v8_87 r8 hr8) gX7_addBarrel_X7_floats rfl rfl rfl yd_X7_floats ⟨Nat.le_of_ble_eq_true rfl, Nat.le_of_ble_eq_true rfl⟩ [0, 2] rfl (by decide) 0 rfl rfl (wX7_addBarrel c M 0 M_waters M_windX M_windY M_barrels M_crew M_fixed M_table) [(true, 0), (false, 1), (true, 1)] rfl (by decide) rfl rfl [] rfl (Nat.le_of_ble_eq_true rfl) ⟨Nat.le_of_ble_eq_true rfl, Nat.le_of_ble_eq_true rfl⟩ dX7_addBarrel_119 122 0 0 rfl ⟨rfl, rfl⟩ ?_
                    refine vv_if_eq C 129 125 dX7_addBarrel_122 (by decide) rfl (fun hc => ?_) (fun hc => ?_)
                    · replace h := ite_t hc h
                      refine vv_iinc C (k := 6) [(8, .int (v8_87 + (-1))), (7, .int 0), (0, .ref (M 0)), (3, .int a3), (4, .int a4), (5, .int (a1 + (8 * a2))), (6, .int v6_87)] dX7_addBarrel_129 rfl rfl (by decide) rfl 132 rfl ?_
                      refine vv_goto C 87 dX7_addBarrel_132 (by decide) ?_
                      refine vv_lv [2, 3, 4, 5, 6, 1, 0] [(0, .ref (M 0)), (3, .int a3), (4, .int a4), (5, .int (a1 + (8 * a2))), (6, .int v6_87), (7, .int 0), (8, .int (v8_87 + (-1)))] rfl ?_
                      exact ih87 v6_87 0 (v8_87 + (-1)) _ h kk87
                    · replace h := ite_f hc h
                      refine vv_iload C dX7_addBarrel_125 6 rfl 127 rfl ?_
                      refine vv_istore C [(6, .int v8_87), (7, .int 0), (0, .ref (M 0)), (3, .int a3), (4, .int a4), (5, .int (a1 + (8 * a2))), (8, .int v8_87)] dX7_addBarrel_127 (by decide) rfl 129 rfl ?_
                      refine vv_iinc C (k := 6) [(8, .int (v8_87 + (-1))), (6, .int v8_87), (7, .int 0), (0, .ref (M 0)), (3, .int a3), (4, .int a4), (5, .int (a1 + (8 * a2)))] dX7_addBarrel_129 rfl rfl (by decide) rfl 132 rfl ?_
                      refine vv_goto C 87 dX7_addBarrel_132 (by decide) ?_
                      refine vv_lv [3, 4, 5, 6, 1, 2, 0] [(0, .ref (M 0)), (3, .int a3), (4, .int a4), (5, .int (a1 + (8 * a2))), (6, .int v8_87), (7, .int 0), (8, .int (v8_87 + (-1)))] rfl ?_
                      exact ih87 v8_87 0 (v8_87 + (-1)) _ h kk87
                  · replace h := ite_f hc h
                    refine vv_aload_n C dX7_addBarrel_97 rfl 0 rfl 98 rfl ?_
                    refine vv_iload C dX7_addBarrel_98 6 rfl 100 rfl ?_
                    refine vv_iconst C (v := 0) dX7_addBarrel_100 (by decide) 101 rfl ?_
                    obtain ⟨r9, hr9, h⟩ := bnd_s h
                    refine vv_callVi C (fun l => mt_X7_fx l D c M 0 M_waters M_windX M_windY M_barrels M_crew M_fixed v8_87 0 r9 hr9) gX7_addBarrel_X7_fx rfl rfl rfl yd_X7_fx ⟨Nat.le_of_ble_eq_true rfl, Nat.le_of_ble_eq_true rfl⟩ [0, 1] rfl (by decide) 0 rfl rfl (wX7_addBarrel c M 0 M_waters M_windX M_windY M_barrels M_crew M_fixed M_table) [(true, 0), (true, 1), (false, 2)] rfl (by decide) rfl rfl [] rfl (Nat.le_of_ble_eq_true rfl) ⟨Nat.le_of_ble_eq_true rfl, Nat.le_of_ble_eq_true rfl⟩ dX7_addBarrel_101 104 0 0 rfl ⟨rfl, rfl⟩ ?_
                    refine vv_iload C dX7_addBarrel_104 3 rfl 106 rfl ?_
                    refine vv_icmp_eq C 113 109 dX7_addBarrel_106 (by decide) rfl (fun hc => ?_) (fun hc => ?_)
                    · replace h := ite_t hc h
                      refine vv_iconst C (v := 0) dX7_addBarrel_113 (by decide) 114 rfl ?_
                      refine vv_istore C [(7, .int 0), (0, .ref (M 0)), (3, .int a3), (4, .int a4), (5, .int (a1 + (8 * a2))), (6, .int v6_87), (8, .int v8_87)] dX7_addBarrel_114 (by decide) rfl 116 rfl ?_
                      refine vv_aload_n C dX7_addBarrel_116 rfl 1 rfl 117 rfl ?_
                      refine vv_iload C dX7_addBarrel_117 6 rfl 119 rfl ?_
                      obtain ⟨r10, hr10, h⟩ := bnd_s h
                      refine vv_callVi C (fun l => mt_X7_floats l D c M 0 M_waters M_windX M_windY M_barrels M_crew M_table v8_87 r10 hr10) gX7_addBarrel_X7_floats rfl rfl rfl yd_X7_floats ⟨Nat.le_of_ble_eq_true rfl, Nat.le_of_ble_eq_true rfl⟩ [0, 2] rfl (by decide) 0 rfl rfl (wX7_addBarrel c M 0 M_waters M_windX M_windY M_barrels M_crew M_fixed M_table) [(true, 0), (false, 1), (true, 1)] rfl (by decide) rfl rfl [] rfl (Nat.le_of_ble_eq_true rfl) ⟨Nat.le_of_ble_eq_true rfl, Nat.le_of_ble_eq_true rfl⟩ dX7_addBarrel_119 122 0 0 rfl ⟨rfl, rfl⟩ ?_
                      refine vv_if_eq C 129 125 dX7_addBarrel_122 (by decide) rfl (fun hc => ?_) (fun hc => ?_)
                      · replace h := ite_t hc h
                        refine vv_iinc C (k := 6) [(8, .int (v8_87 + (-1))), (7, .int 0), (0, .ref (M 0)), (3, .int a3), (4, .int a4), (5, .int (a1 + (8 * a2))), (6, .int v6_87)] dX7_addBarrel_129 rfl rfl (by decide) rfl 132 rfl ?_
                        refine vv_goto C 87 dX7_addBarrel_132 (by decide) ?_
                        refine vv_lv [2, 3, 4, 5, 6, 1, 0] [(0, .ref (M 0)), (3, .int a3), (4, .int a4), (5, .int (a1 + (8 * a2))), (6, .int v6_87), (7, .int 0), (8, .int (v8_87 + (-1)))] rfl ?_
                        exact ih87 v6_87 0 (v8_87 + (-1)) _ h kk87
                      · replace h := ite_f hc h
                        refine vv_iload C dX7_addBarrel_125 6 rfl 127 rfl ?_
                        refine vv_istore C [(6, .int v8_87), (7, .int 0), (0, .ref (M 0)), (3, .int a3), (4, .int a4), (5, .int (a1 + (8 * a2))), (8, .int v8_87)] dX7_addBarrel_127 (by decide) rfl 129 rfl ?_
                        refine vv_iinc C (k := 6) [(8, .int (v8_87 + (-1))), (6, .int v8_87), (7, .int 0), (0, .ref (M 0)), (3, .int a3), (4, .int a4), (5, .int (a1 + (8 * a2)))] dX7_addBarrel_129 rfl rfl (by decide) rfl 132 rfl ?_
                        refine vv_goto C 87 dX7_addBarrel_132 (by decide) ?_
                        refine vv_lv [3, 4, 5, 6, 1, 2, 0] [(0, .ref (M 0)), (3, .int a3), (4, .int a4), (5, .int (a1 + (8 * a2))), (6, .int v8_87), (7, .int 0), (8, .int (v8_87 + (-1)))] rfl ?_
                        exact ih87 v8_87 0 (v8_87 + (-1)) _ h kk87
                    · replace h := ite_f hc h
                      refine vv_iconst C (v := 1) dX7_addBarrel_109 (by decide) 110 rfl ?_
                      refine vv_goto C 114 dX7_addBarrel_110 (by decide) ?_
                      refine vv_istore C [(7, .int 1), (0, .ref (M 0)), (3, .int a3), (4, .int a4), (5, .int (a1 + (8 * a2))), (6, .int v6_87), (8, .int v8_87)] dX7_addBarrel_114 (by decide) rfl 116 rfl ?_
                      refine vv_aload_n C dX7_addBarrel_116 rfl 1 rfl 117 rfl ?_
                      refine vv_iload C dX7_addBarrel_117 6 rfl 119 rfl ?_
                      obtain ⟨r11, hr11, h⟩ := bnd_s h
                      refine vv_callVi C (fun l => mt_X7_floats l D c M 0 M_waters M_windX M_windY M_barrels M_crew M_table v8_87 r11 hr11) gX7_addBarrel_X7_floats rfl rfl rfl yd_X7_floats ⟨Nat.le_of_ble_eq_true rfl, Nat.le_of_ble_eq_true rfl⟩ [0, 2] rfl (by decide) 0 rfl rfl (wX7_addBarrel c M 0 M_waters M_windX M_windY M_barrels M_crew M_fixed M_table) [(true, 0), (false, 1), (true, 1)] rfl (by decide) rfl rfl [] rfl (Nat.le_of_ble_eq_true rfl) ⟨Nat.le_of_ble_eq_true rfl, Nat.le_of_ble_eq_true rfl⟩ dX7_addBarrel_119 122 0 0 rfl ⟨rfl, rfl⟩ ?_
                      refine vv_if_eq C 129 125 dX7_addBarrel_122 (by decide) rfl (fun hc => ?_) (fun hc => ?_)
                      · replace h := ite_t hc h
                        refine vv_iinc C (k := 6) [(8, .int (v8_87 + (-1))), (7, .int 1), (0, .ref (M 0)), (3, .int a3), (4, .int a4), (5, .int (a1 + (8 * a2))), (6, .int v6_87)] dX7_addBarrel_129 rfl rfl (by decide) rfl 132 rfl ?_
                        refine vv_goto C 87 dX7_addBarrel_132 (by decide) ?_
                        refine vv_lv [2, 3, 4, 5, 6, 1, 0] [(0, .ref (M 0)), (3, .int a3), (4, .int a4), (5, .int (a1 + (8 * a2))), (6, .int v6_87), (7, .int 1), (8, .int (v8_87 + (-1)))] rfl ?_
                        exact ih87 v6_87 1 (v8_87 + (-1)) _ h kk87
                      · replace h := ite_f hc h
                        refine vv_iload C dX7_addBarrel_125 6 rfl 127 rfl ?_
                        refine vv_istore C [(6, .int v8_87), (7, .int 1), (0, .ref (M 0)), (3, .int a3), (4, .int a4), (5, .int (a1 + (8 * a2))), (8, .int v8_87)] dX7_addBarrel_127 (by decide) rfl 129 rfl ?_
                        refine vv_iinc C (k := 6) [(8, .int (v8_87 + (-1))), (6, .int v8_87), (7, .int 1), (0, .ref (M 0)), (3, .int a3), (4, .int a4), (5, .int (a1 + (8 * a2)))] dX7_addBarrel_129 rfl rfl (by decide) rfl 132 rfl ?_
                        refine vv_goto C 87 dX7_addBarrel_132 (by decide) ?_
                        refine vv_lv [3, 4, 5, 6, 1, 2, 0] [(0, .ref (M 0)), (3, .int a3), (4, .int a4), (5, .int (a1 + (8 * a2))), (6, .int v8_87), (7, .int 1), (8, .int (v8_87 + (-1)))] rfl ?_
                        exact ih87 v8_87 1 (v8_87 + (-1)) _ h kk87
            obtain ⟨r12, hr12, h⟩ := bnd_s h
            refine L87 FU (-1) x77 (M_barrels - 1) r12 hr12 ?_
            refine vv_iload C dX7_addBarrel_135 5 rfl 137 rfl ?_
            refine vv_if_ne C 146 140 dX7_addBarrel_137 (by decide) rfl (fun hc => ?_) (fun hc => ?_)
            · replace h := ite_f hc h
              refine vv_iconst C (v := 3) dX7_addBarrel_146 (by decide) 147 rfl ?_
              refine vv_newa C (N := 3) kwX7_addBarrel_3 (by decide) (by decide) (by decide) ⟨by decide, by decide⟩ dX7_addBarrel_147 149 1 3 rfl ⟨rfl, rfl⟩ (fun q147n => ?_)
              refine vv_dup C dX7_addBarrel_149 rfl 150 rfl ?_
              refine vv_iconst C (v := 0) dX7_addBarrel_150 (by decide) 151 rfl ?_
              refine vv_iload C dX7_addBarrel_151 3 rfl 153 rfl ?_
              obtain ⟨hi, h⟩ := chk_s h
              refine vv_iast C (q0 := 3) ((wX7_addBarrel c M 0 M_waters M_windX M_windY M_barrels M_crew M_fixed M_table) ++ [aI c q147n 3 (wr (fun _ => 0) 0 (a1 + (8 * a2)))]) rfl hi rfl dX7_addBarrel_153 154 rfl ?_
              refine vv_dup C dX7_addBarrel_154 rfl 155 rfl ?_
              refine vv_iconst C (v := 1) dX7_addBarrel_155 (by decide) 156 rfl ?_
              refine vv_iload_n C dX7_addBarrel_156 rfl 1 rfl 157 rfl ?_
              obtain ⟨hi, h⟩ := chk_s h
              refine vv_iast C (q0 := 3) ((wX7_addBarrel c M 0 M_waters M_windX M_windY M_barrels M_crew M_fixed M_table) ++ [aI c q147n 3 (wr (wr (fun _ => 0) 0 (a1 + (8 * a2))) 1 a3)]) rfl hi rfl dX7_addBarrel_157 158 rfl ?_
              refine vv_dup C dX7_addBarrel_158 rfl 159 rfl ?_
              refine vv_iconst C (v := 2) dX7_addBarrel_159 (by decide) 160 rfl ?_
              refine vv_iload C dX7_addBarrel_160 2 rfl 162 rfl ?_
              obtain ⟨hi, h⟩ := chk_s h
              refine vv_iast C (q0 := 3) ((wX7_addBarrel c M 0 M_waters M_windX M_windY M_barrels M_crew M_fixed M_table) ++ [aI c q147n 3 (wr (wr (wr (fun _ => 0) 0 (a1 + (8 * a2))) 1 a3) 2 a4)]) rfl hi rfl dX7_addBarrel_162 163 rfl ?_
              refine vv_astore C [(8, .ref q147n), (0, .ref (M 0)), (3, .int a3), (4, .int a4), (5, .int (a1 + (8 * a2))), (6, .int r12.1), (7, .int r12.2)] dX7_addBarrel_163 (by decide) rfl 165 rfl ?_
              refine vv_aload C dX7_addBarrel_165 0 rfl 167 rfl ?_
              refine vv_iconst C (v := 0) dX7_addBarrel_167 (by decide) 168 rfl ?_
              refine vv_aload_n C dX7_addBarrel_168 rfl 1 rfl 169 rfl ?_
              refine vv_get C (q0 := 0) (ci := 7) (k := 6) kinX7_addBarrel_X7 rfl rfl (by decide) kwX7_addBarrel_4 rfl rfl dX7_addBarrel_169 172 rfl ?_
              refine vv_iconst C (v := 3) dX7_addBarrel_172 (by decide) 173 rfl ?_
              refine vv_aload_n C dX7_addBarrel_173 rfl 1 rfl 174 rfl ?_
              refine vv_get C (q0 := 0) (ci := 7) (k := 5) kinX7_addBarrel_X7 rfl rfl (by decide) kwX7_addBarrel_2 rfl rfl dX7_addBarrel_174 177 rfl ?_
              refine vv_imul C dX7_addBarrel_177 178 rfl ?_
              refine vv_iconst C (v := 3) dX7_addBarrel_178 (by decide) 179 rfl ?_
              obtain ⟨hcp, h⟩ := chkP_s h
              refine vv_copy C (q0 := 3) (q1 := 1) ((wX7_addBarrel c M 0 M_waters M_windX M_windY M_barrels M_crew (cpy (wr (wr (wr (fun _ => 0) 0 (a1 + (8 * a2))) 1 a3) 2 a4) M_fixed 0 (3 * M_barrels) 3) M_table) ++ [aI c q147n 3 (wr (wr (wr (fun _ => 0) 0 (a1 + (8 * a2))) 1 a3) 2 a4)]) kwX7_addBarrel_5 kwX7_addBarrel_6 kwX7_addBarrel_7 kwX7_addBarrel_8 rfl rfl hcp ⟨Nat.le_of_ble_eq_true rfl, Nat.le_of_ble_eq_true rfl⟩ rfl dX7_addBarrel_179 182 rfl ?_
              refine vv_iconst C (v := 5) dX7_addBarrel_182 (by decide) 183 rfl ?_
              refine vv_newa C (N := 5) kwX7_addBarrel_3 (by decide) (by decide) (by decide) ⟨by decide, by decide⟩ dX7_addBarrel_183 185 2 8 rfl ⟨rfl, rfl⟩ (fun q183n => ?_)
              refine vv_dup C dX7_addBarrel_185 rfl 186 rfl ?_
              refine vv_iconst C (v := 0) dX7_addBarrel_186 (by decide) 187 rfl ?_
              refine vv_iconst C (v := 0) dX7_addBarrel_187 (by decide) 188 rfl ?_
              obtain ⟨hi, h⟩ := chk_s h
              refine vv_iast C (q0 := 4) ((wX7_addBarrel c M 0 M_waters M_windX M_windY M_barrels M_crew (cpy (wr (wr (wr (fun _ => 0) 0 (a1 + (8 * a2))) 1 a3) 2 a4) M_fixed 0 (3 * M_barrels) 3) M_table) ++ [aI c q147n 3 (wr (wr (wr (fun _ => 0) 0 (a1 + (8 * a2))) 1 a3) 2 a4), aI c q183n 5 (wr (fun _ => 0) 0 0)]) rfl hi rfl dX7_addBarrel_188 189 rfl ?_
              refine vv_dup C dX7_addBarrel_189 rfl 190 rfl ?_
              refine vv_iconst C (v := 1) dX7_addBarrel_190 (by decide) 191 rfl ?_
              refine vv_iconst C (v := 0) dX7_addBarrel_191 (by decide) 192 rfl ?_
              obtain ⟨hi, h⟩ := chk_s h
              refine vv_iast C (q0 := 4) ((wX7_addBarrel c M 0 M_waters M_windX M_windY M_barrels M_crew (cpy (wr (wr (wr (fun _ => 0) 0 (a1 + (8 * a2))) 1 a3) 2 a4) M_fixed 0 (3 * M_barrels) 3) M_table) ++ [aI c q147n 3 (wr (wr (wr (fun _ => 0) 0 (a1 + (8 * a2))) 1 a3) 2 a4), aI c q183n 5 (wr (wr (fun _ => 0) 0 0) 1 0)]) rfl hi rfl dX7_addBarrel_192 193 rfl ?_
              refine vv_dup C dX7_addBarrel_193 rfl 194 rfl ?_
              refine vv_iconst C (v := 2) dX7_addBarrel_194 (by decide) 195 rfl ?_
              refine vv_iconst C (v := 0) dX7_addBarrel_195 (by decide) 196 rfl ?_
              obtain ⟨hi, h⟩ := chk_s h
              refine vv_iast C (q0 := 4) ((wX7_addBarrel c M 0 M_waters M_windX M_windY M_barrels M_crew (cpy (wr (wr (wr (fun _ => 0) 0 (a1 + (8 * a2))) 1 a3) 2 a4) M_fixed 0 (3 * M_barrels) 3) M_table) ++ [aI c q147n 3 (wr (wr (wr (fun _ => 0) 0 (a1 + (8 * a2))) 1 a3) 2 a4), aI c q183n 5 (wr (wr (wr (fun _ => 0) 0 0) 1 0) 2 0)]) rfl hi rfl dX7_addBarrel_196 197 rfl ?_
              refine vv_dup C dX7_addBarrel_197 rfl 198 rfl ?_
              refine vv_iconst C (v := 3) dX7_addBarrel_198 (by decide) 199 rfl ?_
              refine vv_iload C dX7_addBarrel_199 5 rfl 201 rfl ?_
              refine vv_iconst C (v := (-1)) dX7_addBarrel_201 (by decide) 202 rfl ?_
              obtain ⟨k216, hk216, h⟩ := jn_s h
              have J216 : ∀ (x216 : Int32), k216 x216 = some q0 → VV g D 10 2 8 ((wX7_addBarrel c M 0 M_waters M_windX M_windY M_barrels M_crew (cpy (wr (wr (wr (fun _ => 0) 0 (a1 + (8 * a2))) 1 a3) 2 a4) M_fixed 0 (3 * M_barrels) 3) M_table) ++ [aI c q147n 3 (wr (wr (wr (fun _ => 0) 0 (a1 + (8 * a2))) 1 a3) 2 a4), aI c q183n 5 (wr (wr (wr (fun _ => 0) 0 0) 1 0) 2 0)]) [(0, .ref (M 0)), (6, .int r12.1)] 216 [.int x216, .int 3, .ref q183n, .ref q183n] := by
                intro x216 h
                replace h := jn_u hk216 h
                obtain ⟨hi, h⟩ := chk_s h
                refine vv_iast C (q0 := 4) ((wX7_addBarrel c M 0 M_waters M_windX M_windY M_barrels M_crew (cpy (wr (wr (wr (fun _ => 0) 0 (a1 + (8 * a2))) 1 a3) 2 a4) M_fixed 0 (3 * M_barrels) 3) M_table) ++ [aI c q147n 3 (wr (wr (wr (fun _ => 0) 0 (a1 + (8 * a2))) 1 a3) 2 a4), aI c q183n 5 (wr (wr (wr (wr (fun _ => 0) 0 0) 1 0) 2 0) 3 x216)]) rfl hi rfl dX7_addBarrel_216 217 rfl ?_
                refine vv_dup C dX7_addBarrel_217 rfl 218 rfl ?_
                refine vv_iconst C (v := 4) dX7_addBarrel_218 (by decide) 219 rfl ?_
                refine vv_iload C dX7_addBarrel_219 1 rfl 221 rfl ?_
                refine vv_iconst C (v := (-1)) dX7_addBarrel_221 (by decide) 222 rfl ?_
                obtain ⟨k237, hk237, h⟩ := jn_s h
                have J237 : ∀ (x237 : Int32), k237 x237 = some q0 → VV g D 10 2 8 ((wX7_addBarrel c M 0 M_waters M_windX M_windY M_barrels M_crew (cpy (wr (wr (wr (fun _ => 0) 0 (a1 + (8 * a2))) 1 a3) 2 a4) M_fixed 0 (3 * M_barrels) 3) M_table) ++ [aI c q147n 3 (wr (wr (wr (fun _ => 0) 0 (a1 + (8 * a2))) 1 a3) 2 a4), aI c q183n 5 (wr (wr (wr (wr (fun _ => 0) 0 0) 1 0) 2 0) 3 x216)]) [(0, .ref (M 0))] 237 [.int x237, .int 4, .ref q183n, .ref q183n] := by
                  intro x237 h
                  replace h := jn_u hk237 h
                  obtain ⟨hi, h⟩ := chk_s h
                  refine vv_iast C (q0 := 4) ((wX7_addBarrel c M 0 M_waters M_windX M_windY M_barrels M_crew (cpy (wr (wr (wr (fun _ => 0) 0 (a1 + (8 * a2))) 1 a3) 2 a4) M_fixed 0 (3 * M_barrels) 3) M_table) ++ [aI c q147n 3 (wr (wr (wr (fun _ => 0) 0 (a1 + (8 * a2))) 1 a3) 2 a4), aI c q183n 5 (wr (wr (wr (wr (wr (fun _ => 0) 0 0) 1 0) 2 0) 3 x216) 4 x237)]) rfl hi rfl dX7_addBarrel_237 238 rfl ?_
                  refine vv_astore C [(9, .ref q183n), (0, .ref (M 0))] dX7_addBarrel_238 (by decide) rfl 240 rfl ?_
                  refine vv_aload C dX7_addBarrel_240 0 rfl 242 rfl ?_
                  refine vv_iconst C (v := 0) dX7_addBarrel_242 (by decide) 243 rfl ?_
                  refine vv_aload_n C dX7_addBarrel_243 rfl 1 rfl 244 rfl ?_
                  refine vv_get C (q0 := 0) (ci := 7) (k := 8) kinX7_addBarrel_X7 rfl rfl (by decide) kwX7_addBarrel_9 rfl rfl dX7_addBarrel_244 247 rfl ?_
                  refine vv_iconst C (v := 5) dX7_addBarrel_247 (by decide) 248 rfl ?_
                  refine vv_aload_n C dX7_addBarrel_248 rfl 1 rfl 249 rfl ?_
                  refine vv_get C (q0 := 0) (ci := 7) (k := 5) kinX7_addBarrel_X7 rfl rfl (by decide) kwX7_addBarrel_2 rfl rfl dX7_addBarrel_249 252 rfl ?_
                  refine vv_imul C dX7_addBarrel_252 253 rfl ?_
                  refine vv_iconst C (v := 5) dX7_addBarrel_253 (by decide) 254 rfl ?_
                  obtain ⟨hcp, h⟩ := chkP_s h
                  refine vv_copy C (q0 := 4) (q1 := 2) ((wX7_addBarrel c M 0 M_waters M_windX M_windY M_barrels M_crew (cpy (wr (wr (wr (fun _ => 0) 0 (a1 + (8 * a2))) 1 a3) 2 a4) M_fixed 0 (3 * M_barrels) 3) (cpy (wr (wr (wr (wr (wr (fun _ => 0) 0 0) 1 0) 2 0) 3 x216) 4 x237) M_table 0 (5 * M_barrels) 5)) ++ [aI c q147n 3 (wr (wr (wr (fun _ => 0) 0 (a1 + (8 * a2))) 1 a3) 2 a4), aI c q183n 5 (wr (wr (wr (wr (wr (fun _ => 0) 0 0) 1 0) 2 0) 3 x216) 4 x237)]) kwX7_addBarrel_5 kwX7_addBarrel_6 kwX7_addBarrel_7 kwX7_addBarrel_8 rfl rfl hcp ⟨Nat.le_of_ble_eq_true rfl, Nat.le_of_ble_eq_true rfl⟩ rfl dX7_addBarrel_254 257 rfl ?_
                  refine vv_aload_n C dX7_addBarrel_257 rfl 1 rfl 258 rfl ?_
                  refine vv_dup C dX7_addBarrel_258 rfl 259 rfl ?_
                  refine vv_get C (q0 := 0) (ci := 7) (k := 5) kinX7_addBarrel_X7 rfl rfl (by decide) kwX7_addBarrel_2 rfl rfl dX7_addBarrel_259 262 rfl ?_
                  refine vv_iconst C (v := 1) dX7_addBarrel_262 (by decide) 263 rfl ?_
                  refine vv_iadd C dX7_addBarrel_263 264 rfl ?_
                  refine vv_put C (q0 := 0) (ci := 7) (k := 5) (ty := .int) ((wX7_addBarrel c M 0 M_waters M_windX M_windY (M_barrels + 1) M_crew (cpy (wr (wr (wr (fun _ => 0) 0 (a1 + (8 * a2))) 1 a3) 2 a4) M_fixed 0 (3 * M_barrels) 3) (cpy (wr (wr (wr (wr (wr (fun _ => 0) 0 0) 1 0) 2 0) 3 x216) 4 x237) M_table 0 (5 * M_barrels) 5)) ++ [aI c q147n 3 (wr (wr (wr (fun _ => 0) 0 (a1 + (8 * a2))) 1 a3) 2 a4), aI c q183n 5 (wr (wr (wr (wr (wr (fun _ => 0) 0 0) 1 0) 2 0) 3 x216) 4 x237)]) tyX7 tyX7_ok nmX7 kinX7_addBarrel_X7 rfl rfl (by decide) kwX7_addBarrel_2 rfl rfl rfl rfl rfl (Nat.le_of_ble_eq_true rfl) rfl dX7_addBarrel_264 267 rfl ?_
                  refine vv_aload_n C dX7_addBarrel_267 rfl 1 rfl 268 rfl ?_
                  refine vv_get C (q0 := 0) (ci := 7) (k := 5) kinX7_addBarrel_X7 rfl rfl (by decide) kwX7_addBarrel_2 rfl rfl dX7_addBarrel_268 271 rfl ?_
                  refine vv_iconst C (v := 1) dX7_addBarrel_271 (by decide) 272 rfl ?_
                  refine vv_isub C dX7_addBarrel_272 273 rfl ?_
                  obtain rfl := Option.some.inj h
                  refine vv_sub [0, 1, 2] [] (wX7_addBarrel c M 0 M_waters M_windX M_windY (M_barrels + 1) M_crew (cpy (wr (wr (wr (fun _ => 0) 0 (a1 + (8 * a2))) 1 a3) 2 a4) M_fixed 0 (3 * M_barrels) 3) (cpy (wr (wr (wr (wr (wr (fun _ => 0) 0 0) 1 0) 2 0) 3 x216) 4 x237) M_table 0 (5 * M_barrels) 5)) [] rfl (by decide) rfl ?_
                  exact ret _ _ dX7_addBarrel_273
                refine vv_icmp_ne C 230 225 dX7_addBarrel_222 (by decide) rfl (fun hc => ?_) (fun hc => ?_)
                · replace h := ite_f hc h
                  refine vv_aload_n C dX7_addBarrel_230 rfl 0 rfl 231 rfl ?_
                  refine vv_iload C dX7_addBarrel_231 1 rfl 233 rfl ?_
                  refine vv_iconst C (v := 4) dX7_addBarrel_233 (by decide) 234 rfl ?_
                  obtain ⟨r13, hr13, h⟩ := bnd_s h
                  refine vv_callVi C (fun l => mt_X7_ba l D c M 0 M_waters M_windX M_windY M_barrels M_crew M_table r12.1 4 r13 hr13) gX7_addBarrel_X7_ba rfl rfl rfl yd_X7_ba ⟨Nat.le_of_ble_eq_true rfl, Nat.le_of_ble_eq_true rfl⟩ [0, 2] rfl (by decide) 0 rfl rfl ((wX7_addBarrel c M 0 M_waters M_windX M_windY M_barrels M_crew (cpy (wr (wr (wr (fun _ => 0) 0 (a1 + (8 * a2))) 1 a3) 2 a4) M_fixed 0 (3 * M_barrels) 3) M_table) ++ [aI c q147n 3 (wr (wr (wr (fun _ => 0) 0 (a1 + (8 * a2))) 1 a3) 2 a4), aI c q183n 5 (wr (wr (wr (wr (fun _ => 0) 0 0) 1 0) 2 0) 3 x216)]) [(true, 0), (false, 1), (true, 1), (false, 3), (false, 4)] rfl (by decide) rfl rfl [.int 4, .ref q183n, .ref q183n] rfl (Nat.le_of_ble_eq_true rfl) ⟨Nat.le_of_ble_eq_true rfl, Nat.le_of_ble_eq_true rfl⟩ dX7_addBarrel_234 237 2 8 rfl ⟨rfl, rfl⟩ ?_
                  refine vv_lv [0] [(0, .ref (M 0))] rfl ?_
                  exact J237 r13 h
                · replace h := ite_t hc h
                  refine vv_bipush C (v := 10) dX7_addBarrel_225 (by decide) 227 rfl ?_
                  refine vv_goto C 237 dX7_addBarrel_227 (by decide) ?_
                  refine vv_lv [0] [(0, .ref (M 0))] rfl ?_
                  exact J237 10 h
              refine vv_icmp_ne C 209 205 dX7_addBarrel_202 (by decide) rfl (fun hc => ?_) (fun hc => ?_)
              · replace h := ite_f hc h
                refine vv_aload_n C dX7_addBarrel_209 rfl 1 rfl 210 rfl ?_
                refine vv_iload C dX7_addBarrel_210 5 rfl 212 rfl ?_
                refine vv_iconst C (v := 3) dX7_addBarrel_212 (by decide) 213 rfl ?_
                obtain ⟨r14, hr14, h⟩ := bnd_s h
                refine vv_callVi C (fun l => mt_X7_ba l D c M 0 M_waters M_windX M_windY M_barrels M_crew M_table r12.1 3 r14 hr14) gX7_addBarrel_X7_ba rfl rfl rfl yd_X7_ba ⟨Nat.le_of_ble_eq_true rfl, Nat.le_of_ble_eq_true rfl⟩ [0, 2] rfl (by decide) 0 rfl rfl ((wX7_addBarrel c M 0 M_waters M_windX M_windY M_barrels M_crew (cpy (wr (wr (wr (fun _ => 0) 0 (a1 + (8 * a2))) 1 a3) 2 a4) M_fixed 0 (3 * M_barrels) 3) M_table) ++ [aI c q147n 3 (wr (wr (wr (fun _ => 0) 0 (a1 + (8 * a2))) 1 a3) 2 a4), aI c q183n 5 (wr (wr (wr (fun _ => 0) 0 0) 1 0) 2 0)]) [(true, 0), (false, 1), (true, 1), (false, 3), (false, 4)] rfl (by decide) rfl rfl [.int 3, .ref q183n, .ref q183n] rfl (Nat.le_of_ble_eq_true rfl) ⟨Nat.le_of_ble_eq_true rfl, Nat.le_of_ble_eq_true rfl⟩ dX7_addBarrel_213 216 2 8 rfl ⟨rfl, rfl⟩ ?_
                refine vv_lv [1, 5] [(0, .ref (M 0)), (6, .int r12.1)] rfl ?_
                exact J216 r14 h
              · replace h := ite_t hc h
                refine vv_iconst C (v := 0) dX7_addBarrel_205 (by decide) 206 rfl ?_
                refine vv_goto C 216 dX7_addBarrel_206 (by decide) ?_
                refine vv_lv [1, 5] [(0, .ref (M 0)), (6, .int r12.1)] rfl ?_
                exact J216 0 h
            · replace h := ite_t hc h
              refine vv_aload_n C dX7_addBarrel_140 rfl 0 rfl 141 rfl ?_
              refine vv_iconst C (v := 2) dX7_addBarrel_141 (by decide) 142 rfl ?_
              obtain ⟨r15, hr15, h⟩ := bnd_s h
              refine vv_callVi C (fun l => mt_X7_fail l D c M 0 M_waters M_windX M_windY M_barrels M_crew 2 r15 hr15) gX7_addBarrel_X7_fail rfl rfl rfl yd_X7_fail ⟨Nat.le_of_ble_eq_true rfl, Nat.le_of_ble_eq_true rfl⟩ [0] rfl (by decide) 0 rfl rfl (wX7_addBarrel c M r15.2 M_waters M_windX M_windY M_barrels M_crew M_fixed M_table) [(true, 0), (false, 1), (false, 2)] rfl (by decide) rfl rfl [] rfl (Nat.le_of_ble_eq_true rfl) ⟨Nat.le_of_ble_eq_true rfl, Nat.le_of_ble_eq_true rfl⟩ dX7_addBarrel_142 145 0 0 rfl ⟨rfl, rfl⟩ ?_
              obtain rfl := Option.some.inj h
              refine vv_widen (k := 2) (n := 8) (by decide) (by decide) ?_
              exact ret _ _ dX7_addBarrel_145
          refine vv_icmp_ge C 76 72 dX7_addBarrel_69 (by decide) rfl (fun hc => ?_) (fun hc => ?_)
          · replace h := ite_t hc h
            refine vv_iconst C (v := 0) dX7_addBarrel_76 (by decide) 77 rfl ?_
            refine vv_lv [2, 5, 6, 1, 0] [(0, .ref (M 0)), (3, .int a3), (4, .int a4), (5, .int (a1 + (8 * a2))), (6, .int (-1))] rfl ?_
            exact J77 0 h
          · replace h := ite_f hc h
            refine vv_iconst C (v := 1) dX7_addBarrel_72 (by decide) 73 rfl ?_
            refine vv_goto C 77 dX7_addBarrel_73 (by decide) ?_
            refine vv_lv [2, 5, 6, 1, 0] [(0, .ref (M 0)), (3, .int a3), (4, .int a4), (5, .int (a1 + (8 * a2))), (6, .int (-1))] rfl ?_
            exact J77 1 h
        · replace h := ite_t hc h
          refine vv_aload_n C dX7_addBarrel_46 rfl 0 rfl 47 rfl ?_
          refine vv_iconst C (v := 1) dX7_addBarrel_47 (by decide) 48 rfl ?_
          obtain ⟨r16, hr16, h⟩ := bnd_s h
          refine vv_callVi C (fun l => mt_X7_fail l D c M 0 M_waters M_windX M_windY M_barrels M_crew 1 r16 hr16) gX7_addBarrel_X7_fail rfl rfl rfl yd_X7_fail ⟨Nat.le_of_ble_eq_true rfl, Nat.le_of_ble_eq_true rfl⟩ [0] rfl (by decide) 0 rfl rfl (wX7_addBarrel c M r16.2 M_waters M_windX M_windY M_barrels M_crew M_fixed M_table) [(true, 0), (false, 1), (false, 2)] rfl (by decide) rfl rfl [] rfl (Nat.le_of_ble_eq_true rfl) ⟨Nat.le_of_ble_eq_true rfl, Nat.le_of_ble_eq_true rfl⟩ dX7_addBarrel_48 51 0 0 rfl ⟨rfl, rfl⟩ ?_
          obtain rfl := Option.some.inj h
          refine vv_widen (k := 2) (n := 8) (by decide) (by decide) ?_
          exact ret _ _ dX7_addBarrel_51
abbrev wX7_isBarrel (c : Nat → ClassId) (M : Nat → Nat) (M_thrown : Int32) (M_waters : Int32) (M_windX : Int32) (M_windY : Int32) (M_barrels : Int32) (M_crew : Int32) : va_W := [(M 0, .inr (7, [.int M_thrown, .int M_waters, .ref (M 1), .int M_windX, .int M_windY, .int M_barrels, .ref (M 2), .int M_crew, .ref (M 3), .ref (M 4), .ref (M 5), .ref (M 6), .ref (M 7), .ref (M 8), .ref (M 9), .ref (M 10), .ref (M 11), .ref (M 12)]))]
abbrev rmX7_isBarrel : Room := { frames := 1, cells := 0, slots := 0, locals := 22 }
theorem yd_X7_isBarrel : yX7_isBarrel.cls = RX7 ∧ yX7_isBarrel.cls ≠ "java/lang/invoke/MethodHandle" ∧ yX7_isBarrel.cls ≠ "java/lang/invoke/VarHandle" ∧ (parseMethodDescriptor yX7_isBarrel.desc).map (fun d => d.parameters.length) = some 1 := by decide +kernel
theorem kwX7_isBarrel_1 : Cond.fieldLink RX7 51 "BarrelRaftModel" "barrels" "I" ∈ wsX7_isBarrel := List.mem_of_getElem? (i := 1) rfl
set_option maxRecDepth 20000 in
theorem kinX7_isBarrel_X7 : ∀ w ∈ u_ws RX7 TX7 18, w ∈ wsX7_isBarrel := by decide +kernel
def jX7_isBarrel (M_barrels : Int32) (a1 : Int32) : Option (Int32) :=
  bnd (jX7_isIn a1 0 (M_barrels - 1)) (fun r1 => chkZ r1 (some r1))
set_option maxHeartbeats 4000000 in
set_option maxRecDepth 100000 in
theorem mt_X7_isBarrel (l : Launch) (D : va_G) (c : Nat → ClassId) (M : Nat → Nat) (M_thrown : Int32) (M_waters : Int32) (M_windX : Int32) (M_windY : Int32) (M_barrels : Int32) (M_crew : Int32) (a1 : Int32) (q0 : Int32) (h : jX7_isBarrel M_barrels a1 = some q0) : DTi l yX7_isBarrel wsX7_isBarrel rmX7_isBarrel D c (wX7_isBarrel c M M_thrown M_waters M_windX M_windY M_barrels M_crew) [.ref (M 0), .int a1] q0 (wX7_isBarrel c M M_thrown M_waters M_windX M_windY M_barrels M_crew) 0 0 := by
  refine DTz_of (cc := cX7_isBarrel) (nL := 2) RX7 rfl (by decide) rfl (Nat.le_of_ble_eq_true rfl) (fun g C ret => ?_)
  unfold jX7_isBarrel at h
  refine vv_lv [0, 1] [(0, .ref (M 0)), (1, .int a1)] rfl ?_
  refine vv_iload_n C dX7_isBarrel_0 rfl 1 rfl 1 rfl ?_
  refine vv_iconst C (v := 0) dX7_isBarrel_1 (by decide) 2 rfl ?_
  refine vv_aload_n C dX7_isBarrel_2 rfl 0 rfl 3 rfl ?_
  refine vv_get C (q0 := 0) (ci := 7) (k := 5) kinX7_isBarrel_X7 rfl rfl (by decide) kwX7_isBarrel_1 rfl rfl dX7_isBarrel_3 6 rfl ?_
  refine vv_iconst C (v := 1) dX7_isBarrel_6 (by decide) 7 rfl ?_
  refine vv_isub C dX7_isBarrel_7 8 rfl ?_
  obtain ⟨r1, hr1, h⟩ := bnd_s h
  refine vv_callSi C (fun l => mt_X7_isIn l D c a1 0 (M_barrels - 1) r1 hr1) gX7_isBarrel_X7_isIn rfl rfl rfl yd_X7_isIn ⟨Nat.le_of_ble_eq_true rfl, Nat.le_of_ble_eq_true rfl⟩ [] rfl (by decide) (wX7_isBarrel c M M_thrown M_waters M_windX M_windY M_barrels M_crew) [(false, 0)] rfl (by decide) rfl rfl [] rfl (Nat.le_of_ble_eq_true rfl) ⟨Nat.le_of_ble_eq_true rfl, Nat.le_of_ble_eq_true rfl⟩ dX7_isBarrel_8 11 0 0 rfl ⟨rfl, rfl⟩ ?_
  obtain ⟨hz, h⟩ := chkZ_s h
  obtain rfl := Option.some.inj h
  exact ret _ _ hz dX7_isBarrel_11
abbrev wX7_addCastaway (c : Nat → ClassId) (M : Nat → Nat) (M_thrown : Int32) (M_waters : Int32) (M_windX : Int32) (M_windY : Int32) (M_barrels : Int32) (M_crew : Int32) (M_table : Nat → Int32) (M_people : Nat → Int32) : va_W := [(M 0, .inr (7, [.int M_thrown, .int M_waters, .ref (M 1), .int M_windX, .int M_windY, .int M_barrels, .ref (M 2), .int M_crew, .ref (M 3), .ref (M 4), .ref (M 5), .ref (M 6), .ref (M 7), .ref (M 8), .ref (M 9), .ref (M 10), .ref (M 11), .ref (M 12)])), aI c (M 3) 120 M_table, aI c (M 6) 16 M_people]
abbrev rmX7_addCastaway : Room := { frames := 2, cells := 0, slots := 0, locals := 43 }
theorem yd_X7_addCastaway : yX7_addCastaway.cls = RX7 ∧ yX7_addCastaway.cls ≠ "java/lang/invoke/MethodHandle" ∧ yX7_addCastaway.cls ≠ "java/lang/invoke/VarHandle" ∧ (parseMethodDescriptor yX7_addCastaway.desc).map (fun d => d.parameters.length) = some 1 := by decide +kernel
theorem kwX7_addCastaway_1 : Cond.fieldLink RX7 47 "BarrelRaftModel" "thrown" "I" ∈ wsX7_addCastaway := List.mem_of_getElem? (i := 1) rfl
set_option maxRecDepth 20000 in
theorem kinX7_addCastaway_X7 : ∀ w ∈ u_ws RX7 TX7 18, w ∈ wsX7_addCastaway := by decide +kernel
theorem kwX7_addCastaway_2 : Cond.fieldLink RX7 127 "BarrelRaftModel" "crew" "I" ∈ wsX7_addCastaway := List.mem_of_getElem? (i := 2) rfl
theorem kwX7_addCastaway_3 : Cond.fieldLink RX7 25 "BarrelRaftModel" "people" "[I" ∈ wsX7_addCastaway := List.mem_of_getElem? (i := 3) rfl
def jX7_addCastaway (M_thrown : Int32) (M_barrels : Int32) (M_crew : Int32) (M_table : Nat → Int32) (M_people : Nat → Int32) (a1 : Int32) : Option (Int32 × Int32 × Int32 × (Nat → Int32)) :=
  bnd (jX7_isBarrel M_barrels a1) (fun r1 => (if r1 = 0 then bnd (jX7_fail 0 1) (fun r5 => some (r5.1, r5.2, M_crew, M_people)) else bnd (jX7_floats M_table a1) (fun r2 => (if r2 = 0 then bnd (jX7_fail 0 2) (fun r3 => some (r3.1, r3.2, M_crew, M_people)) else (if M_crew = 8 then bnd (jX7_fail 0 2) (fun r4 => some (r4.1, r4.2, M_crew, M_people)) else chk 16 (2 * M_crew) (some ((M_crew + 1) - 1, 0, M_crew + 1, wr M_people (2 * M_crew) a1)))))))
set_option maxHeartbeats 4000000 in
set_option maxRecDepth 100000 in
theorem mt_X7_addCastaway (l : Launch) (D : va_G) (c : Nat → ClassId) (M : Nat → Nat) (M_thrown : Int32) (M_waters : Int32) (M_windX : Int32) (M_windY : Int32) (M_barrels : Int32) (M_crew : Int32) (M_table : Nat → Int32) (M_people : Nat → Int32) (a1 : Int32) (q0 : Int32 × Int32 × Int32 × (Nat → Int32)) (h : jX7_addCastaway M_thrown M_barrels M_crew M_table M_people a1 = some q0) : DTi l yX7_addCastaway wsX7_addCastaway rmX7_addCastaway D c (wX7_addCastaway c M M_thrown M_waters M_windX M_windY M_barrels M_crew M_table M_people) [.ref (M 0), .int a1] q0.1 (wX7_addCastaway c M q0.2.1 M_waters M_windX M_windY M_barrels q0.2.2.1 M_table q0.2.2.2) 0 0 := by
  refine DTi_of (cc := cX7_addCastaway) (nL := 2) RX7 rfl (by decide) rfl (Nat.le_of_ble_eq_true rfl) (fun g C ret => ?_)
  unfold jX7_addCastaway at h
  refine vv_lv [0, 1] [(0, .ref (M 0)), (1, .int a1)] rfl ?_
  refine vv_aload_n C dX7_addCastaway_0 rfl 0 rfl 1 rfl ?_
  refine vv_iconst C (v := 0) dX7_addCastaway_1 (by decide) 2 rfl ?_
  refine vv_put C (q0 := 0) (ci := 7) (k := 0) (ty := .int) (wX7_addCastaway c M 0 M_waters M_windX M_windY M_barrels M_crew M_table M_people) tyX7 tyX7_ok nmX7 kinX7_addCastaway_X7 rfl rfl (by decide) kwX7_addCastaway_1 rfl rfl rfl rfl rfl (Nat.le_of_ble_eq_true rfl) rfl dX7_addCastaway_2 5 rfl ?_
  refine vv_aload_n C dX7_addCastaway_5 rfl 0 rfl 6 rfl ?_
  refine vv_iload_n C dX7_addCastaway_6 rfl 1 rfl 7 rfl ?_
  obtain ⟨r1, hr1, h⟩ := bnd_s h
  refine vv_callVi C (fun l => mt_X7_isBarrel l D c M 0 M_waters M_windX M_windY M_barrels M_crew a1 r1 hr1) gX7_addCastaway_X7_isBarrel rfl rfl rfl yd_X7_isBarrel ⟨Nat.le_of_ble_eq_true rfl, Nat.le_of_ble_eq_true rfl⟩ [0] rfl (by decide) 0 rfl rfl (wX7_addCastaway c M 0 M_waters M_windX M_windY M_barrels M_crew M_table M_people) [(true, 0), (false, 1), (false, 2)] rfl (by decide) rfl rfl [] rfl (Nat.le_of_ble_eq_true rfl) ⟨Nat.le_of_ble_eq_true rfl, Nat.le_of_ble_eq_true rfl⟩ dX7_addCastaway_7 10 0 0 rfl ⟨rfl, rfl⟩ ?_
  refine vv_if_ne C 19 13 dX7_addCastaway_10 (by decide) rfl (fun hc => ?_) (fun hc => ?_)
  · replace h := ite_f hc h
    refine vv_aload_n C dX7_addCastaway_19 rfl 0 rfl 20 rfl ?_
    refine vv_iload_n C dX7_addCastaway_20 rfl 1 rfl 21 rfl ?_
    obtain ⟨r2, hr2, h⟩ := bnd_s h
    refine vv_callVi C (fun l => mt_X7_floats l D c M 0 M_waters M_windX M_windY M_barrels M_crew M_table a1 r2 hr2) gX7_addCastaway_X7_floats rfl rfl rfl yd_X7_floats ⟨Nat.le_of_ble_eq_true rfl, Nat.le_of_ble_eq_true rfl⟩ [0, 1] rfl (by decide) 0 rfl rfl (wX7_addCastaway c M 0 M_waters M_windX M_windY M_barrels M_crew M_table M_people) [(true, 0), (true, 1), (false, 2)] rfl (by decide) rfl rfl [] rfl (Nat.le_of_ble_eq_true rfl) ⟨Nat.le_of_ble_eq_true rfl, Nat.le_of_ble_eq_true rfl⟩ dX7_addCastaway_21 24 0 0 rfl ⟨rfl, rfl⟩ ?_
    refine vv_if_eq C 36 27 dX7_addCastaway_24 (by decide) rfl (fun hc => ?_) (fun hc => ?_)
    · replace h := ite_t hc h
      refine vv_aload_n C dX7_addCastaway_36 rfl 0 rfl 37 rfl ?_
      refine vv_iconst C (v := 2) dX7_addCastaway_37 (by decide) 38 rfl ?_
      obtain ⟨r3, hr3, h⟩ := bnd_s h
      refine vv_callVi C (fun l => mt_X7_fail l D c M 0 M_waters M_windX M_windY M_barrels M_crew 2 r3 hr3) gX7_addCastaway_X7_fail rfl rfl rfl yd_X7_fail ⟨Nat.le_of_ble_eq_true rfl, Nat.le_of_ble_eq_true rfl⟩ [0] rfl (by decide) 0 rfl rfl (wX7_addCastaway c M r3.2 M_waters M_windX M_windY M_barrels M_crew M_table M_people) [(true, 0), (false, 1), (false, 2)] rfl (by decide) rfl rfl [] rfl (Nat.le_of_ble_eq_true rfl) ⟨Nat.le_of_ble_eq_true rfl, Nat.le_of_ble_eq_true rfl⟩ dX7_addCastaway_38 41 0 0 rfl ⟨rfl, rfl⟩ ?_
      obtain rfl := Option.some.inj h
      exact ret _ _ dX7_addCastaway_41
    · replace h := ite_f hc h
      refine vv_aload_n C dX7_addCastaway_27 rfl 0 rfl 28 rfl ?_
      refine vv_get C (q0 := 0) (ci := 7) (k := 7) kinX7_addCastaway_X7 rfl rfl (by decide) kwX7_addCastaway_2 rfl rfl dX7_addCastaway_28 31 rfl ?_
      refine vv_bipush C (v := 8) dX7_addCastaway_31 (by decide) 33 rfl ?_
      refine vv_icmp_ne C 42 36 dX7_addCastaway_33 (by decide) rfl (fun hc => ?_) (fun hc => ?_)
      · replace h := ite_f hc h
        refine vv_aload_n C dX7_addCastaway_42 rfl 0 rfl 43 rfl ?_
        refine vv_get C (q0 := 0) (ci := 7) (k := 11) kinX7_addCastaway_X7 rfl rfl (by decide) kwX7_addCastaway_3 rfl rfl dX7_addCastaway_43 46 rfl ?_
        refine vv_iconst C (v := 2) dX7_addCastaway_46 (by decide) 47 rfl ?_
        refine vv_aload_n C dX7_addCastaway_47 rfl 0 rfl 48 rfl ?_
        refine vv_get C (q0 := 0) (ci := 7) (k := 7) kinX7_addCastaway_X7 rfl rfl (by decide) kwX7_addCastaway_2 rfl rfl dX7_addCastaway_48 51 rfl ?_
        refine vv_imul C dX7_addCastaway_51 52 rfl ?_
        refine vv_iload_n C dX7_addCastaway_52 rfl 1 rfl 53 rfl ?_
        obtain ⟨hi, h⟩ := chk_s h
        refine vv_iast C (q0 := 2) (wX7_addCastaway c M 0 M_waters M_windX M_windY M_barrels M_crew M_table (wr M_people (2 * M_crew) a1)) rfl hi rfl dX7_addCastaway_53 54 rfl ?_
        refine vv_aload_n C dX7_addCastaway_54 rfl 0 rfl 55 rfl ?_
        refine vv_dup C dX7_addCastaway_55 rfl 56 rfl ?_
        refine vv_get C (q0 := 0) (ci := 7) (k := 7) kinX7_addCastaway_X7 rfl rfl (by decide) kwX7_addCastaway_2 rfl rfl dX7_addCastaway_56 59 rfl ?_
        refine vv_iconst C (v := 1) dX7_addCastaway_59 (by decide) 60 rfl ?_
        refine vv_iadd C dX7_addCastaway_60 61 rfl ?_
        refine vv_put C (q0 := 0) (ci := 7) (k := 7) (ty := .int) (wX7_addCastaway c M 0 M_waters M_windX M_windY M_barrels (M_crew + 1) M_table (wr M_people (2 * M_crew) a1)) tyX7 tyX7_ok nmX7 kinX7_addCastaway_X7 rfl rfl (by decide) kwX7_addCastaway_2 rfl rfl rfl rfl rfl (Nat.le_of_ble_eq_true rfl) rfl dX7_addCastaway_61 64 rfl ?_
        refine vv_aload_n C dX7_addCastaway_64 rfl 0 rfl 65 rfl ?_
        refine vv_get C (q0 := 0) (ci := 7) (k := 7) kinX7_addCastaway_X7 rfl rfl (by decide) kwX7_addCastaway_2 rfl rfl dX7_addCastaway_65 68 rfl ?_
        refine vv_iconst C (v := 1) dX7_addCastaway_68 (by decide) 69 rfl ?_
        refine vv_isub C dX7_addCastaway_69 70 rfl ?_
        obtain rfl := Option.some.inj h
        exact ret _ _ dX7_addCastaway_70
      · replace h := ite_t hc h
        refine vv_aload_n C dX7_addCastaway_36 rfl 0 rfl 37 rfl ?_
        refine vv_iconst C (v := 2) dX7_addCastaway_37 (by decide) 38 rfl ?_
        obtain ⟨r4, hr4, h⟩ := bnd_s h
        refine vv_callVi C (fun l => mt_X7_fail l D c M 0 M_waters M_windX M_windY M_barrels M_crew 2 r4 hr4) gX7_addCastaway_X7_fail rfl rfl rfl yd_X7_fail ⟨Nat.le_of_ble_eq_true rfl, Nat.le_of_ble_eq_true rfl⟩ [0] rfl (by decide) 0 rfl rfl (wX7_addCastaway c M r4.2 M_waters M_windX M_windY M_barrels M_crew M_table M_people) [(true, 0), (false, 1), (false, 2)] rfl (by decide) rfl rfl [] rfl (Nat.le_of_ble_eq_true rfl) ⟨Nat.le_of_ble_eq_true rfl, Nat.le_of_ble_eq_true rfl⟩ dX7_addCastaway_38 41 0 0 rfl ⟨rfl, rfl⟩ ?_
        obtain rfl := Option.some.inj h
        exact ret _ _ dX7_addCastaway_41
  · replace h := ite_t hc h
    refine vv_aload_n C dX7_addCastaway_13 rfl 0 rfl 14 rfl ?_
    refine vv_iconst C (v := 1) dX7_addCastaway_14 (by decide) 15 rfl ?_
    obtain ⟨r5, hr5, h⟩ := bnd_s h
    refine vv_callVi C (fun l => mt_X7_fail l D c M 0 M_waters M_windX M_windY M_barrels M_crew 1 r5 hr5) gX7_addCastaway_X7_fail rfl rfl rfl yd_X7_fail ⟨Nat.le_of_ble_eq_true rfl, Nat.le_of_ble_eq_true rfl⟩ [0] rfl (by decide) 0 rfl rfl (wX7_addCastaway c M r5.2 M_waters M_windX M_windY M_barrels M_crew M_table M_people) [(true, 0), (false, 1), (false, 2)] rfl (by decide) rfl rfl [] rfl (Nat.le_of_ble_eq_true rfl) ⟨Nat.le_of_ble_eq_true rfl, Nat.le_of_ble_eq_true rfl⟩ dX7_addCastaway_15 18 0 0 rfl ⟨rfl, rfl⟩ ?_
    obtain rfl := Option.some.inj h
    exact ret _ _ dX7_addCastaway_18
abbrev wX7_addWater (c : Nat → ClassId) (M : Nat → Nat) (M_thrown : Int32) (M_waters : Int32) (M_windX : Int32) (M_windY : Int32) (M_barrels : Int32) (M_crew : Int32) (M_waterTable : Nat → Int32) : va_W := [(M 0, .inr (7, [.int M_thrown, .int M_waters, .ref (M 1), .int M_windX, .int M_windY, .int M_barrels, .ref (M 2), .int M_crew, .ref (M 3), .ref (M 4), .ref (M 5), .ref (M 6), .ref (M 7), .ref (M 8), .ref (M 9), .ref (M 10), .ref (M 11), .ref (M 12)])), aI c (M 1) 56 M_waterTable]
abbrev rmX7_addWater : Room := { frames := 1, cells := 1, slots := 7, locals := 60 }
theorem yd_X7_addWater : yX7_addWater.cls = RX7 ∧ yX7_addWater.cls ≠ "java/lang/invoke/MethodHandle" ∧ yX7_addWater.cls ≠ "java/lang/invoke/VarHandle" ∧ (parseMethodDescriptor yX7_addWater.desc).map (fun d => d.parameters.length) = some 7 := by decide +kernel
theorem kwX7_addWater_1 : Cond.fieldLink RX7 47 "BarrelRaftModel" "thrown" "I" ∈ wsX7_addWater := List.mem_of_getElem? (i := 1) rfl
set_option maxRecDepth 20000 in
theorem kinX7_addWater_X7 : ∀ w ∈ u_ws RX7 TX7 18, w ∈ wsX7_addWater := by decide +kernel
theorem kwX7_addWater_2 : Cond.fieldLink RX7 77 "BarrelRaftModel" "waters" "I" ∈ wsX7_addWater := List.mem_of_getElem? (i := 2) rfl
theorem kwX7_addWater_3 : Cond.arrayClass .int ∈ wsX7_addWater := List.mem_of_getElem? (i := 3) rfl
theorem kwX7_addWater_4 : Cond.fieldLink RX7 9 "BarrelRaftModel" "waterTable" "[I" ∈ wsX7_addWater := List.mem_of_getElem? (i := 4) rfl
theorem kwX7_addWater_5 : Cond.methodLink RX7 80 arraycopyName ∈ wsX7_addWater := List.mem_of_getElem? (i := 5) rfl
theorem kwX7_addWater_6 : Cond.native arraycopyName ∈ wsX7_addWater := List.mem_of_getElem? (i := 6) rfl
theorem kwX7_addWater_7 : Cond.static arraycopyName ∈ wsX7_addWater := List.mem_of_getElem? (i := 7) rfl
theorem kwX7_addWater_8 : Cond.initialized "java/lang/System" ∈ wsX7_addWater := List.mem_of_getElem? (i := 8) rfl
def jX7_addWater (M_thrown : Int32) (M_waters : Int32) (M_waterTable : Nat → Int32) (a1 : Int32) (a2 : Int32) (a3 : Int32) (a4 : Int32) (a5 : Int32) (a6 : Int32) (a7 : Int32) : Option (Int32 × Int32 × Int32 × (Nat → Int32)) :=
  bnd (jX7_isIn a1 0 29) (fun r1 => (if r1 = 0 then bnd (jX7_fail 0 1) (fun r2 => some (r2.1, r2.2, M_waters, M_waterTable)) else bnd (jX7_isIn a2 0 19) (fun r3 => (if r3 = 0 then bnd (jX7_fail 0 1) (fun r4 => some (r4.1, r4.2, M_waters, M_waterTable)) else bnd (jX7_isIn a3 1 (30 - a1)) (fun r5 => (if r5 = 0 then bnd (jX7_fail 0 1) (fun r6 => some (r6.1, r6.2, M_waters, M_waterTable)) else bnd (jX7_isIn a4 1 (20 - a2)) (fun r7 => (if r7 = 0 then bnd (jX7_fail 0 1) (fun r8 => some (r8.1, r8.2, M_waters, M_waterTable)) else bnd (jX7_isIn a5 (-2) 2) (fun r9 => (if r9 = 0 then bnd (jX7_fail 0 1) (fun r10 => some (r10.1, r10.2, M_waters, M_waterTable)) else bnd (jX7_isIn a6 (-2) 2) (fun r11 => (if r11 = 0 then bnd (jX7_fail 0 1) (fun r12 => some (r12.1, r12.2, M_waters, M_waterTable)) else bnd (jX7_isIn a7 0 20) (fun r13 => (if r13 = 0 then bnd (jX7_fail 0 1) (fun r15 => some (r15.1, r15.2, M_waters, M_waterTable)) else (if M_waters = 8 then bnd (jX7_fail 0 2) (fun r14 => some (r14.1, r14.2, M_waters, M_waterTable)) else chk 7 0 (chk 7 1 (chk 7 2 (chk 7 3 (chk 7 4 (chk 7 5 (chk 7 6 (chkP (CPOK 7 56 0 (7 * M_waters) 7) (some ((M_waters + 1) - 1, 0, M_waters + 1, cpy (wr (wr (wr (wr (wr (wr (wr (fun _ => 0) 0 a1) 1 a2) 2 a3) 3 a4) 4 a5) 5 a6) 6 a7) M_waterTable 0 (7 * M_waters) 7))))))))))))))))))))))))
set_option maxHeartbeats 4000000 in
set_option maxRecDepth 100000 in
theorem mt_X7_addWater (l : Launch) (D : va_G) (c : Nat → ClassId) (M : Nat → Nat) (M_thrown : Int32) (M_waters : Int32) (M_windX : Int32) (M_windY : Int32) (M_barrels : Int32) (M_crew : Int32) (M_waterTable : Nat → Int32) (a1 : Int32) (a2 : Int32) (a3 : Int32) (a4 : Int32) (a5 : Int32) (a6 : Int32) (a7 : Int32) (q0 : Int32 × Int32 × Int32 × (Nat → Int32)) (h : jX7_addWater M_thrown M_waters M_waterTable a1 a2 a3 a4 a5 a6 a7 = some q0) : DTi l yX7_addWater wsX7_addWater rmX7_addWater D c (wX7_addWater c M M_thrown M_waters M_windX M_windY M_barrels M_crew M_waterTable) [.ref (M 0), .int a1, .int a2, .int a3, .int a4, .int a5, .int a6, .int a7] q0.1 (wX7_addWater c M q0.2.1 q0.2.2.1 M_windX M_windY M_barrels M_crew q0.2.2.2) 1 7 := by
  refine DTi_of (cc := cX7_addWater) (nL := 9) RX7 rfl (by decide) rfl (Nat.le_of_ble_eq_true rfl) (fun g C ret => ?_)
  unfold jX7_addWater at h
  refine vv_lv [0, 1, 2, 3, 4, 5, 6, 7] [(0, .ref (M 0)), (1, .int a1), (2, .int a2), (3, .int a3), (4, .int a4), (5, .int a5), (6, .int a6), (7, .int a7)] rfl ?_
  refine vv_aload_n C dX7_addWater_0 rfl 0 rfl 1 rfl ?_
  refine vv_iconst C (v := 0) dX7_addWater_1 (by decide) 2 rfl ?_
  refine vv_put C (q0 := 0) (ci := 7) (k := 0) (ty := .int) (wX7_addWater c M 0 M_waters M_windX M_windY M_barrels M_crew M_waterTable) tyX7 tyX7_ok nmX7 kinX7_addWater_X7 rfl rfl (by decide) kwX7_addWater_1 rfl rfl rfl rfl rfl (Nat.le_of_ble_eq_true rfl) rfl dX7_addWater_2 5 rfl ?_
  refine vv_iload_n C dX7_addWater_5 rfl 1 rfl 6 rfl ?_
  refine vv_iconst C (v := 0) dX7_addWater_6 (by decide) 7 rfl ?_
  refine vv_bipush C (v := 29) dX7_addWater_7 (by decide) 9 rfl ?_
  obtain ⟨r1, hr1, h⟩ := bnd_s h
  refine vv_callSi C (fun l => mt_X7_isIn l D c a1 0 29 r1 hr1) gX7_addWater_X7_isIn rfl rfl rfl yd_X7_isIn ⟨Nat.le_of_ble_eq_true rfl, Nat.le_of_ble_eq_true rfl⟩ [] rfl (by decide) (wX7_addWater c M 0 M_waters M_windX M_windY M_barrels M_crew M_waterTable) [(false, 0), (false, 1)] rfl (by decide) rfl rfl [] rfl (Nat.le_of_ble_eq_true rfl) ⟨Nat.le_of_ble_eq_true rfl, Nat.le_of_ble_eq_true rfl⟩ dX7_addWater_9 12 0 0 rfl ⟨rfl, rfl⟩ ?_
  refine vv_if_eq C 83 15 dX7_addWater_12 (by decide) rfl (fun hc => ?_) (fun hc => ?_)
  · replace h := ite_t hc h
    refine vv_aload_n C dX7_addWater_83 rfl 0 rfl 84 rfl ?_
    refine vv_iconst C (v := 1) dX7_addWater_84 (by decide) 85 rfl ?_
    obtain ⟨r2, hr2, h⟩ := bnd_s h
    refine vv_callVi C (fun l => mt_X7_fail l D c M 0 M_waters M_windX M_windY M_barrels M_crew 1 r2 hr2) gX7_addWater_X7_fail rfl rfl rfl yd_X7_fail ⟨Nat.le_of_ble_eq_true rfl, Nat.le_of_ble_eq_true rfl⟩ [0] rfl (by decide) 0 rfl rfl (wX7_addWater c M r2.2 M_waters M_windX M_windY M_barrels M_crew M_waterTable) [(true, 0), (false, 1)] rfl (by decide) rfl rfl [] rfl (Nat.le_of_ble_eq_true rfl) ⟨Nat.le_of_ble_eq_true rfl, Nat.le_of_ble_eq_true rfl⟩ dX7_addWater_85 88 0 0 rfl ⟨rfl, rfl⟩ ?_
    obtain rfl := Option.some.inj h
    refine vv_widen (k := 1) (n := 7) (by decide) (by decide) ?_
    exact ret _ _ dX7_addWater_88
  · replace h := ite_f hc h
    refine vv_iload_n C dX7_addWater_15 rfl 2 rfl 16 rfl ?_
    refine vv_iconst C (v := 0) dX7_addWater_16 (by decide) 17 rfl ?_
    refine vv_bipush C (v := 19) dX7_addWater_17 (by decide) 19 rfl ?_
    obtain ⟨r3, hr3, h⟩ := bnd_s h
    refine vv_callSi C (fun l => mt_X7_isIn l D c a2 0 19 r3 hr3) gX7_addWater_X7_isIn rfl rfl rfl yd_X7_isIn ⟨Nat.le_of_ble_eq_true rfl, Nat.le_of_ble_eq_true rfl⟩ [] rfl (by decide) (wX7_addWater c M 0 M_waters M_windX M_windY M_barrels M_crew M_waterTable) [(false, 0), (false, 1)] rfl (by decide) rfl rfl [] rfl (Nat.le_of_ble_eq_true rfl) ⟨Nat.le_of_ble_eq_true rfl, Nat.le_of_ble_eq_true rfl⟩ dX7_addWater_19 22 0 0 rfl ⟨rfl, rfl⟩ ?_
    refine vv_if_eq C 83 25 dX7_addWater_22 (by decide) rfl (fun hc => ?_) (fun hc => ?_)
    · replace h := ite_t hc h
      refine vv_aload_n C dX7_addWater_83 rfl 0 rfl 84 rfl ?_
      refine vv_iconst C (v := 1) dX7_addWater_84 (by decide) 85 rfl ?_
      obtain ⟨r4, hr4, h⟩ := bnd_s h
      refine vv_callVi C (fun l => mt_X7_fail l D c M 0 M_waters M_windX M_windY M_barrels M_crew 1 r4 hr4) gX7_addWater_X7_fail rfl rfl rfl yd_X7_fail ⟨Nat.le_of_ble_eq_true rfl, Nat.le_of_ble_eq_true rfl⟩ [0] rfl (by decide) 0 rfl rfl (wX7_addWater c M r4.2 M_waters M_windX M_windY M_barrels M_crew M_waterTable) [(true, 0), (false, 1)] rfl (by decide) rfl rfl [] rfl (Nat.le_of_ble_eq_true rfl) ⟨Nat.le_of_ble_eq_true rfl, Nat.le_of_ble_eq_true rfl⟩ dX7_addWater_85 88 0 0 rfl ⟨rfl, rfl⟩ ?_
      obtain rfl := Option.some.inj h
      refine vv_widen (k := 1) (n := 7) (by decide) (by decide) ?_
      exact ret _ _ dX7_addWater_88
    · replace h := ite_f hc h
      refine vv_iload_n C dX7_addWater_25 rfl 3 rfl 26 rfl ?_
      refine vv_iconst C (v := 1) dX7_addWater_26 (by decide) 27 rfl ?_
      refine vv_bipush C (v := 30) dX7_addWater_27 (by decide) 29 rfl ?_
      refine vv_iload_n C dX7_addWater_29 rfl 1 rfl 30 rfl ?_
      refine vv_isub C dX7_addWater_30 31 rfl ?_
      obtain ⟨r5, hr5, h⟩ := bnd_s h
      refine vv_callSi C (fun l => mt_X7_isIn l D c a3 1 (30 - a1) r5 hr5) gX7_addWater_X7_isIn rfl rfl rfl yd_X7_isIn ⟨Nat.le_of_ble_eq_true rfl, Nat.le_of_ble_eq_true rfl⟩ [] rfl (by decide) (wX7_addWater c M 0 M_waters M_windX M_windY M_barrels M_crew M_waterTable) [(false, 0), (false, 1)] rfl (by decide) rfl rfl [] rfl (Nat.le_of_ble_eq_true rfl) ⟨Nat.le_of_ble_eq_true rfl, Nat.le_of_ble_eq_true rfl⟩ dX7_addWater_31 34 0 0 rfl ⟨rfl, rfl⟩ ?_
      refine vv_if_eq C 83 37 dX7_addWater_34 (by decide) rfl (fun hc => ?_) (fun hc => ?_)
      · replace h := ite_t hc h
        refine vv_aload_n C dX7_addWater_83 rfl 0 rfl 84 rfl ?_
        refine vv_iconst C (v := 1) dX7_addWater_84 (by decide) 85 rfl ?_
        obtain ⟨r6, hr6, h⟩ := bnd_s h
        refine vv_callVi C (fun l => mt_X7_fail l D c M 0 M_waters M_windX M_windY M_barrels M_crew 1 r6 hr6) gX7_addWater_X7_fail rfl rfl rfl yd_X7_fail ⟨Nat.le_of_ble_eq_true rfl, Nat.le_of_ble_eq_true rfl⟩ [0] rfl (by decide) 0 rfl rfl (wX7_addWater c M r6.2 M_waters M_windX M_windY M_barrels M_crew M_waterTable) [(true, 0), (false, 1)] rfl (by decide) rfl rfl [] rfl (Nat.le_of_ble_eq_true rfl) ⟨Nat.le_of_ble_eq_true rfl, Nat.le_of_ble_eq_true rfl⟩ dX7_addWater_85 88 0 0 rfl ⟨rfl, rfl⟩ ?_
        obtain rfl := Option.some.inj h
        refine vv_widen (k := 1) (n := 7) (by decide) (by decide) ?_
        exact ret _ _ dX7_addWater_88
      · replace h := ite_f hc h
        refine vv_iload C dX7_addWater_37 4 rfl 39 rfl ?_
        refine vv_iconst C (v := 1) dX7_addWater_39 (by decide) 40 rfl ?_
        refine vv_bipush C (v := 20) dX7_addWater_40 (by decide) 42 rfl ?_
        refine vv_iload_n C dX7_addWater_42 rfl 2 rfl 43 rfl ?_
        refine vv_isub C dX7_addWater_43 44 rfl ?_
        obtain ⟨r7, hr7, h⟩ := bnd_s h
        refine vv_callSi C (fun l => mt_X7_isIn l D c a4 1 (20 - a2) r7 hr7) gX7_addWater_X7_isIn rfl rfl rfl yd_X7_isIn ⟨Nat.le_of_ble_eq_true rfl, Nat.le_of_ble_eq_true rfl⟩ [] rfl (by decide) (wX7_addWater c M 0 M_waters M_windX M_windY M_barrels M_crew M_waterTable) [(false, 0), (false, 1)] rfl (by decide) rfl rfl [] rfl (Nat.le_of_ble_eq_true rfl) ⟨Nat.le_of_ble_eq_true rfl, Nat.le_of_ble_eq_true rfl⟩ dX7_addWater_44 47 0 0 rfl ⟨rfl, rfl⟩ ?_
        refine vv_if_eq C 83 50 dX7_addWater_47 (by decide) rfl (fun hc => ?_) (fun hc => ?_)
        · replace h := ite_t hc h
          refine vv_aload_n C dX7_addWater_83 rfl 0 rfl 84 rfl ?_
          refine vv_iconst C (v := 1) dX7_addWater_84 (by decide) 85 rfl ?_
          obtain ⟨r8, hr8, h⟩ := bnd_s h
          refine vv_callVi C (fun l => mt_X7_fail l D c M 0 M_waters M_windX M_windY M_barrels M_crew 1 r8 hr8) gX7_addWater_X7_fail rfl rfl rfl yd_X7_fail ⟨Nat.le_of_ble_eq_true rfl, Nat.le_of_ble_eq_true rfl⟩ [0] rfl (by decide) 0 rfl rfl (wX7_addWater c M r8.2 M_waters M_windX M_windY M_barrels M_crew M_waterTable) [(true, 0), (false, 1)] rfl (by decide) rfl rfl [] rfl (Nat.le_of_ble_eq_true rfl) ⟨Nat.le_of_ble_eq_true rfl, Nat.le_of_ble_eq_true rfl⟩ dX7_addWater_85 88 0 0 rfl ⟨rfl, rfl⟩ ?_
          obtain rfl := Option.some.inj h
          refine vv_widen (k := 1) (n := 7) (by decide) (by decide) ?_
          exact ret _ _ dX7_addWater_88
        · replace h := ite_f hc h
          refine vv_iload C dX7_addWater_50 5 rfl 52 rfl ?_
          refine vv_bipush C (v := (-2)) dX7_addWater_52 (by decide) 54 rfl ?_
          refine vv_iconst C (v := 2) dX7_addWater_54 (by decide) 55 rfl ?_
          obtain ⟨r9, hr9, h⟩ := bnd_s h
          refine vv_callSi C (fun l => mt_X7_isIn l D c a5 (-2) 2 r9 hr9) gX7_addWater_X7_isIn rfl rfl rfl yd_X7_isIn ⟨Nat.le_of_ble_eq_true rfl, Nat.le_of_ble_eq_true rfl⟩ [] rfl (by decide) (wX7_addWater c M 0 M_waters M_windX M_windY M_barrels M_crew M_waterTable) [(false, 0), (false, 1)] rfl (by decide) rfl rfl [] rfl (Nat.le_of_ble_eq_true rfl) ⟨Nat.le_of_ble_eq_true rfl, Nat.le_of_ble_eq_true rfl⟩ dX7_addWater_55 58 0 0 rfl ⟨rfl, rfl⟩ ?_
          refine vv_if_eq C 83 61 dX7_addWater_58 (by decide) rfl (fun hc => ?_) (fun hc => ?_)
          · replace h := ite_t hc h
            refine vv_aload_n C dX7_addWater_83 rfl 0 rfl 84 rfl ?_
            refine vv_iconst C (v := 1) dX7_addWater_84 (by decide) 85 rfl ?_
            obtain ⟨r10, hr10, h⟩ := bnd_s h
            refine vv_callVi C (fun l => mt_X7_fail l D c M 0 M_waters M_windX M_windY M_barrels M_crew 1 r10 hr10) gX7_addWater_X7_fail rfl rfl rfl yd_X7_fail ⟨Nat.le_of_ble_eq_true rfl, Nat.le_of_ble_eq_true rfl⟩ [0] rfl (by decide) 0 rfl rfl (wX7_addWater c M r10.2 M_waters M_windX M_windY M_barrels M_crew M_waterTable) [(true, 0), (false, 1)] rfl (by decide) rfl rfl [] rfl (Nat.le_of_ble_eq_true rfl) ⟨Nat.le_of_ble_eq_true rfl, Nat.le_of_ble_eq_true rfl⟩ dX7_addWater_85 88 0 0 rfl ⟨rfl, rfl⟩ ?_
            obtain rfl := Option.some.inj h
            refine vv_widen (k := 1) (n := 7) (by decide) (by decide) ?_
            exact ret _ _ dX7_addWater_88
          · replace h := ite_f hc h
            refine vv_iload C dX7_addWater_61 6 rfl 63 rfl ?_
            refine vv_bipush C (v := (-2)) dX7_addWater_63 (by decide) 65 rfl ?_
            refine vv_iconst C (v := 2) dX7_addWater_65 (by decide) 66 rfl ?_
            obtain ⟨r11, hr11, h⟩ := bnd_s h
            refine vv_callSi C (fun l => mt_X7_isIn l D c a6 (-2) 2 r11 hr11) gX7_addWater_X7_isIn rfl rfl rfl yd_X7_isIn ⟨Nat.le_of_ble_eq_true rfl, Nat.le_of_ble_eq_true rfl⟩ [] rfl (by decide) (wX7_addWater c M 0 M_waters M_windX M_windY M_barrels M_crew M_waterTable) [(false, 0), (false, 1)] rfl (by decide) rfl rfl [] rfl (Nat.le_of_ble_eq_true rfl) ⟨Nat.le_of_ble_eq_true rfl, Nat.le_of_ble_eq_true rfl⟩ dX7_addWater_66 69 0 0 rfl ⟨rfl, rfl⟩ ?_
            refine vv_if_eq C 83 72 dX7_addWater_69 (by decide) rfl (fun hc => ?_) (fun hc => ?_)
            · replace h := ite_t hc h
              refine vv_aload_n C dX7_addWater_83 rfl 0 rfl 84 rfl ?_
              refine vv_iconst C (v := 1) dX7_addWater_84 (by decide) 85 rfl ?_
              obtain ⟨r12, hr12, h⟩ := bnd_s h
              refine vv_callVi C (fun l => mt_X7_fail l D c M 0 M_waters M_windX M_windY M_barrels M_crew 1 r12 hr12) gX7_addWater_X7_fail rfl rfl rfl yd_X7_fail ⟨Nat.le_of_ble_eq_true rfl, Nat.le_of_ble_eq_true rfl⟩ [0] rfl (by decide) 0 rfl rfl (wX7_addWater c M r12.2 M_waters M_windX M_windY M_barrels M_crew M_waterTable) [(true, 0), (false, 1)] rfl (by decide) rfl rfl [] rfl (Nat.le_of_ble_eq_true rfl) ⟨Nat.le_of_ble_eq_true rfl, Nat.le_of_ble_eq_true rfl⟩ dX7_addWater_85 88 0 0 rfl ⟨rfl, rfl⟩ ?_
              obtain rfl := Option.some.inj h
              refine vv_widen (k := 1) (n := 7) (by decide) (by decide) ?_
              exact ret _ _ dX7_addWater_88
            · replace h := ite_f hc h
              refine vv_iload C dX7_addWater_72 7 rfl 74 rfl ?_
              refine vv_iconst C (v := 0) dX7_addWater_74 (by decide) 75 rfl ?_
              refine vv_bipush C (v := 20) dX7_addWater_75 (by decide) 77 rfl ?_
              obtain ⟨r13, hr13, h⟩ := bnd_s h
              refine vv_callSi C (fun l => mt_X7_isIn l D c a7 0 20 r13 hr13) gX7_addWater_X7_isIn rfl rfl rfl yd_X7_isIn ⟨Nat.le_of_ble_eq_true rfl, Nat.le_of_ble_eq_true rfl⟩ [] rfl (by decide) (wX7_addWater c M 0 M_waters M_windX M_windY M_barrels M_crew M_waterTable) [(false, 0), (false, 1)] rfl (by decide) rfl rfl [] rfl (Nat.le_of_ble_eq_true rfl) ⟨Nat.le_of_ble_eq_true rfl, Nat.le_of_ble_eq_true rfl⟩ dX7_addWater_77 80 0 0 rfl ⟨rfl, rfl⟩ ?_
              refine vv_if_ne C 89 83 dX7_addWater_80 (by decide) rfl (fun hc => ?_) (fun hc => ?_)
              · replace h := ite_f hc h
                refine vv_aload_n C dX7_addWater_89 rfl 0 rfl 90 rfl ?_
                refine vv_get C (q0 := 0) (ci := 7) (k := 1) kinX7_addWater_X7 rfl rfl (by decide) kwX7_addWater_2 rfl rfl dX7_addWater_90 93 rfl ?_
                refine vv_bipush C (v := 8) dX7_addWater_93 (by decide) 95 rfl ?_
                refine vv_icmp_ne C 104 98 dX7_addWater_95 (by decide) rfl (fun hc => ?_) (fun hc => ?_)
                · replace h := ite_f hc h
                  refine vv_bipush C (v := 7) dX7_addWater_104 (by decide) 106 rfl ?_
                  refine vv_newa C (N := 7) kwX7_addWater_3 (by decide) (by decide) (by decide) ⟨by decide, by decide⟩ dX7_addWater_106 108 1 7 rfl ⟨rfl, rfl⟩ (fun q106n => ?_)
                  refine vv_dup C dX7_addWater_108 rfl 109 rfl ?_
                  refine vv_iconst C (v := 0) dX7_addWater_109 (by decide) 110 rfl ?_
                  refine vv_iload_n C dX7_addWater_110 rfl 1 rfl 111 rfl ?_
                  obtain ⟨hi, h⟩ := chk_s h
                  refine vv_iast C (q0 := 2) ((wX7_addWater c M 0 M_waters M_windX M_windY M_barrels M_crew M_waterTable) ++ [aI c q106n 7 (wr (fun _ => 0) 0 a1)]) rfl hi rfl dX7_addWater_111 112 rfl ?_
                  refine vv_dup C dX7_addWater_112 rfl 113 rfl ?_
                  refine vv_iconst C (v := 1) dX7_addWater_113 (by decide) 114 rfl ?_
                  refine vv_iload_n C dX7_addWater_114 rfl 2 rfl 115 rfl ?_
                  obtain ⟨hi, h⟩ := chk_s h
                  refine vv_iast C (q0 := 2) ((wX7_addWater c M 0 M_waters M_windX M_windY M_barrels M_crew M_waterTable) ++ [aI c q106n 7 (wr (wr (fun _ => 0) 0 a1) 1 a2)]) rfl hi rfl dX7_addWater_115 116 rfl ?_
                  refine vv_dup C dX7_addWater_116 rfl 117 rfl ?_
                  refine vv_iconst C (v := 2) dX7_addWater_117 (by decide) 118 rfl ?_
                  refine vv_iload_n C dX7_addWater_118 rfl 3 rfl 119 rfl ?_
                  obtain ⟨hi, h⟩ := chk_s h
                  refine vv_iast C (q0 := 2) ((wX7_addWater c M 0 M_waters M_windX M_windY M_barrels M_crew M_waterTable) ++ [aI c q106n 7 (wr (wr (wr (fun _ => 0) 0 a1) 1 a2) 2 a3)]) rfl hi rfl dX7_addWater_119 120 rfl ?_
                  refine vv_dup C dX7_addWater_120 rfl 121 rfl ?_
                  refine vv_iconst C (v := 3) dX7_addWater_121 (by decide) 122 rfl ?_
                  refine vv_iload C dX7_addWater_122 4 rfl 124 rfl ?_
                  obtain ⟨hi, h⟩ := chk_s h
                  refine vv_iast C (q0 := 2) ((wX7_addWater c M 0 M_waters M_windX M_windY M_barrels M_crew M_waterTable) ++ [aI c q106n 7 (wr (wr (wr (wr (fun _ => 0) 0 a1) 1 a2) 2 a3) 3 a4)]) rfl hi rfl dX7_addWater_124 125 rfl ?_
                  refine vv_dup C dX7_addWater_125 rfl 126 rfl ?_
                  refine vv_iconst C (v := 4) dX7_addWater_126 (by decide) 127 rfl ?_
                  refine vv_iload C dX7_addWater_127 5 rfl 129 rfl ?_
                  obtain ⟨hi, h⟩ := chk_s h
                  refine vv_iast C (q0 := 2) ((wX7_addWater c M 0 M_waters M_windX M_windY M_barrels M_crew M_waterTable) ++ [aI c q106n 7 (wr (wr (wr (wr (wr (fun _ => 0) 0 a1) 1 a2) 2 a3) 3 a4) 4 a5)]) rfl hi rfl dX7_addWater_129 130 rfl ?_
                  refine vv_dup C dX7_addWater_130 rfl 131 rfl ?_
                  refine vv_iconst C (v := 5) dX7_addWater_131 (by decide) 132 rfl ?_
                  refine vv_iload C dX7_addWater_132 6 rfl 134 rfl ?_
                  obtain ⟨hi, h⟩ := chk_s h
                  refine vv_iast C (q0 := 2) ((wX7_addWater c M 0 M_waters M_windX M_windY M_barrels M_crew M_waterTable) ++ [aI c q106n 7 (wr (wr (wr (wr (wr (wr (fun _ => 0) 0 a1) 1 a2) 2 a3) 3 a4) 4 a5) 5 a6)]) rfl hi rfl dX7_addWater_134 135 rfl ?_
                  refine vv_dup C dX7_addWater_135 rfl 136 rfl ?_
                  refine vv_bipush C (v := 6) dX7_addWater_136 (by decide) 138 rfl ?_
                  refine vv_iload C dX7_addWater_138 7 rfl 140 rfl ?_
                  obtain ⟨hi, h⟩ := chk_s h
                  refine vv_iast C (q0 := 2) ((wX7_addWater c M 0 M_waters M_windX M_windY M_barrels M_crew M_waterTable) ++ [aI c q106n 7 (wr (wr (wr (wr (wr (wr (wr (fun _ => 0) 0 a1) 1 a2) 2 a3) 3 a4) 4 a5) 5 a6) 6 a7)]) rfl hi rfl dX7_addWater_140 141 rfl ?_
                  refine vv_astore C [(8, .ref q106n), (0, .ref (M 0)), (1, .int a1), (2, .int a2), (3, .int a3), (4, .int a4), (5, .int a5), (6, .int a6), (7, .int a7)] dX7_addWater_141 (by decide) rfl 143 rfl ?_
                  refine vv_aload C dX7_addWater_143 0 rfl 145 rfl ?_
                  refine vv_iconst C (v := 0) dX7_addWater_145 (by decide) 146 rfl ?_
                  refine vv_aload_n C dX7_addWater_146 rfl 1 rfl 147 rfl ?_
                  refine vv_get C (q0 := 0) (ci := 7) (k := 2) kinX7_addWater_X7 rfl rfl (by decide) kwX7_addWater_4 rfl rfl dX7_addWater_147 150 rfl ?_
                  refine vv_bipush C (v := 7) dX7_addWater_150 (by decide) 152 rfl ?_
                  refine vv_aload_n C dX7_addWater_152 rfl 1 rfl 153 rfl ?_
                  refine vv_get C (q0 := 0) (ci := 7) (k := 1) kinX7_addWater_X7 rfl rfl (by decide) kwX7_addWater_2 rfl rfl dX7_addWater_153 156 rfl ?_
                  refine vv_imul C dX7_addWater_156 157 rfl ?_
                  refine vv_bipush C (v := 7) dX7_addWater_157 (by decide) 159 rfl ?_
                  obtain ⟨hcp, h⟩ := chkP_s h
                  refine vv_copy C (q0 := 2) (q1 := 1) ((wX7_addWater c M 0 M_waters M_windX M_windY M_barrels M_crew (cpy (wr (wr (wr (wr (wr (wr (wr (fun _ => 0) 0 a1) 1 a2) 2 a3) 3 a4) 4 a5) 5 a6) 6 a7) M_waterTable 0 (7 * M_waters) 7)) ++ [aI c q106n 7 (wr (wr (wr (wr (wr (wr (wr (fun _ => 0) 0 a1) 1 a2) 2 a3) 3 a4) 4 a5) 5 a6) 6 a7)]) kwX7_addWater_5 kwX7_addWater_6 kwX7_addWater_7 kwX7_addWater_8 rfl rfl hcp ⟨Nat.le_of_ble_eq_true rfl, Nat.le_of_ble_eq_true rfl⟩ rfl dX7_addWater_159 162 rfl ?_
                  refine vv_aload_n C dX7_addWater_162 rfl 1 rfl 163 rfl ?_
                  refine vv_dup C dX7_addWater_163 rfl 164 rfl ?_
                  refine vv_get C (q0 := 0) (ci := 7) (k := 1) kinX7_addWater_X7 rfl rfl (by decide) kwX7_addWater_2 rfl rfl dX7_addWater_164 167 rfl ?_
                  refine vv_iconst C (v := 1) dX7_addWater_167 (by decide) 168 rfl ?_
                  refine vv_iadd C dX7_addWater_168 169 rfl ?_
                  refine vv_put C (q0 := 0) (ci := 7) (k := 1) (ty := .int) ((wX7_addWater c M 0 (M_waters + 1) M_windX M_windY M_barrels M_crew (cpy (wr (wr (wr (wr (wr (wr (wr (fun _ => 0) 0 a1) 1 a2) 2 a3) 3 a4) 4 a5) 5 a6) 6 a7) M_waterTable 0 (7 * M_waters) 7)) ++ [aI c q106n 7 (wr (wr (wr (wr (wr (wr (wr (fun _ => 0) 0 a1) 1 a2) 2 a3) 3 a4) 4 a5) 5 a6) 6 a7)]) tyX7 tyX7_ok nmX7 kinX7_addWater_X7 rfl rfl (by decide) kwX7_addWater_2 rfl rfl rfl rfl rfl (Nat.le_of_ble_eq_true rfl) rfl dX7_addWater_169 172 rfl ?_
                  refine vv_aload_n C dX7_addWater_172 rfl 1 rfl 173 rfl ?_
                  refine vv_get C (q0 := 0) (ci := 7) (k := 1) kinX7_addWater_X7 rfl rfl (by decide) kwX7_addWater_2 rfl rfl dX7_addWater_173 176 rfl ?_
                  refine vv_iconst C (v := 1) dX7_addWater_176 (by decide) 177 rfl ?_
                  refine vv_isub C dX7_addWater_177 178 rfl ?_
                  obtain rfl := Option.some.inj h
                  refine vv_sub [0, 1] [] (wX7_addWater c M 0 (M_waters + 1) M_windX M_windY M_barrels M_crew (cpy (wr (wr (wr (wr (wr (wr (wr (fun _ => 0) 0 a1) 1 a2) 2 a3) 3 a4) 4 a5) 5 a6) 6 a7) M_waterTable 0 (7 * M_waters) 7)) [] rfl (by decide) rfl ?_
                  exact ret _ _ dX7_addWater_178
                · replace h := ite_t hc h
                  refine vv_aload_n C dX7_addWater_98 rfl 0 rfl 99 rfl ?_
                  refine vv_iconst C (v := 2) dX7_addWater_99 (by decide) 100 rfl ?_
                  obtain ⟨r14, hr14, h⟩ := bnd_s h
                  refine vv_callVi C (fun l => mt_X7_fail l D c M 0 M_waters M_windX M_windY M_barrels M_crew 2 r14 hr14) gX7_addWater_X7_fail rfl rfl rfl yd_X7_fail ⟨Nat.le_of_ble_eq_true rfl, Nat.le_of_ble_eq_true rfl⟩ [0] rfl (by decide) 0 rfl rfl (wX7_addWater c M r14.2 M_waters M_windX M_windY M_barrels M_crew M_waterTable) [(true, 0), (false, 1)] rfl (by decide) rfl rfl [] rfl (Nat.le_of_ble_eq_true rfl) ⟨Nat.le_of_ble_eq_true rfl, Nat.le_of_ble_eq_true rfl⟩ dX7_addWater_100 103 0 0 rfl ⟨rfl, rfl⟩ ?_
                  obtain rfl := Option.some.inj h
                  refine vv_widen (k := 1) (n := 7) (by decide) (by decide) ?_
                  exact ret _ _ dX7_addWater_103
              · replace h := ite_t hc h
                refine vv_aload_n C dX7_addWater_83 rfl 0 rfl 84 rfl ?_
                refine vv_iconst C (v := 1) dX7_addWater_84 (by decide) 85 rfl ?_
                obtain ⟨r15, hr15, h⟩ := bnd_s h
                refine vv_callVi C (fun l => mt_X7_fail l D c M 0 M_waters M_windX M_windY M_barrels M_crew 1 r15 hr15) gX7_addWater_X7_fail rfl rfl rfl yd_X7_fail ⟨Nat.le_of_ble_eq_true rfl, Nat.le_of_ble_eq_true rfl⟩ [0] rfl (by decide) 0 rfl rfl (wX7_addWater c M r15.2 M_waters M_windX M_windY M_barrels M_crew M_waterTable) [(true, 0), (false, 1)] rfl (by decide) rfl rfl [] rfl (Nat.le_of_ble_eq_true rfl) ⟨Nat.le_of_ble_eq_true rfl, Nat.le_of_ble_eq_true rfl⟩ dX7_addWater_85 88 0 0 rfl ⟨rfl, rfl⟩ ?_
                obtain rfl := Option.some.inj h
                refine vv_widen (k := 1) (n := 7) (by decide) (by decide) ?_
                exact ret _ _ dX7_addWater_88
abbrev wX7_areBeside (c : Nat → ClassId) (M : Nat → Nat) (M_thrown : Int32) (M_waters : Int32) (M_windX : Int32) (M_windY : Int32) (M_barrels : Int32) (M_crew : Int32) (M_fixed : Nat → Int32) : va_W := [(M 0, .inr (7, [.int M_thrown, .int M_waters, .ref (M 1), .int M_windX, .int M_windY, .int M_barrels, .ref (M 2), .int M_crew, .ref (M 3), .ref (M 4), .ref (M 5), .ref (M 6), .ref (M 7), .ref (M 8), .ref (M 9), .ref (M 10), .ref (M 11), .ref (M 12)])), aI c (M 2) 72 M_fixed]
abbrev rmX7_areBeside : Room := { frames := 1, cells := 0, slots := 0, locals := 22 }
theorem yd_X7_areBeside : yX7_areBeside.cls = RX7 ∧ yX7_areBeside.cls ≠ "java/lang/invoke/MethodHandle" ∧ yX7_areBeside.cls ≠ "java/lang/invoke/VarHandle" ∧ (parseMethodDescriptor yX7_areBeside.desc).map (fun d => d.parameters.length) = some 2 := by decide +kernel
theorem kwX7_areBeside_1 : Cond.methodLink RX7 106 Lib.Math.abs.name ∈ wsX7_areBeside := List.mem_of_getElem? (i := 1) rfl
theorem kwX7_areBeside_2 : Cond.static Lib.Math.abs.name ∈ wsX7_areBeside := List.mem_of_getElem? (i := 2) rfl
theorem kwX7_areBeside_3 : Cond.initialized "java/lang/Math" ∈ wsX7_areBeside := List.mem_of_getElem? (i := 3) rfl
theorem kwX7_areBeside_4 : Cond.code Lib.Math.abs.name Lib.Math.abs.code 1 (some .int) ∈ wsX7_areBeside := List.mem_of_getElem? (i := 4) rfl
def jX7_areBeside (M_fixed : Nat → Int32) (a1 : Int32) (a2 : Int32) : Option (Int32) :=
  bnd (jX7_fx M_fixed a1 0) (fun r1 => bnd (jX7_fx M_fixed a2 0) (fun r2 => bnd (jX7_fx M_fixed a1 0) (fun r3 => bnd (jX7_fx M_fixed a2 0) (fun r4 => (if (mabs ((r1 - r1 / 8 * 8) - (r2 - r2 / 8 * 8))) + (mabs ((r3 / 8) - (r4 / 8))) = 1 then chkZ 1 (some 1) else chkZ 0 (some 0))))))
set_option maxHeartbeats 4000000 in
set_option maxRecDepth 100000 in
theorem mt_X7_areBeside (l : Launch) (D : va_G) (c : Nat → ClassId) (M : Nat → Nat) (M_thrown : Int32) (M_waters : Int32) (M_windX : Int32) (M_windY : Int32) (M_barrels : Int32) (M_crew : Int32) (M_fixed : Nat → Int32) (a1 : Int32) (a2 : Int32) (q0 : Int32) (h : jX7_areBeside M_fixed a1 a2 = some q0) : DTi l yX7_areBeside wsX7_areBeside rmX7_areBeside D c (wX7_areBeside c M M_thrown M_waters M_windX M_windY M_barrels M_crew M_fixed) [.ref (M 0), .int a1, .int a2] q0 (wX7_areBeside c M M_thrown M_waters M_windX M_windY M_barrels M_crew M_fixed) 0 0 := by
  refine DTz_of (cc := cX7_areBeside) (nL := 5) RX7 rfl (by decide) rfl (Nat.le_of_ble_eq_true rfl) (fun g C ret => ?_)
  unfold jX7_areBeside at h
  refine vv_lv [0, 1, 2] [(0, .ref (M 0)), (1, .int a1), (2, .int a2)] rfl ?_
  refine vv_aload_n C dX7_areBeside_0 rfl 0 rfl 1 rfl ?_
  refine vv_iload_n C dX7_areBeside_1 rfl 1 rfl 2 rfl ?_
  refine vv_iconst C (v := 0) dX7_areBeside_2 (by decide) 3 rfl ?_
  obtain ⟨r1, hr1, h⟩ := bnd_s h
  refine vv_callVi C (fun l => mt_X7_fx l D c M M_thrown M_waters M_windX M_windY M_barrels M_crew M_fixed a1 0 r1 hr1) gX7_areBeside_X7_fx rfl rfl rfl yd_X7_fx ⟨Nat.le_of_ble_eq_true rfl, Nat.le_of_ble_eq_true rfl⟩ [0, 1] rfl (by decide) 0 rfl rfl (wX7_areBeside c M M_thrown M_waters M_windX M_windY M_barrels M_crew M_fixed) [(true, 0), (true, 1)] rfl (by decide) rfl rfl [] rfl (Nat.le_of_ble_eq_true rfl) ⟨Nat.le_of_ble_eq_true rfl, Nat.le_of_ble_eq_true rfl⟩ dX7_areBeside_3 6 0 0 rfl ⟨rfl, rfl⟩ ?_
  refine vv_bipush C (v := 8) dX7_areBeside_6 (by decide) 8 rfl ?_
  refine vv_irem C dX7_areBeside_8 (by decide) 9 rfl ?_
  refine vv_aload_n C dX7_areBeside_9 rfl 0 rfl 10 rfl ?_
  refine vv_iload_n C dX7_areBeside_10 rfl 2 rfl 11 rfl ?_
  refine vv_iconst C (v := 0) dX7_areBeside_11 (by decide) 12 rfl ?_
  obtain ⟨r2, hr2, h⟩ := bnd_s h
  refine vv_callVi C (fun l => mt_X7_fx l D c M M_thrown M_waters M_windX M_windY M_barrels M_crew M_fixed a2 0 r2 hr2) gX7_areBeside_X7_fx rfl rfl rfl yd_X7_fx ⟨Nat.le_of_ble_eq_true rfl, Nat.le_of_ble_eq_true rfl⟩ [0, 1] rfl (by decide) 0 rfl rfl (wX7_areBeside c M M_thrown M_waters M_windX M_windY M_barrels M_crew M_fixed) [(true, 0), (true, 1)] rfl (by decide) rfl rfl [.int (r1 - r1 / 8 * 8)] rfl (Nat.le_of_ble_eq_true rfl) ⟨Nat.le_of_ble_eq_true rfl, Nat.le_of_ble_eq_true rfl⟩ dX7_areBeside_12 15 0 0 rfl ⟨rfl, rfl⟩ ?_
  refine vv_bipush C (v := 8) dX7_areBeside_15 (by decide) 17 rfl ?_
  refine vv_irem C dX7_areBeside_17 (by decide) 18 rfl ?_
  refine vv_isub C dX7_areBeside_18 19 rfl ?_
  refine vv_mabs C kwX7_areBeside_1 kwX7_areBeside_2 kwX7_areBeside_3 kwX7_areBeside_4 ⟨Nat.le_of_ble_eq_true rfl, Nat.le_of_ble_eq_true rfl⟩ ⟨Nat.le_of_ble_eq_true rfl, Nat.le_of_ble_eq_true rfl⟩ dX7_areBeside_19 22 rfl ?_
  refine vv_istore_n C [(3, .int (mabs ((r1 - r1 / 8 * 8) - (r2 - r2 / 8 * 8)))), (0, .ref (M 0)), (1, .int a1), (2, .int a2)] dX7_areBeside_22 rfl (by decide) rfl 23 rfl ?_
  refine vv_aload_n C dX7_areBeside_23 rfl 1 rfl 24 rfl ?_
  refine vv_iload_n C dX7_areBeside_24 rfl 2 rfl 25 rfl ?_
  refine vv_iconst C (v := 0) dX7_areBeside_25 (by decide) 26 rfl ?_
  obtain ⟨r3, hr3, h⟩ := bnd_s h
  refine vv_callVi C (fun l => mt_X7_fx l D c M M_thrown M_waters M_windX M_windY M_barrels M_crew M_fixed a1 0 r3 hr3) gX7_areBeside_X7_fx rfl rfl rfl yd_X7_fx ⟨Nat.le_of_ble_eq_true rfl, Nat.le_of_ble_eq_true rfl⟩ [0, 1] rfl (by decide) 0 rfl rfl (wX7_areBeside c M M_thrown M_waters M_windX M_windY M_barrels M_crew M_fixed) [(true, 0), (true, 1)] rfl (by decide) rfl rfl [] rfl (Nat.le_of_ble_eq_true rfl) ⟨Nat.le_of_ble_eq_true rfl, Nat.le_of_ble_eq_true rfl⟩ dX7_areBeside_26 29 0 0 rfl ⟨rfl, rfl⟩ ?_
  refine vv_bipush C (v := 8) dX7_areBeside_29 (by decide) 31 rfl ?_
  refine vv_idiv C dX7_areBeside_31 (by decide) 32 rfl ?_
  refine vv_aload_n C dX7_areBeside_32 rfl 1 rfl 33 rfl ?_
  refine vv_iload_n C dX7_areBeside_33 rfl 3 rfl 34 rfl ?_
  refine vv_iconst C (v := 0) dX7_areBeside_34 (by decide) 35 rfl ?_
  obtain ⟨r4, hr4, h⟩ := bnd_s h
  refine vv_callVi C (fun l => mt_X7_fx l D c M M_thrown M_waters M_windX M_windY M_barrels M_crew M_fixed a2 0 r4 hr4) gX7_areBeside_X7_fx rfl rfl rfl yd_X7_fx ⟨Nat.le_of_ble_eq_true rfl, Nat.le_of_ble_eq_true rfl⟩ [0, 1] rfl (by decide) 0 rfl rfl (wX7_areBeside c M M_thrown M_waters M_windX M_windY M_barrels M_crew M_fixed) [(true, 0), (true, 1)] rfl (by decide) rfl rfl [.int (r3 / 8)] rfl (Nat.le_of_ble_eq_true rfl) ⟨Nat.le_of_ble_eq_true rfl, Nat.le_of_ble_eq_true rfl⟩ dX7_areBeside_35 38 0 0 rfl ⟨rfl, rfl⟩ ?_
  refine vv_bipush C (v := 8) dX7_areBeside_38 (by decide) 40 rfl ?_
  refine vv_idiv C dX7_areBeside_40 (by decide) 41 rfl ?_
  refine vv_isub C dX7_areBeside_41 42 rfl ?_
  refine vv_mabs C kwX7_areBeside_1 kwX7_areBeside_2 kwX7_areBeside_3 kwX7_areBeside_4 ⟨Nat.le_of_ble_eq_true rfl, Nat.le_of_ble_eq_true rfl⟩ ⟨Nat.le_of_ble_eq_true rfl, Nat.le_of_ble_eq_true rfl⟩ dX7_areBeside_42 45 rfl ?_
  refine vv_istore C [(4, .int (mabs ((r3 / 8) - (r4 / 8)))), (3, .int (mabs ((r1 - r1 / 8 * 8) - (r2 - r2 / 8 * 8)))), (0, .ref (M 0)), (1, .int a1), (2, .int a2)] dX7_areBeside_45 (by decide) rfl 47 rfl ?_
  refine vv_iload_n C dX7_areBeside_47 rfl 1 rfl 48 rfl ?_
  refine vv_iload C dX7_areBeside_48 0 rfl 50 rfl ?_
  refine vv_iadd C dX7_areBeside_50 51 rfl ?_
  refine vv_iconst C (v := 1) dX7_areBeside_51 (by decide) 52 rfl ?_
  refine vv_icmp_ne C 59 55 dX7_areBeside_52 (by decide) rfl (fun hc => ?_) (fun hc => ?_)
  · replace h := ite_f hc h
    refine vv_iconst C (v := 0) dX7_areBeside_59 (by decide) 60 rfl ?_
    obtain ⟨hz, h⟩ := chkZ_s h
    obtain rfl := Option.some.inj h
    exact ret _ _ hz dX7_areBeside_60
  · replace h := ite_t hc h
    refine vv_iconst C (v := 1) dX7_areBeside_55 (by decide) 56 rfl ?_
    refine vv_goto C 60 dX7_areBeside_56 (by decide) ?_
    obtain ⟨hz, h⟩ := chkZ_s h
    obtain rfl := Option.some.inj h
    exact ret _ _ hz dX7_areBeside_60
abbrev wX7_isPerson (c : Nat → ClassId) (M : Nat → Nat) (M_thrown : Int32) (M_waters : Int32) (M_windX : Int32) (M_windY : Int32) (M_barrels : Int32) (M_crew : Int32) : va_W := [(M 0, .inr (7, [.int M_thrown, .int M_waters, .ref (M 1), .int M_windX, .int M_windY, .int M_barrels, .ref (M 2), .int M_crew, .ref (M 3), .ref (M 4), .ref (M 5), .ref (M 6), .ref (M 7), .ref (M 8), .ref (M 9), .ref (M 10), .ref (M 11), .ref (M 12)]))]
abbrev rmX7_isPerson : Room := { frames := 1, cells := 0, slots := 0, locals := 22 }
theorem yd_X7_isPerson : yX7_isPerson.cls = RX7 ∧ yX7_isPerson.cls ≠ "java/lang/invoke/MethodHandle" ∧ yX7_isPerson.cls ≠ "java/lang/invoke/VarHandle" ∧ (parseMethodDescriptor yX7_isPerson.desc).map (fun d => d.parameters.length) = some 1 := by decide +kernel
theorem kwX7_isPerson_1 : Cond.fieldLink RX7 127 "BarrelRaftModel" "crew" "I" ∈ wsX7_isPerson := List.mem_of_getElem? (i := 1) rfl
set_option maxRecDepth 20000 in
theorem kinX7_isPerson_X7 : ∀ w ∈ u_ws RX7 TX7 18, w ∈ wsX7_isPerson := by decide +kernel
def jX7_isPerson (M_crew : Int32) (a1 : Int32) : Option (Int32) :=
  bnd (jX7_isIn a1 0 (M_crew - 1)) (fun r1 => chkZ r1 (some r1))
set_option maxHeartbeats 4000000 in
set_option maxRecDepth 100000 in
theorem mt_X7_isPerson (l : Launch) (D : va_G) (c : Nat → ClassId) (M : Nat → Nat) (M_thrown : Int32) (M_waters : Int32) (M_windX : Int32) (M_windY : Int32) (M_barrels : Int32) (M_crew : Int32) (a1 : Int32) (q0 : Int32) (h : jX7_isPerson M_crew a1 = some q0) : DTi l yX7_isPerson wsX7_isPerson rmX7_isPerson D c (wX7_isPerson c M M_thrown M_waters M_windX M_windY M_barrels M_crew) [.ref (M 0), .int a1] q0 (wX7_isPerson c M M_thrown M_waters M_windX M_windY M_barrels M_crew) 0 0 := by
  refine DTz_of (cc := cX7_isPerson) (nL := 2) RX7 rfl (by decide) rfl (Nat.le_of_ble_eq_true rfl) (fun g C ret => ?_)
  unfold jX7_isPerson at h
  refine vv_lv [0, 1] [(0, .ref (M 0)), (1, .int a1)] rfl ?_
  refine vv_iload_n C dX7_isPerson_0 rfl 1 rfl 1 rfl ?_
  refine vv_iconst C (v := 0) dX7_isPerson_1 (by decide) 2 rfl ?_
  refine vv_aload_n C dX7_isPerson_2 rfl 0 rfl 3 rfl ?_
  refine vv_get C (q0 := 0) (ci := 7) (k := 7) kinX7_isPerson_X7 rfl rfl (by decide) kwX7_isPerson_1 rfl rfl dX7_isPerson_3 6 rfl ?_
  refine vv_iconst C (v := 1) dX7_isPerson_6 (by decide) 7 rfl ?_
  refine vv_isub C dX7_isPerson_7 8 rfl ?_
  obtain ⟨r1, hr1, h⟩ := bnd_s h
  refine vv_callSi C (fun l => mt_X7_isIn l D c a1 0 (M_crew - 1) r1 hr1) gX7_isPerson_X7_isIn rfl rfl rfl yd_X7_isIn ⟨Nat.le_of_ble_eq_true rfl, Nat.le_of_ble_eq_true rfl⟩ [] rfl (by decide) (wX7_isPerson c M M_thrown M_waters M_windX M_windY M_barrels M_crew) [(false, 0)] rfl (by decide) rfl rfl [] rfl (Nat.le_of_ble_eq_true rfl) ⟨Nat.le_of_ble_eq_true rfl, Nat.le_of_ble_eq_true rfl⟩ dX7_isPerson_8 11 0 0 rfl ⟨rfl, rfl⟩ ?_
  obtain ⟨hz, h⟩ := chkZ_s h
  obtain rfl := Option.some.inj h
  exact ret _ _ hz dX7_isPerson_11
abbrev wX7_set (c : Nat → ClassId) (M : Nat → Nat) (M_thrown : Int32) (M_waters : Int32) (M_windX : Int32) (M_windY : Int32) (M_barrels : Int32) (M_crew : Int32) (M_table : Nat → Int32) : va_W := [(M 0, .inr (7, [.int M_thrown, .int M_waters, .ref (M 1), .int M_windX, .int M_windY, .int M_barrels, .ref (M 2), .int M_crew, .ref (M 3), .ref (M 4), .ref (M 5), .ref (M 6), .ref (M 7), .ref (M 8), .ref (M 9), .ref (M 10), .ref (M 11), .ref (M 12)])), aI c (M 3) 120 M_table]
abbrev rmX7_set : Room := { frames := 0, cells := 0, slots := 0, locals := 0 }
theorem yd_X7_set : yX7_set.cls = RX7 ∧ yX7_set.cls ≠ "java/lang/invoke/MethodHandle" ∧ yX7_set.cls ≠ "java/lang/invoke/VarHandle" ∧ (parseMethodDescriptor yX7_set.desc).map (fun d => d.parameters.length) = some 3 := by decide +kernel
theorem kwX7_set_1 : Cond.fieldLink RX7 16 "BarrelRaftModel" "table" "[I" ∈ wsX7_set := List.mem_of_getElem? (i := 1) rfl
set_option maxRecDepth 20000 in
theorem kinX7_set_X7 : ∀ w ∈ u_ws RX7 TX7 18, w ∈ wsX7_set := by decide +kernel
def jX7_set (M_table : Nat → Int32) (a1 : Int32) (a2 : Int32) (a3 : Int32) : Option ((Nat → Int32)) :=
  chk 120 ((5 * a1) + a2) (some (wr M_table ((5 * a1) + a2) a3))
set_option maxHeartbeats 4000000 in
set_option maxRecDepth 100000 in
theorem mt_X7_set (l : Launch) (D : va_G) (c : Nat → ClassId) (M : Nat → Nat) (M_thrown : Int32) (M_waters : Int32) (M_windX : Int32) (M_windY : Int32) (M_barrels : Int32) (M_crew : Int32) (M_table : Nat → Int32) (a1 : Int32) (a2 : Int32) (a3 : Int32) (q0 : (Nat → Int32)) (h : jX7_set M_table a1 a2 a3 = some q0) : DTv l yX7_set wsX7_set rmX7_set D c (wX7_set c M M_thrown M_waters M_windX M_windY M_barrels M_crew M_table) [.ref (M 0), .int a1, .int a2, .int a3] (wX7_set c M M_thrown M_waters M_windX M_windY M_barrels M_crew q0) 0 0 := by
  refine DTv_of (cc := cX7_set) (nL := 4) RX7 rfl (by decide) rfl (Nat.le_of_ble_eq_true rfl) (fun g C ret => ?_)
  unfold jX7_set at h
  refine vv_lv [0, 1, 2, 3] [(0, .ref (M 0)), (1, .int a1), (2, .int a2), (3, .int a3)] rfl ?_
  refine vv_aload_n C dX7_set_0 rfl 0 rfl 1 rfl ?_
  refine vv_get C (q0 := 0) (ci := 7) (k := 8) kinX7_set_X7 rfl rfl (by decide) kwX7_set_1 rfl rfl dX7_set_1 4 rfl ?_
  refine vv_iconst C (v := 5) dX7_set_4 (by decide) 5 rfl ?_
  refine vv_iload_n C dX7_set_5 rfl 1 rfl 6 rfl ?_
  refine vv_imul C dX7_set_6 7 rfl ?_
  refine vv_iload_n C dX7_set_7 rfl 2 rfl 8 rfl ?_
  refine vv_iadd C dX7_set_8 9 rfl ?_
  refine vv_iload_n C dX7_set_9 rfl 3 rfl 10 rfl ?_
  obtain ⟨hi, h⟩ := chk_s h
  refine vv_iast C (q0 := 1) (wX7_set c M M_thrown M_waters M_windX M_windY M_barrels M_crew (wr M_table ((5 * a1) + a2) a3)) rfl hi rfl dX7_set_10 11 rfl ?_
  obtain rfl := Option.some.inj h
  exact ret _ _ dX7_set_11
abbrev wX7_bail (c : Nat → ClassId) (M : Nat → Nat) (M_thrown : Int32) (M_waters : Int32) (M_windX : Int32) (M_windY : Int32) (M_barrels : Int32) (M_crew : Int32) (M_table : Nat → Int32) (M_people : Nat → Int32) : va_W := [(M 0, .inr (7, [.int M_thrown, .int M_waters, .ref (M 1), .int M_windX, .int M_windY, .int M_barrels, .ref (M 2), .int M_crew, .ref (M 3), .ref (M 4), .ref (M 5), .ref (M 6), .ref (M 7), .ref (M 8), .ref (M 9), .ref (M 10), .ref (M 11), .ref (M 12)])), aI c (M 3) 120 M_table, aI c (M 6) 16 M_people]
abbrev rmX7_bail : Room := { frames := 2, cells := 0, slots := 0, locals := 43 }
theorem yd_X7_bail : yX7_bail.cls = RX7 ∧ yX7_bail.cls ≠ "java/lang/invoke/MethodHandle" ∧ yX7_bail.cls ≠ "java/lang/invoke/VarHandle" ∧ (parseMethodDescriptor yX7_bail.desc).map (fun d => d.parameters.length) = some 1 := by decide +kernel
theorem kwX7_bail_1 : Cond.fieldLink RX7 47 "BarrelRaftModel" "thrown" "I" ∈ wsX7_bail := List.mem_of_getElem? (i := 1) rfl
set_option maxRecDepth 20000 in
theorem kinX7_bail_X7 : ∀ w ∈ u_ws RX7 TX7 18, w ∈ wsX7_bail := by decide +kernel
theorem kwX7_bail_2 : Cond.fieldLink RX7 25 "BarrelRaftModel" "people" "[I" ∈ wsX7_bail := List.mem_of_getElem? (i := 2) rfl
theorem kwX7_bail_3 : Cond.methodLink RX7 67 Lib.Math.max.name ∈ wsX7_bail := List.mem_of_getElem? (i := 3) rfl
theorem kwX7_bail_4 : Cond.static Lib.Math.max.name ∈ wsX7_bail := List.mem_of_getElem? (i := 4) rfl
theorem kwX7_bail_5 : Cond.initialized "java/lang/Math" ∈ wsX7_bail := List.mem_of_getElem? (i := 5) rfl
theorem kwX7_bail_6 : Cond.code Lib.Math.max.name Lib.Math.max.code 2 (some .int) ∈ wsX7_bail := List.mem_of_getElem? (i := 6) rfl
def jX7_bail (M_thrown : Int32) (M_crew : Int32) (M_table : Nat → Int32) (M_people : Nat → Int32) (a1 : Int32) : Option (Int32 × Int32 × (Nat → Int32)) :=
  bnd (jX7_isPerson M_crew a1) (fun r1 => (if r1 = 0 then bnd (jX7_fail 0 1) (fun r6 => some (r6.1, r6.2, M_table)) else chk 16 (2 * a1) ((if rd M_people (2 * a1) = (-1) then bnd (jX7_fail 0 2) (fun r5 => some (r5.1, r5.2, M_table)) else bnd (jX7_ba M_table (rd M_people (2 * a1)) 0) (fun r2 => bnd (jX7_set M_table (rd M_people (2 * a1)) 0 (mmax 0 (r2 - 25))) (fun r3 => bnd (jX7_ba r3 (rd M_people (2 * a1)) 0) (fun r4 => some (r4, 0, r3))))))))
set_option maxHeartbeats 4000000 in
set_option maxRecDepth 100000 in
theorem mt_X7_bail (l : Launch) (D : va_G) (c : Nat → ClassId) (M : Nat → Nat) (M_thrown : Int32) (M_waters : Int32) (M_windX : Int32) (M_windY : Int32) (M_barrels : Int32) (M_crew : Int32) (M_table : Nat → Int32) (M_people : Nat → Int32) (a1 : Int32) (q0 : Int32 × Int32 × (Nat → Int32)) (h : jX7_bail M_thrown M_crew M_table M_people a1 = some q0) : DTi l yX7_bail wsX7_bail rmX7_bail D c (wX7_bail c M M_thrown M_waters M_windX M_windY M_barrels M_crew M_table M_people) [.ref (M 0), .int a1] q0.1 (wX7_bail c M q0.2.1 M_waters M_windX M_windY M_barrels M_crew q0.2.2 M_people) 0 0 := by
  refine DTi_of (cc := cX7_bail) (nL := 3) RX7 rfl (by decide) rfl (Nat.le_of_ble_eq_true rfl) (fun g C ret => ?_)
  unfold jX7_bail at h
  refine vv_lv [0, 1] [(0, .ref (M 0)), (1, .int a1)] rfl ?_
  refine vv_aload_n C dX7_bail_0 rfl 0 rfl 1 rfl ?_
  refine vv_iconst C (v := 0) dX7_bail_1 (by decide) 2 rfl ?_
  refine vv_put C (q0 := 0) (ci := 7) (k := 0) (ty := .int) (wX7_bail c M 0 M_waters M_windX M_windY M_barrels M_crew M_table M_people) tyX7 tyX7_ok nmX7 kinX7_bail_X7 rfl rfl (by decide) kwX7_bail_1 rfl rfl rfl rfl rfl (Nat.le_of_ble_eq_true rfl) rfl dX7_bail_2 5 rfl ?_
  refine vv_aload_n C dX7_bail_5 rfl 0 rfl 6 rfl ?_
  refine vv_iload_n C dX7_bail_6 rfl 1 rfl 7 rfl ?_
  obtain ⟨r1, hr1, h⟩ := bnd_s h
  refine vv_callVi C (fun l => mt_X7_isPerson l D c M 0 M_waters M_windX M_windY M_barrels M_crew a1 r1 hr1) gX7_bail_X7_isPerson rfl rfl rfl yd_X7_isPerson ⟨Nat.le_of_ble_eq_true rfl, Nat.le_of_ble_eq_true rfl⟩ [0] rfl (by decide) 0 rfl rfl (wX7_bail c M 0 M_waters M_windX M_windY M_barrels M_crew M_table M_people) [(true, 0), (false, 1), (false, 2)] rfl (by decide) rfl rfl [] rfl (Nat.le_of_ble_eq_true rfl) ⟨Nat.le_of_ble_eq_true rfl, Nat.le_of_ble_eq_true rfl⟩ dX7_bail_7 10 0 0 rfl ⟨rfl, rfl⟩ ?_
  refine vv_if_ne C 19 13 dX7_bail_10 (by decide) rfl (fun hc => ?_) (fun hc => ?_)
  · replace h := ite_f hc h
    refine vv_aload_n C dX7_bail_19 rfl 0 rfl 20 rfl ?_
    refine vv_get C (q0 := 0) (ci := 7) (k := 11) kinX7_bail_X7 rfl rfl (by decide) kwX7_bail_2 rfl rfl dX7_bail_20 23 rfl ?_
    refine vv_iconst C (v := 2) dX7_bail_23 (by decide) 24 rfl ?_
    refine vv_iload_n C dX7_bail_24 rfl 1 rfl 25 rfl ?_
    refine vv_imul C dX7_bail_25 26 rfl ?_
    obtain ⟨hi, h⟩ := chk_s h
    refine vv_iald C (q0 := 2) rfl hi dX7_bail_26 27 rfl ?_
    refine vv_istore_n C [(2, .int (rd M_people (2 * a1))), (0, .ref (M 0)), (1, .int a1)] dX7_bail_27 rfl (by decide) rfl 28 rfl ?_
    refine vv_iload_n C dX7_bail_28 rfl 0 rfl 29 rfl ?_
    refine vv_iconst C (v := (-1)) dX7_bail_29 (by decide) 30 rfl ?_
    refine vv_icmp_ne C 39 33 dX7_bail_30 (by decide) rfl (fun hc => ?_) (fun hc => ?_)
    · replace h := ite_f hc h
      refine vv_aload_n C dX7_bail_39 rfl 1 rfl 40 rfl ?_
      refine vv_iload_n C dX7_bail_40 rfl 0 rfl 41 rfl ?_
      refine vv_iconst C (v := 0) dX7_bail_41 (by decide) 42 rfl ?_
      refine vv_iconst C (v := 0) dX7_bail_42 (by decide) 43 rfl ?_
      refine vv_aload_n C dX7_bail_43 rfl 1 rfl 44 rfl ?_
      refine vv_iload_n C dX7_bail_44 rfl 0 rfl 45 rfl ?_
      refine vv_iconst C (v := 0) dX7_bail_45 (by decide) 46 rfl ?_
      obtain ⟨r2, hr2, h⟩ := bnd_s h
      refine vv_callVi C (fun l => mt_X7_ba l D c M 0 M_waters M_windX M_windY M_barrels M_crew M_table (rd M_people (2 * a1)) 0 r2 hr2) gX7_bail_X7_ba rfl rfl rfl yd_X7_ba ⟨Nat.le_of_ble_eq_true rfl, Nat.le_of_ble_eq_true rfl⟩ [0, 1] rfl (by decide) 0 rfl rfl (wX7_bail c M 0 M_waters M_windX M_windY M_barrels M_crew M_table M_people) [(true, 0), (true, 1), (false, 2)] rfl (by decide) rfl rfl [.int 0, .int 0, .int (rd M_people (2 * a1)), .ref (M 0)] rfl (Nat.le_of_ble_eq_true rfl) ⟨Nat.le_of_ble_eq_true rfl, Nat.le_of_ble_eq_true rfl⟩ dX7_bail_46 49 0 0 rfl ⟨rfl, rfl⟩ ?_
      refine vv_bipush C (v := 25) dX7_bail_49 (by decide) 51 rfl ?_
      refine vv_isub C dX7_bail_51 52 rfl ?_
      refine vv_mmax C kwX7_bail_3 kwX7_bail_4 kwX7_bail_5 kwX7_bail_6 ⟨Nat.le_of_ble_eq_true rfl, Nat.le_of_ble_eq_true rfl⟩ ⟨Nat.le_of_ble_eq_true rfl, Nat.le_of_ble_eq_true rfl⟩ dX7_bail_52 55 rfl ?_
      obtain ⟨r3, hr3, h⟩ := bnd_s h
      refine vv_callVv C (fun l => mt_X7_set l D c M 0 M_waters M_windX M_windY M_barrels M_crew M_table (rd M_people (2 * a1)) 0 (mmax 0 (r2 - 25)) r3 hr3) gX7_bail_X7_set rfl rfl rfl yd_X7_set ⟨Nat.le_of_ble_eq_true rfl, Nat.le_of_ble_eq_true rfl⟩ [0, 1] rfl (by decide) 0 rfl rfl (wX7_bail c M 0 M_waters M_windX M_windY M_barrels M_crew r3 M_people) [(true, 0), (true, 1), (false, 2)] rfl (by decide) rfl rfl [] rfl (Nat.le_of_ble_eq_true rfl) ⟨Nat.le_of_ble_eq_true rfl, Nat.le_of_ble_eq_true rfl⟩ dX7_bail_55 58 0 0 rfl ⟨rfl, rfl⟩ ?_
      refine vv_aload_n C dX7_bail_58 rfl 1 rfl 59 rfl ?_
      refine vv_iload_n C dX7_bail_59 rfl 0 rfl 60 rfl ?_
      refine vv_iconst C (v := 0) dX7_bail_60 (by decide) 61 rfl ?_
      obtain ⟨r4, hr4, h⟩ := bnd_s h
      refine vv_callVi C (fun l => mt_X7_ba l D c M 0 M_waters M_windX M_windY M_barrels M_crew r3 (rd M_people (2 * a1)) 0 r4 hr4) gX7_bail_X7_ba rfl rfl rfl yd_X7_ba ⟨Nat.le_of_ble_eq_true rfl, Nat.le_of_ble_eq_true rfl⟩ [0, 1] rfl (by decide) 0 rfl rfl (wX7_bail c M 0 M_waters M_windX M_windY M_barrels M_crew r3 M_people) [(true, 0), (true, 1), (false, 2)] rfl (by decide) rfl rfl [] rfl (Nat.le_of_ble_eq_true rfl) ⟨Nat.le_of_ble_eq_true rfl, Nat.le_of_ble_eq_true rfl⟩ dX7_bail_61 64 0 0 rfl ⟨rfl, rfl⟩ ?_
      obtain rfl := Option.some.inj h
      exact ret _ _ dX7_bail_64
    · replace h := ite_t hc h
      refine vv_aload_n C dX7_bail_33 rfl 1 rfl 34 rfl ?_
      refine vv_iconst C (v := 2) dX7_bail_34 (by decide) 35 rfl ?_
      obtain ⟨r5, hr5, h⟩ := bnd_s h
      refine vv_callVi C (fun l => mt_X7_fail l D c M 0 M_waters M_windX M_windY M_barrels M_crew 2 r5 hr5) gX7_bail_X7_fail rfl rfl rfl yd_X7_fail ⟨Nat.le_of_ble_eq_true rfl, Nat.le_of_ble_eq_true rfl⟩ [0] rfl (by decide) 0 rfl rfl (wX7_bail c M r5.2 M_waters M_windX M_windY M_barrels M_crew M_table M_people) [(true, 0), (false, 1), (false, 2)] rfl (by decide) rfl rfl [] rfl (Nat.le_of_ble_eq_true rfl) ⟨Nat.le_of_ble_eq_true rfl, Nat.le_of_ble_eq_true rfl⟩ dX7_bail_35 38 0 0 rfl ⟨rfl, rfl⟩ ?_
      obtain rfl := Option.some.inj h
      exact ret _ _ dX7_bail_38
  · replace h := ite_t hc h
    refine vv_aload_n C dX7_bail_13 rfl 0 rfl 14 rfl ?_
    refine vv_iconst C (v := 1) dX7_bail_14 (by decide) 15 rfl ?_
    obtain ⟨r6, hr6, h⟩ := bnd_s h
    refine vv_callVi C (fun l => mt_X7_fail l D c M 0 M_waters M_windX M_windY M_barrels M_crew 1 r6 hr6) gX7_bail_X7_fail rfl rfl rfl yd_X7_fail ⟨Nat.le_of_ble_eq_true rfl, Nat.le_of_ble_eq_true rfl⟩ [0] rfl (by decide) 0 rfl rfl (wX7_bail c M r6.2 M_waters M_windX M_windY M_barrels M_crew M_table M_people) [(true, 0), (false, 1), (false, 2)] rfl (by decide) rfl rfl [] rfl (Nat.le_of_ble_eq_true rfl) ⟨Nat.le_of_ble_eq_true rfl, Nat.le_of_ble_eq_true rfl⟩ dX7_bail_15 18 0 0 rfl ⟨rfl, rfl⟩ ?_
    obtain rfl := Option.some.inj h
    exact ret _ _ dX7_bail_18
abbrev wX7_pair (c : Nat → ClassId)  : va_W := []
abbrev rmX7_pair : Room := { frames := 1, cells := 0, slots := 0, locals := 21 }
theorem yd_X7_pair : yX7_pair.cls ≠ "java/lang/invoke/MethodHandle" ∧ yX7_pair.cls ≠ "java/lang/invoke/VarHandle" ∧ (parseMethodDescriptor yX7_pair.desc).map (fun d => d.parameters.length) = some 2 := by decide +kernel
theorem kwX7_pair_1 : Cond.methodLink RX7 62 Lib.Math.min.name ∈ wsX7_pair := List.mem_of_getElem? (i := 1) rfl
theorem kwX7_pair_2 : Cond.static Lib.Math.min.name ∈ wsX7_pair := List.mem_of_getElem? (i := 2) rfl
theorem kwX7_pair_3 : Cond.initialized "java/lang/Math" ∈ wsX7_pair := List.mem_of_getElem? (i := 3) rfl
theorem kwX7_pair_4 : Cond.code Lib.Math.min.name Lib.Math.min.code 2 (some .int) ∈ wsX7_pair := List.mem_of_getElem? (i := 4) rfl
theorem kwX7_pair_5 : Cond.methodLink RX7 67 Lib.Math.max.name ∈ wsX7_pair := List.mem_of_getElem? (i := 5) rfl
theorem kwX7_pair_6 : Cond.static Lib.Math.max.name ∈ wsX7_pair := List.mem_of_getElem? (i := 6) rfl
theorem kwX7_pair_7 : Cond.code Lib.Math.max.name Lib.Math.max.code 2 (some .int) ∈ wsX7_pair := List.mem_of_getElem? (i := 7) rfl
def jX7_pair (a1 : Int32) (a2 : Int32) : Option (Int32) :=
  some ((24 * (mmin a1 a2)) + (mmax a1 a2))
set_option maxHeartbeats 4000000 in
set_option maxRecDepth 100000 in
theorem mt_X7_pair (l : Launch) (D : va_G) (c : Nat → ClassId) (a1 : Int32) (a2 : Int32) (q0 : Int32) (h : jX7_pair a1 a2 = some q0) : DTi l yX7_pair wsX7_pair rmX7_pair D c (wX7_pair c ) [.int a1, .int a2] q0 (wX7_pair c ) 0 0 := by
  refine DTi_of (cc := cX7_pair) (nL := 2) RX7 rfl (by decide) rfl (Nat.le_of_ble_eq_true rfl) (fun g C ret => ?_)
  unfold jX7_pair at h
  refine vv_lv [0, 1] [(0, .int a1), (1, .int a2)] rfl ?_
  refine vv_bipush C (v := 24) dX7_pair_0 (by decide) 2 rfl ?_
  refine vv_iload_n C dX7_pair_2 rfl 0 rfl 3 rfl ?_
  refine vv_iload_n C dX7_pair_3 rfl 1 rfl 4 rfl ?_
  refine vv_mmin C kwX7_pair_1 kwX7_pair_2 kwX7_pair_3 kwX7_pair_4 ⟨Nat.le_of_ble_eq_true rfl, Nat.le_of_ble_eq_true rfl⟩ ⟨Nat.le_of_ble_eq_true rfl, Nat.le_of_ble_eq_true rfl⟩ dX7_pair_4 7 rfl ?_
  refine vv_imul C dX7_pair_7 8 rfl ?_
  refine vv_iload_n C dX7_pair_8 rfl 0 rfl 9 rfl ?_
  refine vv_iload_n C dX7_pair_9 rfl 1 rfl 10 rfl ?_
  refine vv_mmax C kwX7_pair_5 kwX7_pair_6 kwX7_pair_3 kwX7_pair_7 ⟨Nat.le_of_ble_eq_true rfl, Nat.le_of_ble_eq_true rfl⟩ ⟨Nat.le_of_ble_eq_true rfl, Nat.le_of_ble_eq_true rfl⟩ dX7_pair_10 13 rfl ?_
  refine vv_iadd C dX7_pair_13 14 rfl ?_
  obtain rfl := Option.some.inj h
  exact ret _ _ dX7_pair_14
abbrev wX7_isTied (c : Nat → ClassId) (M : Nat → Nat) (M_thrown : Int32) (M_waters : Int32) (M_windX : Int32) (M_windY : Int32) (M_barrels : Int32) (M_crew : Int32) (M_strength : Nat → Int32) : va_W := [(M 0, .inr (7, [.int M_thrown, .int M_waters, .ref (M 1), .int M_windX, .int M_windY, .int M_barrels, .ref (M 2), .int M_crew, .ref (M 3), .ref (M 4), .ref (M 5), .ref (M 6), .ref (M 7), .ref (M 8), .ref (M 9), .ref (M 10), .ref (M 11), .ref (M 12)])), aI c (M 4) 576 M_strength]
abbrev rmX7_isTied : Room := { frames := 2, cells := 0, slots := 0, locals := 42 }
theorem yd_X7_isTied : yX7_isTied.cls = RX7 ∧ yX7_isTied.cls ≠ "java/lang/invoke/MethodHandle" ∧ yX7_isTied.cls ≠ "java/lang/invoke/VarHandle" ∧ (parseMethodDescriptor yX7_isTied.desc).map (fun d => d.parameters.length) = some 2 := by decide +kernel
theorem kwX7_isTied_1 : Cond.fieldLink RX7 19 "BarrelRaftModel" "strength" "[I" ∈ wsX7_isTied := List.mem_of_getElem? (i := 1) rfl
set_option maxRecDepth 20000 in
theorem kinX7_isTied_X7 : ∀ w ∈ u_ws RX7 TX7 18, w ∈ wsX7_isTied := by decide +kernel
def jX7_isTied (M_strength : Nat → Int32) (a1 : Int32) (a2 : Int32) : Option (Int32) :=
  bnd (jX7_pair a1 a2) (fun r1 => chk 576 r1 ((if rd M_strength r1 ≤ 0 then chkZ 0 (some 0) else chkZ 1 (some 1))))
set_option maxHeartbeats 4000000 in
set_option maxRecDepth 100000 in
theorem mt_X7_isTied (l : Launch) (D : va_G) (c : Nat → ClassId) (M : Nat → Nat) (M_thrown : Int32) (M_waters : Int32) (M_windX : Int32) (M_windY : Int32) (M_barrels : Int32) (M_crew : Int32) (M_strength : Nat → Int32) (a1 : Int32) (a2 : Int32) (q0 : Int32) (h : jX7_isTied M_strength a1 a2 = some q0) : DTi l yX7_isTied wsX7_isTied rmX7_isTied D c (wX7_isTied c M M_thrown M_waters M_windX M_windY M_barrels M_crew M_strength) [.ref (M 0), .int a1, .int a2] q0 (wX7_isTied c M M_thrown M_waters M_windX M_windY M_barrels M_crew M_strength) 0 0 := by
  refine DTz_of (cc := cX7_isTied) (nL := 3) RX7 rfl (by decide) rfl (Nat.le_of_ble_eq_true rfl) (fun g C ret => ?_)
  unfold jX7_isTied at h
  refine vv_lv [0, 1, 2] [(0, .ref (M 0)), (1, .int a1), (2, .int a2)] rfl ?_
  refine vv_aload_n C dX7_isTied_0 rfl 0 rfl 1 rfl ?_
  refine vv_get C (q0 := 0) (ci := 7) (k := 9) kinX7_isTied_X7 rfl rfl (by decide) kwX7_isTied_1 rfl rfl dX7_isTied_1 4 rfl ?_
  refine vv_iload_n C dX7_isTied_4 rfl 1 rfl 5 rfl ?_
  refine vv_iload_n C dX7_isTied_5 rfl 2 rfl 6 rfl ?_
  obtain ⟨r1, hr1, h⟩ := bnd_s h
  refine vv_callSi C (fun l => mt_X7_pair l D c a1 a2 r1 hr1) gX7_isTied_X7_pair rfl rfl rfl yd_X7_pair ⟨Nat.le_of_ble_eq_true rfl, Nat.le_of_ble_eq_true rfl⟩ [] rfl (by decide) (wX7_isTied c M M_thrown M_waters M_windX M_windY M_barrels M_crew M_strength) [(false, 0), (false, 1)] rfl (by decide) rfl rfl [.ref (M 4)] rfl (Nat.le_of_ble_eq_true rfl) ⟨Nat.le_of_ble_eq_true rfl, Nat.le_of_ble_eq_true rfl⟩ dX7_isTied_6 9 0 0 rfl ⟨rfl, rfl⟩ ?_
  obtain ⟨hi, h⟩ := chk_s h
  refine vv_iald C (q0 := 1) rfl hi dX7_isTied_9 10 rfl ?_
  refine vv_if_le C 17 13 dX7_isTied_10 (by decide) rfl (fun hc => ?_) (fun hc => ?_)
  · replace h := ite_t hc h
    refine vv_iconst C (v := 0) dX7_isTied_17 (by decide) 18 rfl ?_
    obtain ⟨hz, h⟩ := chkZ_s h
    obtain rfl := Option.some.inj h
    exact ret _ _ hz dX7_isTied_18
  · replace h := ite_f hc h
    refine vv_iconst C (v := 1) dX7_isTied_13 (by decide) 14 rfl ?_
    refine vv_goto C 18 dX7_isTied_14 (by decide) ?_
    obtain ⟨hz, h⟩ := chkZ_s h
    obtain rfl := Option.some.inj h
    exact ret _ _ hz dX7_isTied_18
abbrev wX7_name (c : Nat → ClassId) (M : Nat → Nat) (M_thrown : Int32) (M_waters : Int32) (M_windX : Int32) (M_windY : Int32) (M_barrels : Int32) (M_crew : Int32) (M_table : Nat → Int32) (M_strength : Nat → Int32) (M_pieces : Nat → Int32) : va_W := [(M 0, .inr (7, [.int M_thrown, .int M_waters, .ref (M 1), .int M_windX, .int M_windY, .int M_barrels, .ref (M 2), .int M_crew, .ref (M 3), .ref (M 4), .ref (M 5), .ref (M 6), .ref (M 7), .ref (M 8), .ref (M 9), .ref (M 10), .ref (M 11), .ref (M 12)])), aI c (M 3) 120 M_table, aI c (M 4) 576 M_strength, aI c (M 8) 24 M_pieces]
abbrev rmX7_name : Room := { frames := 3, cells := 0, slots := 0, locals := 64 }
theorem yd_X7_name : yX7_name.cls = RX7 ∧ yX7_name.cls ≠ "java/lang/invoke/MethodHandle" ∧ yX7_name.cls ≠ "java/lang/invoke/VarHandle" ∧ (parseMethodDescriptor yX7_name.desc).map (fun d => d.parameters.length) = some 0 := by decide +kernel
theorem kwX7_name_1 : Cond.fieldLink RX7 51 "BarrelRaftModel" "barrels" "I" ∈ wsX7_name := List.mem_of_getElem? (i := 1) rfl
set_option maxRecDepth 20000 in
theorem kinX7_name_X7 : ∀ w ∈ u_ws RX7 TX7 18, w ∈ wsX7_name := by decide +kernel
theorem kwX7_name_2 : Cond.fieldLink RX7 31 "BarrelRaftModel" "pieces" "[I" ∈ wsX7_name := List.mem_of_getElem? (i := 2) rfl
theorem kwX7_name_3 : Cond.methodLink RX7 62 Lib.Math.min.name ∈ wsX7_name := List.mem_of_getElem? (i := 3) rfl
theorem kwX7_name_4 : Cond.static Lib.Math.min.name ∈ wsX7_name := List.mem_of_getElem? (i := 4) rfl
theorem kwX7_name_5 : Cond.initialized "java/lang/Math" ∈ wsX7_name := List.mem_of_getElem? (i := 5) rfl
theorem kwX7_name_6 : Cond.code Lib.Math.min.name Lib.Math.min.code 2 (some .int) ∈ wsX7_name := List.mem_of_getElem? (i := 6) rfl
def jX7_name_L2 (M_barrels : Int32) (M_table : Nat → Int32) (n : Nat) (M_pieces_2 : Nat → Int32) (v1_2 : Int32) : Option ((Nat → Int32)) :=
  match n with
  | 0 => none
  | n + 1 => (if M_barrels ≤ v1_2 then some M_pieces_2 else bnd (jX7_floats M_table v1_2) (fun r1 => (if r1 = 0 then chk 24 v1_2 (jX7_name_L2 M_barrels M_table n (wr M_pieces_2 v1_2 (-1)) (v1_2 + 1)) else chk 24 v1_2 (jX7_name_L2 M_barrels M_table n (wr M_pieces_2 v1_2 v1_2) (v1_2 + 1)))))
def jX7_name_L57 (M_barrels : Int32) (M_strength : Nat → Int32) (u2 : Int32) (n : Nat) (M_pieces_57 : Nat → Int32) (v1_57 : Int32) (v3_57 : Int32) : Option ((Nat → Int32) × Int32) :=
  match n with
  | 0 => none
  | n + 1 => (if M_barrels ≤ v3_57 then some (M_pieces_57, v1_57) else bnd (jX7_isTied M_strength u2 v3_57) (fun r3 => (if r3 = 0 then jX7_name_L57 M_barrels M_strength u2 n M_pieces_57 v1_57 (v3_57 + 1) else chk 24 u2 (chk 24 v3_57 ((if rd M_pieces_57 u2 = rd M_pieces_57 v3_57 then jX7_name_L57 M_barrels M_strength u2 n M_pieces_57 v1_57 (v3_57 + 1) else chk 24 u2 (chk 24 v3_57 (chk 24 u2 (chk 24 u2 (chk 24 v3_57 (jX7_name_L57 M_barrels M_strength u2 n (wr (wr M_pieces_57 u2 (mmin (rd M_pieces_57 u2) (rd M_pieces_57 v3_57))) v3_57 (rd (wr M_pieces_57 u2 (mmin (rd M_pieces_57 u2) (rd M_pieces_57 v3_57))) u2)) 1 (v3_57 + 1))))))))))))
def jX7_name_L45 (M_barrels : Int32) (M_strength : Nat → Int32) (n : Nat) (M_pieces_45 : Nat → Int32) (v1_45 : Int32) (v2_45 : Int32) : Option ((Nat → Int32) × Int32) :=
  match n with
  | 0 => none
  | n + 1 => (if M_barrels ≤ v2_45 then some (M_pieces_45, v1_45) else bnd (jX7_name_L57 M_barrels M_strength v2_45 FU M_pieces_45 v1_45 (v2_45 + 1)) (fun r4 => jX7_name_L45 M_barrels M_strength n r4.1 r4.2 (v2_45 + 1)))
def jX7_name_L37 (M_barrels : Int32) (M_strength : Nat → Int32) (n : Nat) (M_pieces_37 : Nat → Int32) (v1_37 : Int32) : Option ((Nat → Int32)) :=
  match n with
  | 0 => none
  | n + 1 => (if v1_37 = 0 then some M_pieces_37 else bnd (jX7_name_L45 M_barrels M_strength FU M_pieces_37 0 0) (fun r5 => jX7_name_L37 M_barrels M_strength n r5.1 r5.2))
def jX7_name (M_barrels : Int32) (M_table : Nat → Int32) (M_strength : Nat → Int32) (M_pieces : Nat → Int32) : Option ((Nat → Int32)) :=
  bnd (jX7_name_L2 M_barrels M_table FU M_pieces 0) (fun r2 => bnd (jX7_name_L37 M_barrels M_strength FU r2 1) (fun r6 => some r6))
set_option maxHeartbeats 4000000 in
set_option maxRecDepth 100000 in
theorem mt_X7_name (l : Launch) (D : va_G) (c : Nat → ClassId) (M : Nat → Nat) (M_thrown : Int32) (M_waters : Int32) (M_windX : Int32) (M_windY : Int32) (M_barrels : Int32) (M_crew : Int32) (M_table : Nat → Int32) (M_strength : Nat → Int32) (M_pieces : Nat → Int32) (q0 : (Nat → Int32)) (h : jX7_name M_barrels M_table M_strength M_pieces = some q0) : DTv l yX7_name wsX7_name rmX7_name D c (wX7_name c M M_thrown M_waters M_windX M_windY M_barrels M_crew M_table M_strength M_pieces) [.ref (M 0)] (wX7_name c M M_thrown M_waters M_windX M_windY M_barrels M_crew M_table M_strength q0) 0 0 := by
  refine DTv_of (cc := cX7_name) (nL := 4) RX7 rfl (by decide) rfl (Nat.le_of_ble_eq_true rfl) (fun g C ret => ?_)
  unfold jX7_name at h
  refine vv_lv [0] [(0, .ref (M 0))] rfl ?_
  refine vv_iconst C (v := 0) dX7_name_0 (by decide) 1 rfl ?_
  refine vv_istore_n C [(1, .int 0), (0, .ref (M 0))] dX7_name_1 rfl (by decide) rfl 2 rfl ?_
  refine vv_lv [1, 0] [(0, .ref (M 0)), (1, .int 0)] rfl ?_
  have L2 : ∀ (n : Nat) (M_pieces_2 : Nat → Int32) (v1_2 : Int32) (q2 : (Nat → Int32)), jX7_name_L2 M_barrels M_table n M_pieces_2 v1_2 = some q2 → (VV g D 4 0 0 (wX7_name c M M_thrown M_waters M_windX M_windY M_barrels M_crew M_table M_strength q2) [(0, .ref (M 0))] 35 []) → VV g D 4 0 0 (wX7_name c M M_thrown M_waters M_windX M_windY M_barrels M_crew M_table M_strength M_pieces_2) [(0, .ref (M 0)), (1, .int v1_2)] 2 [] := by
    intro n
    induction n with
    | zero =>
      intro M_pieces_2 v1_2 q2 h _
      rw [jX7_name_L2] at h
      cases h
    | succ n ih2 =>
      intro M_pieces_2 v1_2 q2 h kk2
      rw [jX7_name_L2] at h
      refine vv_iload_n C dX7_name_2 rfl 1 rfl 3 rfl ?_
      refine vv_aload_n C dX7_name_3 rfl 0 rfl 4 rfl ?_
      refine vv_get C (q0 := 0) (ci := 7) (k := 5) kinX7_name_X7 rfl rfl (by decide) kwX7_name_1 rfl rfl dX7_name_4 7 rfl ?_
      refine vv_icmp_ge C 35 10 dX7_name_7 (by decide) rfl (fun hc => ?_) (fun hc => ?_)
      · replace h := ite_t hc h
        refine vv_lv [0] [(0, .ref (M 0))] rfl ?_
        obtain rfl := Option.some.inj h
        exact kk2
      · replace h := ite_f hc h
        refine vv_aload_n C dX7_name_10 rfl 0 rfl 11 rfl ?_
        refine vv_get C (q0 := 0) (ci := 7) (k := 13) kinX7_name_X7 rfl rfl (by decide) kwX7_name_2 rfl rfl dX7_name_11 14 rfl ?_
        refine vv_iload_n C dX7_name_14 rfl 1 rfl 15 rfl ?_
        refine vv_aload_n C dX7_name_15 rfl 0 rfl 16 rfl ?_
        refine vv_iload_n C dX7_name_16 rfl 1 rfl 17 rfl ?_
        obtain ⟨r1, hr1, h⟩ := bnd_s h
        refine vv_callVi C (fun l => mt_X7_floats l D c M M_thrown M_waters M_windX M_windY M_barrels M_crew M_table v1_2 r1 hr1) gX7_name_X7_floats rfl rfl rfl yd_X7_floats ⟨Nat.le_of_ble_eq_true rfl, Nat.le_of_ble_eq_true rfl⟩ [0, 1] rfl (by decide) 0 rfl rfl (wX7_name c M M_thrown M_waters M_windX M_windY M_barrels M_crew M_table M_strength M_pieces_2) [(true, 0), (true, 1), (false, 2), (false, 3)] rfl (by decide) rfl rfl [.int v1_2, .ref (M 8)] rfl (Nat.le_of_ble_eq_true rfl) ⟨Nat.le_of_ble_eq_true rfl, Nat.le_of_ble_eq_true rfl⟩ dX7_name_17 20 0 0 rfl ⟨rfl, rfl⟩ ?_
        refine vv_if_eq C 27 23 dX7_name_20 (by decide) rfl (fun hc => ?_) (fun hc => ?_)
        · replace h := ite_t hc h
          refine vv_iconst C (v := (-1)) dX7_name_27 (by decide) 28 rfl ?_
          obtain ⟨hi, h⟩ := chk_s h
          refine vv_iast C (q0 := 3) (wX7_name c M M_thrown M_waters M_windX M_windY M_barrels M_crew M_table M_strength (wr M_pieces_2 v1_2 (-1))) rfl hi rfl dX7_name_28 29 rfl ?_
          refine vv_iinc C (k := 1) [(1, .int (v1_2 + 1)), (0, .ref (M 0))] dX7_name_29 rfl rfl (by decide) rfl 32 rfl ?_
          refine vv_goto C 2 dX7_name_32 (by decide) ?_
          refine vv_lv [1, 0] [(0, .ref (M 0)), (1, .int (v1_2 + 1))] rfl ?_
          exact ih2 (wr M_pieces_2 v1_2 (-1)) (v1_2 + 1) _ h kk2
        · replace h := ite_f hc h
          refine vv_iload_n C dX7_name_23 rfl 1 rfl 24 rfl ?_
          refine vv_goto C 28 dX7_name_24 (by decide) ?_
          obtain ⟨hi, h⟩ := chk_s h
          refine vv_iast C (q0 := 3) (wX7_name c M M_thrown M_waters M_windX M_windY M_barrels M_crew M_table M_strength (wr M_pieces_2 v1_2 v1_2)) rfl hi rfl dX7_name_28 29 rfl ?_
          refine vv_iinc C (k := 1) [(1, .int (v1_2 + 1)), (0, .ref (M 0))] dX7_name_29 rfl rfl (by decide) rfl 32 rfl ?_
          refine vv_goto C 2 dX7_name_32 (by decide) ?_
          refine vv_lv [1, 0] [(0, .ref (M 0)), (1, .int (v1_2 + 1))] rfl ?_
          exact ih2 (wr M_pieces_2 v1_2 v1_2) (v1_2 + 1) _ h kk2
  obtain ⟨r2, hr2, h⟩ := bnd_s h
  refine L2 FU M_pieces 0 r2 hr2 ?_
  refine vv_iconst C (v := 1) dX7_name_35 (by decide) 36 rfl ?_
  refine vv_istore_n C [(1, .int 1), (0, .ref (M 0))] dX7_name_36 rfl (by decide) rfl 37 rfl ?_
  refine vv_lv [1, 0] [(0, .ref (M 0)), (1, .int 1)] rfl ?_
  have L37 : ∀ (n : Nat) (M_pieces_37 : Nat → Int32) (v1_37 : Int32) (q37 : (Nat → Int32)), jX7_name_L37 M_barrels M_strength n M_pieces_37 v1_37 = some q37 → (VV g D 4 0 0 (wX7_name c M M_thrown M_waters M_windX M_windY M_barrels M_crew M_table M_strength q37) [] 142 []) → VV g D 4 0 0 (wX7_name c M M_thrown M_waters M_windX M_windY M_barrels M_crew M_table M_strength M_pieces_37) [(0, .ref (M 0)), (1, .int v1_37)] 37 [] := by
    intro n
    induction n with
    | zero =>
      intro M_pieces_37 v1_37 q37 h _
      rw [jX7_name_L37] at h
      cases h
    | succ n ih37 =>
      intro M_pieces_37 v1_37 q37 h kk37
      rw [jX7_name_L37] at h
      refine vv_iload_n C dX7_name_37 rfl 1 rfl 38 rfl ?_
      refine vv_if_eq C 142 41 dX7_name_38 (by decide) rfl (fun hc => ?_) (fun hc => ?_)
      · replace h := ite_t hc h
        refine vv_lv [] [] rfl ?_
        obtain rfl := Option.some.inj h
        exact kk37
      · replace h := ite_f hc h
        refine vv_iconst C (v := 0) dX7_name_41 (by decide) 42 rfl ?_
        refine vv_istore_n C [(1, .int 0), (0, .ref (M 0))] dX7_name_42 rfl (by decide) rfl 43 rfl ?_
        refine vv_iconst C (v := 0) dX7_name_43 (by decide) 44 rfl ?_
        refine vv_istore_n C [(2, .int 0), (1, .int 0), (0, .ref (M 0))] dX7_name_44 rfl (by decide) rfl 45 rfl ?_
        refine vv_lv [2, 1, 0] [(0, .ref (M 0)), (1, .int 0), (2, .int 0)] rfl ?_
        have L45 : ∀ (n : Nat) (M_pieces_45 : Nat → Int32) (v1_45 : Int32) (v2_45 : Int32) (q45 : (Nat → Int32) × Int32), jX7_name_L45 M_barrels M_strength n M_pieces_45 v1_45 v2_45 = some q45 → (VV g D 4 0 0 (wX7_name c M M_thrown M_waters M_windX M_windY M_barrels M_crew M_table M_strength q45.1) [(0, .ref (M 0)), (1, .int q45.2)] 139 []) → VV g D 4 0 0 (wX7_name c M M_thrown M_waters M_windX M_windY M_barrels M_crew M_table M_strength M_pieces_45) [(0, .ref (M 0)), (1, .int v1_45), (2, .int v2_45)] 45 [] := by
          intro n
          induction n with
          | zero =>
            intro M_pieces_45 v1_45 v2_45 q45 h _
            rw [jX7_name_L45] at h
            cases h
          | succ n ih45 =>
            intro M_pieces_45 v1_45 v2_45 q45 h kk45
            rw [jX7_name_L45] at h
            refine vv_iload_n C dX7_name_45 rfl 2 rfl 46 rfl ?_
            refine vv_aload_n C dX7_name_46 rfl 0 rfl 47 rfl ?_
            refine vv_get C (q0 := 0) (ci := 7) (k := 5) kinX7_name_X7 rfl rfl (by decide) kwX7_name_1 rfl rfl dX7_name_47 50 rfl ?_
            refine vv_icmp_ge C 139 53 dX7_name_50 (by decide) rfl (fun hc => ?_) (fun hc => ?_)
            · replace h := ite_t hc h
              refine vv_lv [0, 1] [(0, .ref (M 0)), (1, .int v1_45)] rfl ?_
              obtain rfl := Option.some.inj h
              exact kk45
            · replace h := ite_f hc h
              refine vv_iload_n C dX7_name_53 rfl 2 rfl 54 rfl ?_
              refine vv_iconst C (v := 1) dX7_name_54 (by decide) 55 rfl ?_
              refine vv_iadd C dX7_name_55 56 rfl ?_
              refine vv_istore_n C [(3, .int (v2_45 + 1)), (0, .ref (M 0)), (1, .int v1_45), (2, .int v2_45)] dX7_name_56 rfl (by decide) rfl 57 rfl ?_
              refine vv_lv [1, 2, 3, 0] [(0, .ref (M 0)), (1, .int v1_45), (2, .int v2_45), (3, .int (v2_45 + 1))] rfl ?_
              have L57 : ∀ (n : Nat) (M_pieces_57 : Nat → Int32) (v1_57 : Int32) (v3_57 : Int32) (q57 : (Nat → Int32) × Int32), jX7_name_L57 M_barrels M_strength v2_45 n M_pieces_57 v1_57 v3_57 = some q57 → (VV g D 4 0 0 (wX7_name c M M_thrown M_waters M_windX M_windY M_barrels M_crew M_table M_strength q57.1) [(0, .ref (M 0)), (1, .int q57.2), (2, .int v2_45)] 133 []) → VV g D 4 0 0 (wX7_name c M M_thrown M_waters M_windX M_windY M_barrels M_crew M_table M_strength M_pieces_57) [(0, .ref (M 0)), (1, .int v1_57), (2, .int v2_45), (3, .int v3_57)] 57 [] := by
                intro n
                induction n with
                | zero =>
                  intro M_pieces_57 v1_57 v3_57 q57 h _
                  rw [jX7_name_L57] at h
                  cases h
                | succ n ih57 =>
                  intro M_pieces_57 v1_57 v3_57 q57 h kk57
                  rw [jX7_name_L57] at h
                  refine vv_iload_n C dX7_name_57 rfl 3 rfl 58 rfl ?_
                  refine vv_aload_n C dX7_name_58 rfl 0 rfl 59 rfl ?_
                  refine vv_get C (q0 := 0) (ci := 7) (k := 5) kinX7_name_X7 rfl rfl (by decide) kwX7_name_1 rfl rfl dX7_name_59 62 rfl ?_
                  refine vv_icmp_ge C 133 65 dX7_name_62 (by decide) rfl (fun hc => ?_) (fun hc => ?_)
                  · replace h := ite_t hc h
                    refine vv_lv [0, 1, 2] [(0, .ref (M 0)), (1, .int v1_57), (2, .int v2_45)] rfl ?_
                    obtain rfl := Option.some.inj h
                    exact kk57
                  · replace h := ite_f hc h
                    refine vv_aload_n C dX7_name_65 rfl 0 rfl 66 rfl ?_
                    refine vv_iload_n C dX7_name_66 rfl 2 rfl 67 rfl ?_
                    refine vv_iload_n C dX7_name_67 rfl 3 rfl 68 rfl ?_
                    obtain ⟨r3, hr3, h⟩ := bnd_s h
                    refine vv_callVi C (fun l => mt_X7_isTied l D c M M_thrown M_waters M_windX M_windY M_barrels M_crew M_strength v2_45 v3_57 r3 hr3) gX7_name_X7_isTied rfl rfl rfl yd_X7_isTied ⟨Nat.le_of_ble_eq_true rfl, Nat.le_of_ble_eq_true rfl⟩ [0, 2] rfl (by decide) 0 rfl rfl (wX7_name c M M_thrown M_waters M_windX M_windY M_barrels M_crew M_table M_strength M_pieces_57) [(true, 0), (false, 1), (true, 1), (false, 3)] rfl (by decide) rfl rfl [] rfl (Nat.le_of_ble_eq_true rfl) ⟨Nat.le_of_ble_eq_true rfl, Nat.le_of_ble_eq_true rfl⟩ dX7_name_68 71 0 0 rfl ⟨rfl, rfl⟩ ?_
                    refine vv_if_eq C 127 74 dX7_name_71 (by decide) rfl (fun hc => ?_) (fun hc => ?_)
                    · replace h := ite_t hc h
                      refine vv_iinc C (k := 3) [(3, .int (v3_57 + 1)), (0, .ref (M 0)), (1, .int v1_57), (2, .int v2_45)] dX7_name_127 rfl rfl (by decide) rfl 130 rfl ?_
                      refine vv_goto C 57 dX7_name_130 (by decide) ?_
                      refine vv_lv [1, 2, 3, 0] [(0, .ref (M 0)), (1, .int v1_57), (2, .int v2_45), (3, .int (v3_57 + 1))] rfl ?_
                      exact ih57 M_pieces_57 v1_57 (v3_57 + 1) _ h kk57
                    · replace h := ite_f hc h
                      refine vv_aload_n C dX7_name_74 rfl 0 rfl 75 rfl ?_
                      refine vv_get C (q0 := 0) (ci := 7) (k := 13) kinX7_name_X7 rfl rfl (by decide) kwX7_name_2 rfl rfl dX7_name_75 78 rfl ?_
                      refine vv_iload_n C dX7_name_78 rfl 2 rfl 79 rfl ?_
                      obtain ⟨hi, h⟩ := chk_s h
                      refine vv_iald C (q0 := 3) rfl hi dX7_name_79 80 rfl ?_
                      refine vv_aload_n C dX7_name_80 rfl 0 rfl 81 rfl ?_
                      refine vv_get C (q0 := 0) (ci := 7) (k := 13) kinX7_name_X7 rfl rfl (by decide) kwX7_name_2 rfl rfl dX7_name_81 84 rfl ?_
                      refine vv_iload_n C dX7_name_84 rfl 3 rfl 85 rfl ?_
                      obtain ⟨hi, h⟩ := chk_s h
                      refine vv_iald C (q0 := 3) rfl hi dX7_name_85 86 rfl ?_
                      refine vv_icmp_ne C 92 89 dX7_name_86 (by decide) rfl (fun hc => ?_) (fun hc => ?_)
                      · replace h := ite_f hc h
                        refine vv_aload_n C dX7_name_92 rfl 0 rfl 93 rfl ?_
                        refine vv_get C (q0 := 0) (ci := 7) (k := 13) kinX7_name_X7 rfl rfl (by decide) kwX7_name_2 rfl rfl dX7_name_93 96 rfl ?_
                        refine vv_iload_n C dX7_name_96 rfl 2 rfl 97 rfl ?_
                        refine vv_aload_n C dX7_name_97 rfl 0 rfl 98 rfl ?_
                        refine vv_get C (q0 := 0) (ci := 7) (k := 13) kinX7_name_X7 rfl rfl (by decide) kwX7_name_2 rfl rfl dX7_name_98 101 rfl ?_
                        refine vv_iload_n C dX7_name_101 rfl 2 rfl 102 rfl ?_
                        obtain ⟨hi, h⟩ := chk_s h
                        refine vv_iald C (q0 := 3) rfl hi dX7_name_102 103 rfl ?_
                        refine vv_aload_n C dX7_name_103 rfl 0 rfl 104 rfl ?_
                        refine vv_get C (q0 := 0) (ci := 7) (k := 13) kinX7_name_X7 rfl rfl (by decide) kwX7_name_2 rfl rfl dX7_name_104 107 rfl ?_
                        refine vv_iload_n C dX7_name_107 rfl 3 rfl 108 rfl ?_
                        obtain ⟨hi, h⟩ := chk_s h
                        refine vv_iald C (q0 := 3) rfl hi dX7_name_108 109 rfl ?_
                        refine vv_mmin C kwX7_name_3 kwX7_name_4 kwX7_name_5 kwX7_name_6 ⟨Nat.le_of_ble_eq_true rfl, Nat.le_of_ble_eq_true rfl⟩ ⟨Nat.le_of_ble_eq_true rfl, Nat.le_of_ble_eq_true rfl⟩ dX7_name_109 112 rfl ?_
                        obtain ⟨hi, h⟩ := chk_s h
                        refine vv_iast C (q0 := 3) (wX7_name c M M_thrown M_waters M_windX M_windY M_barrels M_crew M_table M_strength (wr M_pieces_57 v2_45 (mmin (rd M_pieces_57 v2_45) (rd M_pieces_57 v3_57)))) rfl hi rfl dX7_name_112 113 rfl ?_
                        refine vv_aload_n C dX7_name_113 rfl 0 rfl 114 rfl ?_
                        refine vv_get C (q0 := 0) (ci := 7) (k := 13) kinX7_name_X7 rfl rfl (by decide) kwX7_name_2 rfl rfl dX7_name_114 117 rfl ?_
                        refine vv_iload_n C dX7_name_117 rfl 3 rfl 118 rfl ?_
                        refine vv_aload_n C dX7_name_118 rfl 0 rfl 119 rfl ?_
                        refine vv_get C (q0 := 0) (ci := 7) (k := 13) kinX7_name_X7 rfl rfl (by decide) kwX7_name_2 rfl rfl dX7_name_119 122 rfl ?_
                        refine vv_iload_n C dX7_name_122 rfl 2 rfl 123 rfl ?_
                        obtain ⟨hi, h⟩ := chk_s h
                        refine vv_iald C (q0 := 3) rfl hi dX7_name_123 124 rfl ?_
                        obtain ⟨hi, h⟩ := chk_s h
                        refine vv_iast C (q0 := 3) (wX7_name c M M_thrown M_waters M_windX M_windY M_barrels M_crew M_table M_strength (wr (wr M_pieces_57 v2_45 (mmin (rd M_pieces_57 v2_45) (rd M_pieces_57 v3_57))) v3_57 (rd (wr M_pieces_57 v2_45 (mmin (rd M_pieces_57 v2_45) (rd M_pieces_57 v3_57))) v2_45))) rfl hi rfl dX7_name_124 125 rfl ?_
                        refine vv_iconst C (v := 1) dX7_name_125 (by decide) 126 rfl ?_
                        refine vv_istore_n C [(1, .int 1), (0, .ref (M 0)), (2, .int v2_45), (3, .int v3_57)] dX7_name_126 rfl (by decide) rfl 127 rfl ?_
                        refine vv_iinc C (k := 3) [(3, .int (v3_57 + 1)), (1, .int 1), (0, .ref (M 0)), (2, .int v2_45)] dX7_name_127 rfl rfl (by decide) rfl 130 rfl ?_
                        refine vv_goto C 57 dX7_name_130 (by decide) ?_
                        refine vv_lv [2, 1, 3, 0] [(0, .ref (M 0)), (1, .int 1), (2, .int v2_45), (3, .int (v3_57 + 1))] rfl ?_
                        exact ih57 (wr (wr M_pieces_57 v2_45 (mmin (rd M_pieces_57 v2_45) (rd M_pieces_57 v3_57))) v3_57 (rd (wr M_pieces_57 v2_45 (mmin (rd M_pieces_57 v2_45) (rd M_pieces_57 v3_57))) v2_45)) 1 (v3_57 + 1) _ h kk57
                      · replace h := ite_t hc h
                        refine vv_goto C 127 dX7_name_89 (by decide) ?_
                        refine vv_iinc C (k := 3) [(3, .int (v3_57 + 1)), (0, .ref (M 0)), (1, .int v1_57), (2, .int v2_45)] dX7_name_127 rfl rfl (by decide) rfl 130 rfl ?_
                        refine vv_goto C 57 dX7_name_130 (by decide) ?_
                        refine vv_lv [1, 2, 3, 0] [(0, .ref (M 0)), (1, .int v1_57), (2, .int v2_45), (3, .int (v3_57 + 1))] rfl ?_
                        exact ih57 M_pieces_57 v1_57 (v3_57 + 1) _ h kk57
              obtain ⟨r4, hr4, h⟩ := bnd_s h
              refine L57 FU M_pieces_45 v1_45 (v2_45 + 1) r4 hr4 ?_
              refine vv_iinc C (k := 2) [(2, .int (v2_45 + 1)), (0, .ref (M 0)), (1, .int r4.2)] dX7_name_133 rfl rfl (by decide) rfl 136 rfl ?_
              refine vv_goto C 45 dX7_name_136 (by decide) ?_
              refine vv_lv [1, 2, 0] [(0, .ref (M 0)), (1, .int r4.2), (2, .int (v2_45 + 1))] rfl ?_
              exact ih45 r4.1 r4.2 (v2_45 + 1) _ h kk45
        obtain ⟨r5, hr5, h⟩ := bnd_s h
        refine L45 FU M_pieces_37 0 0 r5 hr5 ?_
        refine vv_goto C 37 dX7_name_139 (by decide) ?_
        exact ih37 r5.1 r5.2 _ h kk37
  obtain ⟨r6, hr6, h⟩ := bnd_s h
  refine L37 FU r2 1 r6 hr6 ?_
  obtain rfl := Option.some.inj h
  exact ret _ _ dX7_name_142
abbrev wX7_tiesOf (c : Nat → ClassId) (M : Nat → Nat) (M_thrown : Int32) (M_waters : Int32) (M_windX : Int32) (M_windY : Int32) (M_barrels : Int32) (M_crew : Int32) (M_strength : Nat → Int32) : va_W := [(M 0, .inr (7, [.int M_thrown, .int M_waters, .ref (M 1), .int M_windX, .int M_windY, .int M_barrels, .ref (M 2), .int M_crew, .ref (M 3), .ref (M 4), .ref (M 5), .ref (M 6), .ref (M 7), .ref (M 8), .ref (M 9), .ref (M 10), .ref (M 11), .ref (M 12)])), aI c (M 4) 576 M_strength]
abbrev rmX7_tiesOf : Room := { frames := 3, cells := 0, slots := 0, locals := 64 }
theorem yd_X7_tiesOf : yX7_tiesOf.cls = RX7 ∧ yX7_tiesOf.cls ≠ "java/lang/invoke/MethodHandle" ∧ yX7_tiesOf.cls ≠ "java/lang/invoke/VarHandle" ∧ (parseMethodDescriptor yX7_tiesOf.desc).map (fun d => d.parameters.length) = some 1 := by decide +kernel
theorem kwX7_tiesOf_1 : Cond.fieldLink RX7 51 "BarrelRaftModel" "barrels" "I" ∈ wsX7_tiesOf := List.mem_of_getElem? (i := 1) rfl
set_option maxRecDepth 20000 in
theorem kinX7_tiesOf_X7 : ∀ w ∈ u_ws RX7 TX7 18, w ∈ wsX7_tiesOf := by decide +kernel
def jX7_tiesOf_L4 (M_barrels : Int32) (M_strength : Nat → Int32) (u1 : Int32) (n : Nat) (v2_4 : Int32) (v3_4 : Int32) : Option (Int32) :=
  match n with
  | 0 => none
  | n + 1 => (if M_barrels ≤ v3_4 then some v2_4 else (if v3_4 = u1 then jX7_tiesOf_L4 M_barrels M_strength u1 n (v2_4 + 0) (v3_4 + 1) else bnd (jX7_isTied M_strength v3_4 u1) (fun r1 => (if r1 = 0 then jX7_tiesOf_L4 M_barrels M_strength u1 n (v2_4 + 0) (v3_4 + 1) else jX7_tiesOf_L4 M_barrels M_strength u1 n (v2_4 + 1) (v3_4 + 1)))))
def jX7_tiesOf (M_barrels : Int32) (M_strength : Nat → Int32) (a1 : Int32) : Option (Int32) :=
  bnd (jX7_tiesOf_L4 M_barrels M_strength a1 FU 0 0) (fun r2 => some r2)
set_option maxHeartbeats 4000000 in
set_option maxRecDepth 100000 in
theorem mt_X7_tiesOf (l : Launch) (D : va_G) (c : Nat → ClassId) (M : Nat → Nat) (M_thrown : Int32) (M_waters : Int32) (M_windX : Int32) (M_windY : Int32) (M_barrels : Int32) (M_crew : Int32) (M_strength : Nat → Int32) (a1 : Int32) (q0 : Int32) (h : jX7_tiesOf M_barrels M_strength a1 = some q0) : DTi l yX7_tiesOf wsX7_tiesOf rmX7_tiesOf D c (wX7_tiesOf c M M_thrown M_waters M_windX M_windY M_barrels M_crew M_strength) [.ref (M 0), .int a1] q0 (wX7_tiesOf c M M_thrown M_waters M_windX M_windY M_barrels M_crew M_strength) 0 0 := by
  refine DTi_of (cc := cX7_tiesOf) (nL := 4) RX7 rfl (by decide) rfl (Nat.le_of_ble_eq_true rfl) (fun g C ret => ?_)
  unfold jX7_tiesOf at h
  refine vv_lv [0, 1] [(0, .ref (M 0)), (1, .int a1)] rfl ?_
  refine vv_iconst C (v := 0) dX7_tiesOf_0 (by decide) 1 rfl ?_
  refine vv_istore_n C [(2, .int 0), (0, .ref (M 0)), (1, .int a1)] dX7_tiesOf_1 rfl (by decide) rfl 2 rfl ?_
  refine vv_iconst C (v := 0) dX7_tiesOf_2 (by decide) 3 rfl ?_
  refine vv_istore_n C [(3, .int 0), (2, .int 0), (0, .ref (M 0)), (1, .int a1)] dX7_tiesOf_3 rfl (by decide) rfl 4 rfl ?_
  refine vv_lv [2, 3, 1, 0] [(0, .ref (M 0)), (1, .int a1), (2, .int 0), (3, .int 0)] rfl ?_
  have L4 : ∀ (n : Nat) (v2_4 : Int32) (v3_4 : Int32) (q4 : Int32), jX7_tiesOf_L4 M_barrels M_strength a1 n v2_4 v3_4 = some q4 → (VV g D 4 0 0 (wX7_tiesOf c M M_thrown M_waters M_windX M_windY M_barrels M_crew M_strength) [(2, .int q4)] 40 []) → VV g D 4 0 0 (wX7_tiesOf c M M_thrown M_waters M_windX M_windY M_barrels M_crew M_strength) [(0, .ref (M 0)), (1, .int a1), (2, .int v2_4), (3, .int v3_4)] 4 [] := by
    intro n
    induction n with
    | zero =>
      intro v2_4 v3_4 q4 h _
      rw [jX7_tiesOf_L4] at h
      cases h
    | succ n ih4 =>
      intro v2_4 v3_4 q4 h kk4
      rw [jX7_tiesOf_L4] at h
      refine vv_iload_n C dX7_tiesOf_4 rfl 3 rfl 5 rfl ?_
      refine vv_aload_n C dX7_tiesOf_5 rfl 0 rfl 6 rfl ?_
      refine vv_get C (q0 := 0) (ci := 7) (k := 5) kinX7_tiesOf_X7 rfl rfl (by decide) kwX7_tiesOf_1 rfl rfl dX7_tiesOf_6 9 rfl ?_
      refine vv_icmp_ge C 40 12 dX7_tiesOf_9 (by decide) rfl (fun hc => ?_) (fun hc => ?_)
      · replace h := ite_t hc h
        refine vv_lv [2] [(2, .int v2_4)] rfl ?_
        obtain rfl := Option.some.inj h
        exact kk4
      · replace h := ite_f hc h
        refine vv_iload_n C dX7_tiesOf_12 rfl 2 rfl 13 rfl ?_
        refine vv_iload_n C dX7_tiesOf_13 rfl 3 rfl 14 rfl ?_
        refine vv_iload_n C dX7_tiesOf_14 rfl 1 rfl 15 rfl ?_
        refine vv_icmp_eq C 31 18 dX7_tiesOf_15 (by decide) rfl (fun hc => ?_) (fun hc => ?_)
        · replace h := ite_t hc h
          refine vv_iconst C (v := 0) dX7_tiesOf_31 (by decide) 32 rfl ?_
          refine vv_iadd C dX7_tiesOf_32 33 rfl ?_
          refine vv_istore_n C [(2, .int (v2_4 + 0)), (0, .ref (M 0)), (1, .int a1), (3, .int v3_4)] dX7_tiesOf_33 rfl (by decide) rfl 34 rfl ?_
          refine vv_iinc C (k := 3) [(3, .int (v3_4 + 1)), (2, .int (v2_4 + 0)), (0, .ref (M 0)), (1, .int a1)] dX7_tiesOf_34 rfl rfl (by decide) rfl 37 rfl ?_
          refine vv_goto C 4 dX7_tiesOf_37 (by decide) ?_
          refine vv_lv [2, 3, 1, 0] [(0, .ref (M 0)), (1, .int a1), (2, .int (v2_4 + 0)), (3, .int (v3_4 + 1))] rfl ?_
          exact ih4 (v2_4 + 0) (v3_4 + 1) _ h kk4
        · replace h := ite_f hc h
          refine vv_aload_n C dX7_tiesOf_18 rfl 0 rfl 19 rfl ?_
          refine vv_iload_n C dX7_tiesOf_19 rfl 3 rfl 20 rfl ?_
          refine vv_iload_n C dX7_tiesOf_20 rfl 1 rfl 21 rfl ?_
          obtain ⟨r1, hr1, h⟩ := bnd_s h
          refine vv_callVi C (fun l => mt_X7_isTied l D c M M_thrown M_waters M_windX M_windY M_barrels M_crew M_strength v3_4 a1 r1 hr1) gX7_tiesOf_X7_isTied rfl rfl rfl yd_X7_isTied ⟨Nat.le_of_ble_eq_true rfl, Nat.le_of_ble_eq_true rfl⟩ [0, 1] rfl (by decide) 0 rfl rfl (wX7_tiesOf c M M_thrown M_waters M_windX M_windY M_barrels M_crew M_strength) [(true, 0), (true, 1)] rfl (by decide) rfl rfl [.int v2_4] rfl (Nat.le_of_ble_eq_true rfl) ⟨Nat.le_of_ble_eq_true rfl, Nat.le_of_ble_eq_true rfl⟩ dX7_tiesOf_21 24 0 0 rfl ⟨rfl, rfl⟩ ?_
          refine vv_if_eq C 31 27 dX7_tiesOf_24 (by decide) rfl (fun hc => ?_) (fun hc => ?_)
          · replace h := ite_t hc h
            refine vv_iconst C (v := 0) dX7_tiesOf_31 (by decide) 32 rfl ?_
            refine vv_iadd C dX7_tiesOf_32 33 rfl ?_
            refine vv_istore_n C [(2, .int (v2_4 + 0)), (0, .ref (M 0)), (1, .int a1), (3, .int v3_4)] dX7_tiesOf_33 rfl (by decide) rfl 34 rfl ?_
            refine vv_iinc C (k := 3) [(3, .int (v3_4 + 1)), (2, .int (v2_4 + 0)), (0, .ref (M 0)), (1, .int a1)] dX7_tiesOf_34 rfl rfl (by decide) rfl 37 rfl ?_
            refine vv_goto C 4 dX7_tiesOf_37 (by decide) ?_
            refine vv_lv [2, 3, 1, 0] [(0, .ref (M 0)), (1, .int a1), (2, .int (v2_4 + 0)), (3, .int (v3_4 + 1))] rfl ?_
            exact ih4 (v2_4 + 0) (v3_4 + 1) _ h kk4
          · replace h := ite_f hc h
            refine vv_iconst C (v := 1) dX7_tiesOf_27 (by decide) 28 rfl ?_
            refine vv_goto C 32 dX7_tiesOf_28 (by decide) ?_
            refine vv_iadd C dX7_tiesOf_32 33 rfl ?_
            refine vv_istore_n C [(2, .int (v2_4 + 1)), (0, .ref (M 0)), (1, .int a1), (3, .int v3_4)] dX7_tiesOf_33 rfl (by decide) rfl 34 rfl ?_
            refine vv_iinc C (k := 3) [(3, .int (v3_4 + 1)), (2, .int (v2_4 + 1)), (0, .ref (M 0)), (1, .int a1)] dX7_tiesOf_34 rfl rfl (by decide) rfl 37 rfl ?_
            refine vv_goto C 4 dX7_tiesOf_37 (by decide) ?_
            refine vv_lv [2, 3, 1, 0] [(0, .ref (M 0)), (1, .int a1), (2, .int (v2_4 + 1)), (3, .int (v3_4 + 1))] rfl ?_
            exact ih4 (v2_4 + 1) (v3_4 + 1) _ h kk4
  obtain ⟨r2, hr2, h⟩ := bnd_s h
  refine L4 FU 0 0 r2 hr2 ?_
  refine vv_iload_n C dX7_tiesOf_40 rfl 0 rfl 41 rfl ?_
  obtain rfl := Option.some.inj h
  exact ret _ _ dX7_tiesOf_41
abbrev wX7_lifts (c : Nat → ClassId) (M : Nat → Nat) (M_thrown : Int32) (M_waters : Int32) (M_windX : Int32) (M_windY : Int32) (M_barrels : Int32) (M_crew : Int32) (M_fixed : Nat → Int32) (M_table : Nat → Int32) : va_W := [(M 0, .inr (7, [.int M_thrown, .int M_waters, .ref (M 1), .int M_windX, .int M_windY, .int M_barrels, .ref (M 2), .int M_crew, .ref (M 3), .ref (M 4), .ref (M 5), .ref (M 6), .ref (M 7), .ref (M 8), .ref (M 9), .ref (M 10), .ref (M 11), .ref (M 12)])), aI c (M 2) 72 M_fixed, aI c (M 3) 120 M_table]
abbrev rmX7_lifts : Room := { frames := 1, cells := 0, slots := 0, locals := 22 }
theorem yd_X7_lifts : yX7_lifts.cls = RX7 ∧ yX7_lifts.cls ≠ "java/lang/invoke/MethodHandle" ∧ yX7_lifts.cls ≠ "java/lang/invoke/VarHandle" ∧ (parseMethodDescriptor yX7_lifts.desc).map (fun d => d.parameters.length) = some 1 := by decide +kernel
def jX7_lifts (M_fixed : Nat → Int32) (M_table : Nat → Int32) (a1 : Int32) : Option (Int32) :=
  bnd (jX7_fx M_fixed a1 1) (fun r1 => bnd (jX7_ba M_table a1 0) (fun r2 => some ((r1 * (100 - r2)) / 100)))
set_option maxHeartbeats 4000000 in
set_option maxRecDepth 100000 in
theorem mt_X7_lifts (l : Launch) (D : va_G) (c : Nat → ClassId) (M : Nat → Nat) (M_thrown : Int32) (M_waters : Int32) (M_windX : Int32) (M_windY : Int32) (M_barrels : Int32) (M_crew : Int32) (M_fixed : Nat → Int32) (M_table : Nat → Int32) (a1 : Int32) (q0 : Int32) (h : jX7_lifts M_fixed M_table a1 = some q0) : DTi l yX7_lifts wsX7_lifts rmX7_lifts D c (wX7_lifts c M M_thrown M_waters M_windX M_windY M_barrels M_crew M_fixed M_table) [.ref (M 0), .int a1] q0 (wX7_lifts c M M_thrown M_waters M_windX M_windY M_barrels M_crew M_fixed M_table) 0 0 := by
  refine DTi_of (cc := cX7_lifts) (nL := 2) RX7 rfl (by decide) rfl (Nat.le_of_ble_eq_true rfl) (fun g C ret => ?_)
  unfold jX7_lifts at h
  refine vv_lv [0, 1] [(0, .ref (M 0)), (1, .int a1)] rfl ?_
  refine vv_aload_n C dX7_lifts_0 rfl 0 rfl 1 rfl ?_
  refine vv_iload_n C dX7_lifts_1 rfl 1 rfl 2 rfl ?_
  refine vv_iconst C (v := 1) dX7_lifts_2 (by decide) 3 rfl ?_
  obtain ⟨r1, hr1, h⟩ := bnd_s h
  refine vv_callVi C (fun l => mt_X7_fx l D c M M_thrown M_waters M_windX M_windY M_barrels M_crew M_fixed a1 1 r1 hr1) gX7_lifts_X7_fx rfl rfl rfl yd_X7_fx ⟨Nat.le_of_ble_eq_true rfl, Nat.le_of_ble_eq_true rfl⟩ [0, 1] rfl (by decide) 0 rfl rfl (wX7_lifts c M M_thrown M_waters M_windX M_windY M_barrels M_crew M_fixed M_table) [(true, 0), (true, 1), (false, 2)] rfl (by decide) rfl rfl [] rfl (Nat.le_of_ble_eq_true rfl) ⟨Nat.le_of_ble_eq_true rfl, Nat.le_of_ble_eq_true rfl⟩ dX7_lifts_3 6 0 0 rfl ⟨rfl, rfl⟩ ?_
  refine vv_bipush C (v := 100) dX7_lifts_6 (by decide) 8 rfl ?_
  refine vv_aload_n C dX7_lifts_8 rfl 0 rfl 9 rfl ?_
  refine vv_iload_n C dX7_lifts_9 rfl 1 rfl 10 rfl ?_
  refine vv_iconst C (v := 0) dX7_lifts_10 (by decide) 11 rfl ?_
  obtain ⟨r2, hr2, h⟩ := bnd_s h
  refine vv_callVi C (fun l => mt_X7_ba l D c M M_thrown M_waters M_windX M_windY M_barrels M_crew M_table a1 0 r2 hr2) gX7_lifts_X7_ba rfl rfl rfl yd_X7_ba ⟨Nat.le_of_ble_eq_true rfl, Nat.le_of_ble_eq_true rfl⟩ [0, 2] rfl (by decide) 0 rfl rfl (wX7_lifts c M M_thrown M_waters M_windX M_windY M_barrels M_crew M_fixed M_table) [(true, 0), (false, 1), (true, 1)] rfl (by decide) rfl rfl [.int 100, .int r1] rfl (Nat.le_of_ble_eq_true rfl) ⟨Nat.le_of_ble_eq_true rfl, Nat.le_of_ble_eq_true rfl⟩ dX7_lifts_11 14 0 0 rfl ⟨rfl, rfl⟩ ?_
  refine vv_isub C dX7_lifts_14 15 rfl ?_
  refine vv_imul C dX7_lifts_15 16 rfl ?_
  refine vv_bipush C (v := 100) dX7_lifts_16 (by decide) 18 rfl ?_
  refine vv_idiv C dX7_lifts_18 (by decide) 19 rfl ?_
  obtain rfl := Option.some.inj h
  exact ret _ _ dX7_lifts_19
abbrev wX7_crewOn (c : Nat → ClassId) (M : Nat → Nat) (M_thrown : Int32) (M_waters : Int32) (M_windX : Int32) (M_windY : Int32) (M_barrels : Int32) (M_crew : Int32) (M_people : Nat → Int32) : va_W := [(M 0, .inr (7, [.int M_thrown, .int M_waters, .ref (M 1), .int M_windX, .int M_windY, .int M_barrels, .ref (M 2), .int M_crew, .ref (M 3), .ref (M 4), .ref (M 5), .ref (M 6), .ref (M 7), .ref (M 8), .ref (M 9), .ref (M 10), .ref (M 11), .ref (M 12)])), aI c (M 6) 16 M_people]
abbrev rmX7_crewOn : Room := { frames := 0, cells := 0, slots := 0, locals := 0 }
theorem yd_X7_crewOn : yX7_crewOn.cls = RX7 ∧ yX7_crewOn.cls ≠ "java/lang/invoke/MethodHandle" ∧ yX7_crewOn.cls ≠ "java/lang/invoke/VarHandle" ∧ (parseMethodDescriptor yX7_crewOn.desc).map (fun d => d.parameters.length) = some 1 := by decide +kernel
theorem kwX7_crewOn_1 : Cond.fieldLink RX7 127 "BarrelRaftModel" "crew" "I" ∈ wsX7_crewOn := List.mem_of_getElem? (i := 1) rfl
set_option maxRecDepth 20000 in
theorem kinX7_crewOn_X7 : ∀ w ∈ u_ws RX7 TX7 18, w ∈ wsX7_crewOn := by decide +kernel
theorem kwX7_crewOn_2 : Cond.fieldLink RX7 25 "BarrelRaftModel" "people" "[I" ∈ wsX7_crewOn := List.mem_of_getElem? (i := 2) rfl
def jX7_crewOn_L4 (M_crew : Int32) (M_people : Nat → Int32) (u1 : Int32) (n : Nat) (v2_4 : Int32) (v3_4 : Int32) : Option (Int32) :=
  match n with
  | 0 => none
  | n + 1 => (if M_crew ≤ v3_4 then some v2_4 else chk 16 (2 * v3_4) ((if rd M_people (2 * v3_4) = u1 then jX7_crewOn_L4 M_crew M_people u1 n (v2_4 + 1) (v3_4 + 1) else jX7_crewOn_L4 M_crew M_people u1 n (v2_4 + 0) (v3_4 + 1))))
def jX7_crewOn (M_crew : Int32) (M_people : Nat → Int32) (a1 : Int32) : Option (Int32) :=
  bnd (jX7_crewOn_L4 M_crew M_people a1 FU 0 0) (fun r1 => some r1)
set_option maxHeartbeats 4000000 in
set_option maxRecDepth 100000 in
theorem mt_X7_crewOn (l : Launch) (D : va_G) (c : Nat → ClassId) (M : Nat → Nat) (M_thrown : Int32) (M_waters : Int32) (M_windX : Int32) (M_windY : Int32) (M_barrels : Int32) (M_crew : Int32) (M_people : Nat → Int32) (a1 : Int32) (q0 : Int32) (h : jX7_crewOn M_crew M_people a1 = some q0) : DTi l yX7_crewOn wsX7_crewOn rmX7_crewOn D c (wX7_crewOn c M M_thrown M_waters M_windX M_windY M_barrels M_crew M_people) [.ref (M 0), .int a1] q0 (wX7_crewOn c M M_thrown M_waters M_windX M_windY M_barrels M_crew M_people) 0 0 := by
  refine DTi_of (cc := cX7_crewOn) (nL := 4) RX7 rfl (by decide) rfl (Nat.le_of_ble_eq_true rfl) (fun g C ret => ?_)
  unfold jX7_crewOn at h
  refine vv_lv [0, 1] [(0, .ref (M 0)), (1, .int a1)] rfl ?_
  refine vv_iconst C (v := 0) dX7_crewOn_0 (by decide) 1 rfl ?_
  refine vv_istore_n C [(2, .int 0), (0, .ref (M 0)), (1, .int a1)] dX7_crewOn_1 rfl (by decide) rfl 2 rfl ?_
  refine vv_iconst C (v := 0) dX7_crewOn_2 (by decide) 3 rfl ?_
  refine vv_istore_n C [(3, .int 0), (2, .int 0), (0, .ref (M 0)), (1, .int a1)] dX7_crewOn_3 rfl (by decide) rfl 4 rfl ?_
  refine vv_lv [2, 3, 1, 0] [(0, .ref (M 0)), (1, .int a1), (2, .int 0), (3, .int 0)] rfl ?_
  have L4 : ∀ (n : Nat) (v2_4 : Int32) (v3_4 : Int32) (q4 : Int32), jX7_crewOn_L4 M_crew M_people a1 n v2_4 v3_4 = some q4 → (VV g D 4 0 0 (wX7_crewOn c M M_thrown M_waters M_windX M_windY M_barrels M_crew M_people) [(2, .int q4)] 38 []) → VV g D 4 0 0 (wX7_crewOn c M M_thrown M_waters M_windX M_windY M_barrels M_crew M_people) [(0, .ref (M 0)), (1, .int a1), (2, .int v2_4), (3, .int v3_4)] 4 [] := by
    intro n
    induction n with
    | zero =>
      intro v2_4 v3_4 q4 h _
      rw [jX7_crewOn_L4] at h
      cases h
    | succ n ih4 =>
      intro v2_4 v3_4 q4 h kk4
      rw [jX7_crewOn_L4] at h
      refine vv_iload_n C dX7_crewOn_4 rfl 3 rfl 5 rfl ?_
      refine vv_aload_n C dX7_crewOn_5 rfl 0 rfl 6 rfl ?_
      refine vv_get C (q0 := 0) (ci := 7) (k := 7) kinX7_crewOn_X7 rfl rfl (by decide) kwX7_crewOn_1 rfl rfl dX7_crewOn_6 9 rfl ?_
      refine vv_icmp_ge C 38 12 dX7_crewOn_9 (by decide) rfl (fun hc => ?_) (fun hc => ?_)
      · replace h := ite_t hc h
        refine vv_lv [2] [(2, .int v2_4)] rfl ?_
        obtain rfl := Option.some.inj h
        exact kk4
      · replace h := ite_f hc h
        refine vv_iload_n C dX7_crewOn_12 rfl 2 rfl 13 rfl ?_
        refine vv_aload_n C dX7_crewOn_13 rfl 0 rfl 14 rfl ?_
        refine vv_get C (q0 := 0) (ci := 7) (k := 11) kinX7_crewOn_X7 rfl rfl (by decide) kwX7_crewOn_2 rfl rfl dX7_crewOn_14 17 rfl ?_
        refine vv_iconst C (v := 2) dX7_crewOn_17 (by decide) 18 rfl ?_
        refine vv_iload_n C dX7_crewOn_18 rfl 3 rfl 19 rfl ?_
        refine vv_imul C dX7_crewOn_19 20 rfl ?_
        obtain ⟨hi, h⟩ := chk_s h
        refine vv_iald C (q0 := 1) rfl hi dX7_crewOn_20 21 rfl ?_
        refine vv_iload_n C dX7_crewOn_21 rfl 1 rfl 22 rfl ?_
        refine vv_icmp_ne C 29 25 dX7_crewOn_22 (by decide) rfl (fun hc => ?_) (fun hc => ?_)
        · replace h := ite_f hc h
          refine vv_iconst C (v := 0) dX7_crewOn_29 (by decide) 30 rfl ?_
          refine vv_iadd C dX7_crewOn_30 31 rfl ?_
          refine vv_istore_n C [(2, .int (v2_4 + 0)), (0, .ref (M 0)), (1, .int a1), (3, .int v3_4)] dX7_crewOn_31 rfl (by decide) rfl 32 rfl ?_
          refine vv_iinc C (k := 3) [(3, .int (v3_4 + 1)), (2, .int (v2_4 + 0)), (0, .ref (M 0)), (1, .int a1)] dX7_crewOn_32 rfl rfl (by decide) rfl 35 rfl ?_
          refine vv_goto C 4 dX7_crewOn_35 (by decide) ?_
          refine vv_lv [2, 3, 1, 0] [(0, .ref (M 0)), (1, .int a1), (2, .int (v2_4 + 0)), (3, .int (v3_4 + 1))] rfl ?_
          exact ih4 (v2_4 + 0) (v3_4 + 1) _ h kk4
        · replace h := ite_t hc h
          refine vv_iconst C (v := 1) dX7_crewOn_25 (by decide) 26 rfl ?_
          refine vv_goto C 30 dX7_crewOn_26 (by decide) ?_
          refine vv_iadd C dX7_crewOn_30 31 rfl ?_
          refine vv_istore_n C [(2, .int (v2_4 + 1)), (0, .ref (M 0)), (1, .int a1), (3, .int v3_4)] dX7_crewOn_31 rfl (by decide) rfl 32 rfl ?_
          refine vv_iinc C (k := 3) [(3, .int (v3_4 + 1)), (2, .int (v2_4 + 1)), (0, .ref (M 0)), (1, .int a1)] dX7_crewOn_32 rfl rfl (by decide) rfl 35 rfl ?_
          refine vv_goto C 4 dX7_crewOn_35 (by decide) ?_
          refine vv_lv [2, 3, 1, 0] [(0, .ref (M 0)), (1, .int a1), (2, .int (v2_4 + 1)), (3, .int (v3_4 + 1))] rfl ?_
          exact ih4 (v2_4 + 1) (v3_4 + 1) _ h kk4
  obtain ⟨r1, hr1, h⟩ := bnd_s h
  refine L4 FU 0 0 r1 hr1 ?_
  refine vv_iload_n C dX7_crewOn_38 rfl 0 rfl 39 rfl ?_
  obtain rfl := Option.some.inj h
  exact ret _ _ dX7_crewOn_39
abbrev wX7_loadOf (c : Nat → ClassId) (M : Nat → Nat) (M_thrown : Int32) (M_waters : Int32) (M_windX : Int32) (M_windY : Int32) (M_barrels : Int32) (M_crew : Int32) (M_table : Nat → Int32) (M_people : Nat → Int32) : va_W := [(M 0, .inr (7, [.int M_thrown, .int M_waters, .ref (M 1), .int M_windX, .int M_windY, .int M_barrels, .ref (M 2), .int M_crew, .ref (M 3), .ref (M 4), .ref (M 5), .ref (M 6), .ref (M 7), .ref (M 8), .ref (M 9), .ref (M 10), .ref (M 11), .ref (M 12)])), aI c (M 3) 120 M_table, aI c (M 6) 16 M_people]
abbrev rmX7_loadOf : Room := { frames := 1, cells := 0, slots := 0, locals := 23 }
theorem yd_X7_loadOf : yX7_loadOf.cls = RX7 ∧ yX7_loadOf.cls ≠ "java/lang/invoke/MethodHandle" ∧ yX7_loadOf.cls ≠ "java/lang/invoke/VarHandle" ∧ (parseMethodDescriptor yX7_loadOf.desc).map (fun d => d.parameters.length) = some 1 := by decide +kernel
def jX7_loadOf (M_crew : Int32) (M_table : Nat → Int32) (M_people : Nat → Int32) (a1 : Int32) : Option (Int32) :=
  bnd (jX7_ba M_table a1 1) (fun r1 => bnd (jX7_crewOn M_crew M_people a1) (fun r2 => some (r1 + (7 * r2))))
set_option maxHeartbeats 4000000 in
set_option maxRecDepth 100000 in
theorem mt_X7_loadOf (l : Launch) (D : va_G) (c : Nat → ClassId) (M : Nat → Nat) (M_thrown : Int32) (M_waters : Int32) (M_windX : Int32) (M_windY : Int32) (M_barrels : Int32) (M_crew : Int32) (M_table : Nat → Int32) (M_people : Nat → Int32) (a1 : Int32) (q0 : Int32) (h : jX7_loadOf M_crew M_table M_people a1 = some q0) : DTi l yX7_loadOf wsX7_loadOf rmX7_loadOf D c (wX7_loadOf c M M_thrown M_waters M_windX M_windY M_barrels M_crew M_table M_people) [.ref (M 0), .int a1] q0 (wX7_loadOf c M M_thrown M_waters M_windX M_windY M_barrels M_crew M_table M_people) 0 0 := by
  refine DTi_of (cc := cX7_loadOf) (nL := 2) RX7 rfl (by decide) rfl (Nat.le_of_ble_eq_true rfl) (fun g C ret => ?_)
  unfold jX7_loadOf at h
  refine vv_lv [0, 1] [(0, .ref (M 0)), (1, .int a1)] rfl ?_
  refine vv_aload_n C dX7_loadOf_0 rfl 0 rfl 1 rfl ?_
  refine vv_iload_n C dX7_loadOf_1 rfl 1 rfl 2 rfl ?_
  refine vv_iconst C (v := 1) dX7_loadOf_2 (by decide) 3 rfl ?_
  obtain ⟨r1, hr1, h⟩ := bnd_s h
  refine vv_callVi C (fun l => mt_X7_ba l D c M M_thrown M_waters M_windX M_windY M_barrels M_crew M_table a1 1 r1 hr1) gX7_loadOf_X7_ba rfl rfl rfl yd_X7_ba ⟨Nat.le_of_ble_eq_true rfl, Nat.le_of_ble_eq_true rfl⟩ [0, 1] rfl (by decide) 0 rfl rfl (wX7_loadOf c M M_thrown M_waters M_windX M_windY M_barrels M_crew M_table M_people) [(true, 0), (true, 1), (false, 2)] rfl (by decide) rfl rfl [] rfl (Nat.le_of_ble_eq_true rfl) ⟨Nat.le_of_ble_eq_true rfl, Nat.le_of_ble_eq_true rfl⟩ dX7_loadOf_3 6 0 0 rfl ⟨rfl, rfl⟩ ?_
  refine vv_bipush C (v := 7) dX7_loadOf_6 (by decide) 8 rfl ?_
  refine vv_aload_n C dX7_loadOf_8 rfl 0 rfl 9 rfl ?_
  refine vv_iload_n C dX7_loadOf_9 rfl 1 rfl 10 rfl ?_
  obtain ⟨r2, hr2, h⟩ := bnd_s h
  refine vv_callVi C (fun l => mt_X7_crewOn l D c M M_thrown M_waters M_windX M_windY M_barrels M_crew M_people a1 r2 hr2) gX7_loadOf_X7_crewOn rfl rfl rfl yd_X7_crewOn ⟨Nat.le_of_ble_eq_true rfl, Nat.le_of_ble_eq_true rfl⟩ [0, 2] rfl (by decide) 0 rfl rfl (wX7_loadOf c M M_thrown M_waters M_windX M_windY M_barrels M_crew M_table M_people) [(true, 0), (false, 1), (true, 1)] rfl (by decide) rfl rfl [.int 7, .int r1] rfl (Nat.le_of_ble_eq_true rfl) ⟨Nat.le_of_ble_eq_true rfl, Nat.le_of_ble_eq_true rfl⟩ dX7_loadOf_10 13 0 0 rfl ⟨rfl, rfl⟩ ?_
  refine vv_imul C dX7_loadOf_13 14 rfl ?_
  refine vv_iadd C dX7_loadOf_14 15 rfl ?_
  obtain rfl := Option.some.inj h
  exact ret _ _ dX7_loadOf_15
abbrev wX7_barrelTold (c : Nat → ClassId) (M : Nat → Nat) (M_thrown : Int32) (M_waters : Int32) (M_windX : Int32) (M_windY : Int32) (M_barrels : Int32) (M_crew : Int32) (M_fixed : Nat → Int32) (M_table : Nat → Int32) (M_strength : Nat → Int32) (M_people : Nat → Int32) (M_pieces : Nat → Int32) : va_W := [(M 0, .inr (7, [.int M_thrown, .int M_waters, .ref (M 1), .int M_windX, .int M_windY, .int M_barrels, .ref (M 2), .int M_crew, .ref (M 3), .ref (M 4), .ref (M 5), .ref (M 6), .ref (M 7), .ref (M 8), .ref (M 9), .ref (M 10), .ref (M 11), .ref (M 12)])), aI c (M 2) 72 M_fixed, aI c (M 3) 120 M_table, aI c (M 4) 576 M_strength, aI c (M 6) 16 M_people, aI c (M 8) 24 M_pieces]
abbrev rmX7_barrelTold : Room := { frames := 4, cells := 0, slots := 0, locals := 87 }
theorem yd_X7_barrelTold : yX7_barrelTold.cls = RX7 ∧ yX7_barrelTold.cls ≠ "java/lang/invoke/MethodHandle" ∧ yX7_barrelTold.cls ≠ "java/lang/invoke/VarHandle" ∧ (parseMethodDescriptor yX7_barrelTold.desc).map (fun d => d.parameters.length) = some 2 := by decide +kernel
theorem kwX7_barrelTold_1 : Cond.fieldLink RX7 31 "BarrelRaftModel" "pieces" "[I" ∈ wsX7_barrelTold := List.mem_of_getElem? (i := 1) rfl
set_option maxRecDepth 20000 in
theorem kinX7_barrelTold_X7 : ∀ w ∈ u_ws RX7 TX7 18, w ∈ wsX7_barrelTold := by decide +kernel
def jX7_barrelTold (M_barrels : Int32) (M_crew : Int32) (M_fixed : Nat → Int32) (M_table : Nat → Int32) (M_strength : Nat → Int32) (M_people : Nat → Int32) (M_pieces : Nat → Int32) (a1 : Int32) (a2 : Int32) : Option (Int32 × (Nat → Int32)) :=
  (if a2 = 0 then bnd (jX7_fx M_fixed a1 0) (fun r1 => some (r1 - r1 / 8 * 8, M_pieces)) else (if a2 = 1 then bnd (jX7_fx M_fixed a1 0) (fun r2 => some (r2 / 8, M_pieces)) else (if a2 = 2 then bnd (jX7_fx M_fixed a1 (a2 - 1)) (fun r3 => some (r3, M_pieces)) else (if a2 = 3 then bnd (jX7_fx M_fixed a1 (a2 - 1)) (fun r4 => some (r4, M_pieces)) else (if a2 = 4 then bnd (jX7_ba M_table a1 (a2 - 4)) (fun r5 => some (r5, M_pieces)) else (if a2 = 5 then bnd (jX7_ba M_table a1 (a2 - 4)) (fun r6 => some (r6, M_pieces)) else (if a2 = 6 then bnd (jX7_ba M_table a1 (a2 - 4)) (fun r7 => some (r7, M_pieces)) else (if a2 = 7 then bnd (jX7_name M_barrels M_table M_strength M_pieces) (fun r8 => chk 24 a1 (some (rd r8 a1, r8))) else (if a2 = 8 then bnd (jX7_ba M_table a1 (a2 - 5)) (fun r9 => some (r9, M_pieces)) else (if a2 = 9 then bnd (jX7_ba M_table a1 (a2 - 5)) (fun r10 => some (r10, M_pieces)) else (if a2 = 10 then bnd (jX7_tiesOf M_barrels M_strength a1) (fun r11 => some (r11, M_pieces)) else (if a2 = 11 then bnd (jX7_lifts M_fixed M_table a1) (fun r12 => some (r12, M_pieces)) else bnd (jX7_loadOf M_crew M_table M_people a1) (fun r13 => some (r13, M_pieces))))))))))))))
set_option maxHeartbeats 4000000 in
set_option maxRecDepth 100000 in
theorem mt_X7_barrelTold (l : Launch) (D : va_G) (c : Nat → ClassId) (M : Nat → Nat) (M_thrown : Int32) (M_waters : Int32) (M_windX : Int32) (M_windY : Int32) (M_barrels : Int32) (M_crew : Int32) (M_fixed : Nat → Int32) (M_table : Nat → Int32) (M_strength : Nat → Int32) (M_people : Nat → Int32) (M_pieces : Nat → Int32) (a1 : Int32) (a2 : Int32) (q0 : Int32 × (Nat → Int32)) (h : jX7_barrelTold M_barrels M_crew M_fixed M_table M_strength M_people M_pieces a1 a2 = some q0) : DTi l yX7_barrelTold wsX7_barrelTold rmX7_barrelTold D c (wX7_barrelTold c M M_thrown M_waters M_windX M_windY M_barrels M_crew M_fixed M_table M_strength M_people M_pieces) [.ref (M 0), .int a1, .int a2] q0.1 (wX7_barrelTold c M M_thrown M_waters M_windX M_windY M_barrels M_crew M_fixed M_table M_strength M_people q0.2) 0 0 := by
  refine DTi_of (cc := cX7_barrelTold) (nL := 3) RX7 rfl (by decide) rfl (Nat.le_of_ble_eq_true rfl) (fun g C ret => ?_)
  unfold jX7_barrelTold at h
  refine vv_lv [0, 1, 2] [(0, .ref (M 0)), (1, .int a1), (2, .int a2)] rfl ?_
  refine vv_iload_n C dX7_barrelTold_0 rfl 2 rfl 1 rfl ?_
  by_cases hn0 : a2 = 0
  · replace h := ite_t hn0 h
    refine vv_swIn C (off := 63) 64 dX7_barrelTold_1 (by rw [hn0]; decide) (by rw [hn0]; decide) (by rw [hn0]; rfl) (by decide) ?_
    refine vv_aload_n C dX7_barrelTold_64 rfl 0 rfl 65 rfl ?_
    refine vv_iload_n C dX7_barrelTold_65 rfl 1 rfl 66 rfl ?_
    refine vv_iconst C (v := 0) dX7_barrelTold_66 (by decide) 67 rfl ?_
    obtain ⟨r1, hr1, h⟩ := bnd_s h
    refine vv_callVi C (fun l => mt_X7_fx l D c M M_thrown M_waters M_windX M_windY M_barrels M_crew M_fixed a1 0 r1 hr1) gX7_barrelTold_X7_fx rfl rfl rfl yd_X7_fx ⟨Nat.le_of_ble_eq_true rfl, Nat.le_of_ble_eq_true rfl⟩ [0, 1] rfl (by decide) 0 rfl rfl (wX7_barrelTold c M M_thrown M_waters M_windX M_windY M_barrels M_crew M_fixed M_table M_strength M_people M_pieces) [(true, 0), (true, 1), (false, 2), (false, 3), (false, 4), (false, 5)] rfl (by decide) rfl rfl [] rfl (Nat.le_of_ble_eq_true rfl) ⟨Nat.le_of_ble_eq_true rfl, Nat.le_of_ble_eq_true rfl⟩ dX7_barrelTold_67 70 0 0 rfl ⟨rfl, rfl⟩ ?_
    refine vv_bipush C (v := 8) dX7_barrelTold_70 (by decide) 72 rfl ?_
    refine vv_irem C dX7_barrelTold_72 (by decide) 73 rfl ?_
    obtain rfl := Option.some.inj h
    exact ret _ _ dX7_barrelTold_73
  · replace h := ite_f hn0 h
    by_cases hn1 : a2 = 1
    · replace h := ite_t hn1 h
      refine vv_swIn C (off := 73) 74 dX7_barrelTold_1 (by rw [hn1]; decide) (by rw [hn1]; decide) (by rw [hn1]; rfl) (by decide) ?_
      refine vv_aload_n C dX7_barrelTold_74 rfl 0 rfl 75 rfl ?_
      refine vv_iload_n C dX7_barrelTold_75 rfl 1 rfl 76 rfl ?_
      refine vv_iconst C (v := 0) dX7_barrelTold_76 (by decide) 77 rfl ?_
      obtain ⟨r2, hr2, h⟩ := bnd_s h
      refine vv_callVi C (fun l => mt_X7_fx l D c M M_thrown M_waters M_windX M_windY M_barrels M_crew M_fixed a1 0 r2 hr2) gX7_barrelTold_X7_fx rfl rfl rfl yd_X7_fx ⟨Nat.le_of_ble_eq_true rfl, Nat.le_of_ble_eq_true rfl⟩ [0, 1] rfl (by decide) 0 rfl rfl (wX7_barrelTold c M M_thrown M_waters M_windX M_windY M_barrels M_crew M_fixed M_table M_strength M_people M_pieces) [(true, 0), (true, 1), (false, 2), (false, 3), (false, 4), (false, 5)] rfl (by decide) rfl rfl [] rfl (Nat.le_of_ble_eq_true rfl) ⟨Nat.le_of_ble_eq_true rfl, Nat.le_of_ble_eq_true rfl⟩ dX7_barrelTold_77 80 0 0 rfl ⟨rfl, rfl⟩ ?_
      refine vv_bipush C (v := 8) dX7_barrelTold_80 (by decide) 82 rfl ?_
      refine vv_idiv C dX7_barrelTold_82 (by decide) 83 rfl ?_
      obtain rfl := Option.some.inj h
      exact ret _ _ dX7_barrelTold_83
    · replace h := ite_f hn1 h
      by_cases hn2 : a2 = 2
      · replace h := ite_t hn2 h
        refine vv_swIn C (off := 83) 84 dX7_barrelTold_1 (by rw [hn2]; decide) (by rw [hn2]; decide) (by rw [hn2]; rfl) (by decide) ?_
        refine vv_aload_n C dX7_barrelTold_84 rfl 0 rfl 85 rfl ?_
        refine vv_iload_n C dX7_barrelTold_85 rfl 1 rfl 86 rfl ?_
        refine vv_iload_n C dX7_barrelTold_86 rfl 2 rfl 87 rfl ?_
        refine vv_iconst C (v := 1) dX7_barrelTold_87 (by decide) 88 rfl ?_
        refine vv_isub C dX7_barrelTold_88 89 rfl ?_
        obtain ⟨r3, hr3, h⟩ := bnd_s h
        refine vv_callVi C (fun l => mt_X7_fx l D c M M_thrown M_waters M_windX M_windY M_barrels M_crew M_fixed a1 (a2 - 1) r3 hr3) gX7_barrelTold_X7_fx rfl rfl rfl yd_X7_fx ⟨Nat.le_of_ble_eq_true rfl, Nat.le_of_ble_eq_true rfl⟩ [0, 1] rfl (by decide) 0 rfl rfl (wX7_barrelTold c M M_thrown M_waters M_windX M_windY M_barrels M_crew M_fixed M_table M_strength M_people M_pieces) [(true, 0), (true, 1), (false, 2), (false, 3), (false, 4), (false, 5)] rfl (by decide) rfl rfl [] rfl (Nat.le_of_ble_eq_true rfl) ⟨Nat.le_of_ble_eq_true rfl, Nat.le_of_ble_eq_true rfl⟩ dX7_barrelTold_89 92 0 0 rfl ⟨rfl, rfl⟩ ?_
        obtain rfl := Option.some.inj h
        exact ret _ _ dX7_barrelTold_92
      · replace h := ite_f hn2 h
        by_cases hn3 : a2 = 3
        · replace h := ite_t hn3 h
          refine vv_swIn C (off := 83) 84 dX7_barrelTold_1 (by rw [hn3]; decide) (by rw [hn3]; decide) (by rw [hn3]; rfl) (by decide) ?_
          refine vv_aload_n C dX7_barrelTold_84 rfl 0 rfl 85 rfl ?_
          refine vv_iload_n C dX7_barrelTold_85 rfl 1 rfl 86 rfl ?_
          refine vv_iload_n C dX7_barrelTold_86 rfl 2 rfl 87 rfl ?_
          refine vv_iconst C (v := 1) dX7_barrelTold_87 (by decide) 88 rfl ?_
          refine vv_isub C dX7_barrelTold_88 89 rfl ?_
          obtain ⟨r4, hr4, h⟩ := bnd_s h
          refine vv_callVi C (fun l => mt_X7_fx l D c M M_thrown M_waters M_windX M_windY M_barrels M_crew M_fixed a1 (a2 - 1) r4 hr4) gX7_barrelTold_X7_fx rfl rfl rfl yd_X7_fx ⟨Nat.le_of_ble_eq_true rfl, Nat.le_of_ble_eq_true rfl⟩ [0, 1] rfl (by decide) 0 rfl rfl (wX7_barrelTold c M M_thrown M_waters M_windX M_windY M_barrels M_crew M_fixed M_table M_strength M_people M_pieces) [(true, 0), (true, 1), (false, 2), (false, 3), (false, 4), (false, 5)] rfl (by decide) rfl rfl [] rfl (Nat.le_of_ble_eq_true rfl) ⟨Nat.le_of_ble_eq_true rfl, Nat.le_of_ble_eq_true rfl⟩ dX7_barrelTold_89 92 0 0 rfl ⟨rfl, rfl⟩ ?_
          obtain rfl := Option.some.inj h
          exact ret _ _ dX7_barrelTold_92
        · replace h := ite_f hn3 h
          by_cases hn4 : a2 = 4
          · replace h := ite_t hn4 h
            refine vv_swIn C (off := 92) 93 dX7_barrelTold_1 (by rw [hn4]; decide) (by rw [hn4]; decide) (by rw [hn4]; rfl) (by decide) ?_
            refine vv_aload_n C dX7_barrelTold_93 rfl 0 rfl 94 rfl ?_
            refine vv_iload_n C dX7_barrelTold_94 rfl 1 rfl 95 rfl ?_
            refine vv_iload_n C dX7_barrelTold_95 rfl 2 rfl 96 rfl ?_
            refine vv_iconst C (v := 4) dX7_barrelTold_96 (by decide) 97 rfl ?_
            refine vv_isub C dX7_barrelTold_97 98 rfl ?_
            obtain ⟨r5, hr5, h⟩ := bnd_s h
            refine vv_callVi C (fun l => mt_X7_ba l D c M M_thrown M_waters M_windX M_windY M_barrels M_crew M_table a1 (a2 - 4) r5 hr5) gX7_barrelTold_X7_ba rfl rfl rfl yd_X7_ba ⟨Nat.le_of_ble_eq_true rfl, Nat.le_of_ble_eq_true rfl⟩ [0, 2] rfl (by decide) 0 rfl rfl (wX7_barrelTold c M M_thrown M_waters M_windX M_windY M_barrels M_crew M_fixed M_table M_strength M_people M_pieces) [(true, 0), (false, 1), (true, 1), (false, 3), (false, 4), (false, 5)] rfl (by decide) rfl rfl [] rfl (Nat.le_of_ble_eq_true rfl) ⟨Nat.le_of_ble_eq_true rfl, Nat.le_of_ble_eq_true rfl⟩ dX7_barrelTold_98 101 0 0 rfl ⟨rfl, rfl⟩ ?_
            obtain rfl := Option.some.inj h
            exact ret _ _ dX7_barrelTold_101
          · replace h := ite_f hn4 h
            by_cases hn5 : a2 = 5
            · replace h := ite_t hn5 h
              refine vv_swIn C (off := 92) 93 dX7_barrelTold_1 (by rw [hn5]; decide) (by rw [hn5]; decide) (by rw [hn5]; rfl) (by decide) ?_
              refine vv_aload_n C dX7_barrelTold_93 rfl 0 rfl 94 rfl ?_
              refine vv_iload_n C dX7_barrelTold_94 rfl 1 rfl 95 rfl ?_
              refine vv_iload_n C dX7_barrelTold_95 rfl 2 rfl 96 rfl ?_
              refine vv_iconst C (v := 4) dX7_barrelTold_96 (by decide) 97 rfl ?_
              refine vv_isub C dX7_barrelTold_97 98 rfl ?_
              obtain ⟨r6, hr6, h⟩ := bnd_s h
              refine vv_callVi C (fun l => mt_X7_ba l D c M M_thrown M_waters M_windX M_windY M_barrels M_crew M_table a1 (a2 - 4) r6 hr6) gX7_barrelTold_X7_ba rfl rfl rfl yd_X7_ba ⟨Nat.le_of_ble_eq_true rfl, Nat.le_of_ble_eq_true rfl⟩ [0, 2] rfl (by decide) 0 rfl rfl (wX7_barrelTold c M M_thrown M_waters M_windX M_windY M_barrels M_crew M_fixed M_table M_strength M_people M_pieces) [(true, 0), (false, 1), (true, 1), (false, 3), (false, 4), (false, 5)] rfl (by decide) rfl rfl [] rfl (Nat.le_of_ble_eq_true rfl) ⟨Nat.le_of_ble_eq_true rfl, Nat.le_of_ble_eq_true rfl⟩ dX7_barrelTold_98 101 0 0 rfl ⟨rfl, rfl⟩ ?_
              obtain rfl := Option.some.inj h
              exact ret _ _ dX7_barrelTold_101
            · replace h := ite_f hn5 h
              by_cases hn6 : a2 = 6
              · replace h := ite_t hn6 h
                refine vv_swIn C (off := 92) 93 dX7_barrelTold_1 (by rw [hn6]; decide) (by rw [hn6]; decide) (by rw [hn6]; rfl) (by decide) ?_
                refine vv_aload_n C dX7_barrelTold_93 rfl 0 rfl 94 rfl ?_
                refine vv_iload_n C dX7_barrelTold_94 rfl 1 rfl 95 rfl ?_
                refine vv_iload_n C dX7_barrelTold_95 rfl 2 rfl 96 rfl ?_
                refine vv_iconst C (v := 4) dX7_barrelTold_96 (by decide) 97 rfl ?_
                refine vv_isub C dX7_barrelTold_97 98 rfl ?_
                obtain ⟨r7, hr7, h⟩ := bnd_s h
                refine vv_callVi C (fun l => mt_X7_ba l D c M M_thrown M_waters M_windX M_windY M_barrels M_crew M_table a1 (a2 - 4) r7 hr7) gX7_barrelTold_X7_ba rfl rfl rfl yd_X7_ba ⟨Nat.le_of_ble_eq_true rfl, Nat.le_of_ble_eq_true rfl⟩ [0, 2] rfl (by decide) 0 rfl rfl (wX7_barrelTold c M M_thrown M_waters M_windX M_windY M_barrels M_crew M_fixed M_table M_strength M_people M_pieces) [(true, 0), (false, 1), (true, 1), (false, 3), (false, 4), (false, 5)] rfl (by decide) rfl rfl [] rfl (Nat.le_of_ble_eq_true rfl) ⟨Nat.le_of_ble_eq_true rfl, Nat.le_of_ble_eq_true rfl⟩ dX7_barrelTold_98 101 0 0 rfl ⟨rfl, rfl⟩ ?_
                obtain rfl := Option.some.inj h
                exact ret _ _ dX7_barrelTold_101
              · replace h := ite_f hn6 h
                by_cases hn7 : a2 = 7
                · replace h := ite_t hn7 h
                  refine vv_swIn C (off := 101) 102 dX7_barrelTold_1 (by rw [hn7]; decide) (by rw [hn7]; decide) (by rw [hn7]; rfl) (by decide) ?_
                  refine vv_aload_n C dX7_barrelTold_102 rfl 0 rfl 103 rfl ?_
                  obtain ⟨r8, hr8, h⟩ := bnd_s h
                  refine vv_callVv C (fun l => mt_X7_name l D c M M_thrown M_waters M_windX M_windY M_barrels M_crew M_table M_strength M_pieces r8 hr8) gX7_barrelTold_X7_name rfl rfl rfl yd_X7_name ⟨Nat.le_of_ble_eq_true rfl, Nat.le_of_ble_eq_true rfl⟩ [0, 2, 3, 5] rfl (by decide) 0 rfl rfl (wX7_barrelTold c M M_thrown M_waters M_windX M_windY M_barrels M_crew M_fixed M_table M_strength M_people r8) [(true, 0), (false, 1), (true, 1), (true, 2), (false, 4), (true, 3)] rfl (by decide) rfl rfl [] rfl (Nat.le_of_ble_eq_true rfl) ⟨Nat.le_of_ble_eq_true rfl, Nat.le_of_ble_eq_true rfl⟩ dX7_barrelTold_103 106 0 0 rfl ⟨rfl, rfl⟩ ?_
                  refine vv_aload_n C dX7_barrelTold_106 rfl 0 rfl 107 rfl ?_
                  refine vv_get C (q0 := 0) (ci := 7) (k := 13) kinX7_barrelTold_X7 rfl rfl (by decide) kwX7_barrelTold_1 rfl rfl dX7_barrelTold_107 110 rfl ?_
                  refine vv_iload_n C dX7_barrelTold_110 rfl 1 rfl 111 rfl ?_
                  obtain ⟨hi, h⟩ := chk_s h
                  refine vv_iald C (q0 := 5) rfl hi dX7_barrelTold_111 112 rfl ?_
                  obtain rfl := Option.some.inj h
                  exact ret _ _ dX7_barrelTold_112
                · replace h := ite_f hn7 h
                  by_cases hn8 : a2 = 8
                  · replace h := ite_t hn8 h
                    refine vv_swIn C (off := 112) 113 dX7_barrelTold_1 (by rw [hn8]; decide) (by rw [hn8]; decide) (by rw [hn8]; rfl) (by decide) ?_
                    refine vv_aload_n C dX7_barrelTold_113 rfl 0 rfl 114 rfl ?_
                    refine vv_iload_n C dX7_barrelTold_114 rfl 1 rfl 115 rfl ?_
                    refine vv_iload_n C dX7_barrelTold_115 rfl 2 rfl 116 rfl ?_
                    refine vv_iconst C (v := 5) dX7_barrelTold_116 (by decide) 117 rfl ?_
                    refine vv_isub C dX7_barrelTold_117 118 rfl ?_
                    obtain ⟨r9, hr9, h⟩ := bnd_s h
                    refine vv_callVi C (fun l => mt_X7_ba l D c M M_thrown M_waters M_windX M_windY M_barrels M_crew M_table a1 (a2 - 5) r9 hr9) gX7_barrelTold_X7_ba rfl rfl rfl yd_X7_ba ⟨Nat.le_of_ble_eq_true rfl, Nat.le_of_ble_eq_true rfl⟩ [0, 2] rfl (by decide) 0 rfl rfl (wX7_barrelTold c M M_thrown M_waters M_windX M_windY M_barrels M_crew M_fixed M_table M_strength M_people M_pieces) [(true, 0), (false, 1), (true, 1), (false, 3), (false, 4), (false, 5)] rfl (by decide) rfl rfl [] rfl (Nat.le_of_ble_eq_true rfl) ⟨Nat.le_of_ble_eq_true rfl, Nat.le_of_ble_eq_true rfl⟩ dX7_barrelTold_118 121 0 0 rfl ⟨rfl, rfl⟩ ?_
                    obtain rfl := Option.some.inj h
                    exact ret _ _ dX7_barrelTold_121
                  · replace h := ite_f hn8 h
                    by_cases hn9 : a2 = 9
                    · replace h := ite_t hn9 h
                      refine vv_swIn C (off := 112) 113 dX7_barrelTold_1 (by rw [hn9]; decide) (by rw [hn9]; decide) (by rw [hn9]; rfl) (by decide) ?_
                      refine vv_aload_n C dX7_barrelTold_113 rfl 0 rfl 114 rfl ?_
                      refine vv_iload_n C dX7_barrelTold_114 rfl 1 rfl 115 rfl ?_
                      refine vv_iload_n C dX7_barrelTold_115 rfl 2 rfl 116 rfl ?_
                      refine vv_iconst C (v := 5) dX7_barrelTold_116 (by decide) 117 rfl ?_
                      refine vv_isub C dX7_barrelTold_117 118 rfl ?_
                      obtain ⟨r10, hr10, h⟩ := bnd_s h
                      refine vv_callVi C (fun l => mt_X7_ba l D c M M_thrown M_waters M_windX M_windY M_barrels M_crew M_table a1 (a2 - 5) r10 hr10) gX7_barrelTold_X7_ba rfl rfl rfl yd_X7_ba ⟨Nat.le_of_ble_eq_true rfl, Nat.le_of_ble_eq_true rfl⟩ [0, 2] rfl (by decide) 0 rfl rfl (wX7_barrelTold c M M_thrown M_waters M_windX M_windY M_barrels M_crew M_fixed M_table M_strength M_people M_pieces) [(true, 0), (false, 1), (true, 1), (false, 3), (false, 4), (false, 5)] rfl (by decide) rfl rfl [] rfl (Nat.le_of_ble_eq_true rfl) ⟨Nat.le_of_ble_eq_true rfl, Nat.le_of_ble_eq_true rfl⟩ dX7_barrelTold_118 121 0 0 rfl ⟨rfl, rfl⟩ ?_
                      obtain rfl := Option.some.inj h
                      exact ret _ _ dX7_barrelTold_121
                    · replace h := ite_f hn9 h
                      by_cases hn10 : a2 = 10
                      · replace h := ite_t hn10 h
                        refine vv_swIn C (off := 121) 122 dX7_barrelTold_1 (by rw [hn10]; decide) (by rw [hn10]; decide) (by rw [hn10]; rfl) (by decide) ?_
                        refine vv_aload_n C dX7_barrelTold_122 rfl 0 rfl 123 rfl ?_
                        refine vv_iload_n C dX7_barrelTold_123 rfl 1 rfl 124 rfl ?_
                        obtain ⟨r11, hr11, h⟩ := bnd_s h
                        refine vv_callVi C (fun l => mt_X7_tiesOf l D c M M_thrown M_waters M_windX M_windY M_barrels M_crew M_strength a1 r11 hr11) gX7_barrelTold_X7_tiesOf rfl rfl rfl yd_X7_tiesOf ⟨Nat.le_of_ble_eq_true rfl, Nat.le_of_ble_eq_true rfl⟩ [0, 3] rfl (by decide) 0 rfl rfl (wX7_barrelTold c M M_thrown M_waters M_windX M_windY M_barrels M_crew M_fixed M_table M_strength M_people M_pieces) [(true, 0), (false, 1), (false, 2), (true, 1), (false, 4), (false, 5)] rfl (by decide) rfl rfl [] rfl (Nat.le_of_ble_eq_true rfl) ⟨Nat.le_of_ble_eq_true rfl, Nat.le_of_ble_eq_true rfl⟩ dX7_barrelTold_124 127 0 0 rfl ⟨rfl, rfl⟩ ?_
                        obtain rfl := Option.some.inj h
                        exact ret _ _ dX7_barrelTold_127
                      · replace h := ite_f hn10 h
                        by_cases hn11 : a2 = 11
                        · replace h := ite_t hn11 h
                          refine vv_swIn C (off := 127) 128 dX7_barrelTold_1 (by rw [hn11]; decide) (by rw [hn11]; decide) (by rw [hn11]; rfl) (by decide) ?_
                          refine vv_aload_n C dX7_barrelTold_128 rfl 0 rfl 129 rfl ?_
                          refine vv_iload_n C dX7_barrelTold_129 rfl 1 rfl 130 rfl ?_
                          obtain ⟨r12, hr12, h⟩ := bnd_s h
                          refine vv_callVi C (fun l => mt_X7_lifts l D c M M_thrown M_waters M_windX M_windY M_barrels M_crew M_fixed M_table a1 r12 hr12) gX7_barrelTold_X7_lifts rfl rfl rfl yd_X7_lifts ⟨Nat.le_of_ble_eq_true rfl, Nat.le_of_ble_eq_true rfl⟩ [0, 1, 2] rfl (by decide) 0 rfl rfl (wX7_barrelTold c M M_thrown M_waters M_windX M_windY M_barrels M_crew M_fixed M_table M_strength M_people M_pieces) [(true, 0), (true, 1), (true, 2), (false, 3), (false, 4), (false, 5)] rfl (by decide) rfl rfl [] rfl (Nat.le_of_ble_eq_true rfl) ⟨Nat.le_of_ble_eq_true rfl, Nat.le_of_ble_eq_true rfl⟩ dX7_barrelTold_130 133 0 0 rfl ⟨rfl, rfl⟩ ?_
                          obtain rfl := Option.some.inj h
                          exact ret _ _ dX7_barrelTold_133
                        · replace h := ite_f hn11 h
                          refine vv_swOut C 134 dX7_barrelTold_1 (sw_out (fun j hj => ?_)) (by decide) ?_
                          · rcases (show j = 0 ∨ j = 1 ∨ j = 2 ∨ j = 3 ∨ j = 4 ∨ j = 5 ∨ j = 6 ∨ j = 7 ∨ j = 8 ∨ j = 9 ∨ j = 10 ∨ j = 11 by omega) with rfl | rfl | rfl | rfl | rfl | rfl | rfl | rfl | rfl | rfl | rfl | rfl
                            · exact fun e => hn0 (e.trans (by decide))
                            · exact fun e => hn1 (e.trans (by decide))
                            · exact fun e => hn2 (e.trans (by decide))
                            · exact fun e => hn3 (e.trans (by decide))
                            · exact fun e => hn4 (e.trans (by decide))
                            · exact fun e => hn5 (e.trans (by decide))
                            · exact fun e => hn6 (e.trans (by decide))
                            · exact fun e => hn7 (e.trans (by decide))
                            · exact fun e => hn8 (e.trans (by decide))
                            · exact fun e => hn9 (e.trans (by decide))
                            · exact fun e => hn10 (e.trans (by decide))
                            · exact fun e => hn11 (e.trans (by decide))
                          · refine vv_aload_n C dX7_barrelTold_134 rfl 0 rfl 135 rfl ?_
                            refine vv_iload_n C dX7_barrelTold_135 rfl 1 rfl 136 rfl ?_
                            obtain ⟨r13, hr13, h⟩ := bnd_s h
                            refine vv_callVi C (fun l => mt_X7_loadOf l D c M M_thrown M_waters M_windX M_windY M_barrels M_crew M_table M_people a1 r13 hr13) gX7_barrelTold_X7_loadOf rfl rfl rfl yd_X7_loadOf ⟨Nat.le_of_ble_eq_true rfl, Nat.le_of_ble_eq_true rfl⟩ [0, 2, 4] rfl (by decide) 0 rfl rfl (wX7_barrelTold c M M_thrown M_waters M_windX M_windY M_barrels M_crew M_fixed M_table M_strength M_people M_pieces) [(true, 0), (false, 1), (true, 1), (false, 3), (true, 2), (false, 5)] rfl (by decide) rfl rfl [] rfl (Nat.le_of_ble_eq_true rfl) ⟨Nat.le_of_ble_eq_true rfl, Nat.le_of_ble_eq_true rfl⟩ dX7_barrelTold_136 139 0 0 rfl ⟨rfl, rfl⟩ ?_
                            obtain rfl := Option.some.inj h
                            exact ret _ _ dX7_barrelTold_139
abbrev wX7_barrel (c : Nat → ClassId) (M : Nat → Nat) (M_thrown : Int32) (M_waters : Int32) (M_windX : Int32) (M_windY : Int32) (M_barrels : Int32) (M_crew : Int32) (M_fixed : Nat → Int32) (M_table : Nat → Int32) (M_strength : Nat → Int32) (M_people : Nat → Int32) (M_pieces : Nat → Int32) : va_W := [(M 0, .inr (7, [.int M_thrown, .int M_waters, .ref (M 1), .int M_windX, .int M_windY, .int M_barrels, .ref (M 2), .int M_crew, .ref (M 3), .ref (M 4), .ref (M 5), .ref (M 6), .ref (M 7), .ref (M 8), .ref (M 9), .ref (M 10), .ref (M 11), .ref (M 12)])), aI c (M 2) 72 M_fixed, aI c (M 3) 120 M_table, aI c (M 4) 576 M_strength, aI c (M 6) 16 M_people, aI c (M 8) 24 M_pieces]
abbrev rmX7_barrel : Room := { frames := 5, cells := 0, slots := 0, locals := 109 }
theorem yd_X7_barrel : yX7_barrel.cls = RX7 ∧ yX7_barrel.cls ≠ "java/lang/invoke/MethodHandle" ∧ yX7_barrel.cls ≠ "java/lang/invoke/VarHandle" ∧ (parseMethodDescriptor yX7_barrel.desc).map (fun d => d.parameters.length) = some 2 := by decide +kernel
theorem kwX7_barrel_1 : Cond.fieldLink RX7 47 "BarrelRaftModel" "thrown" "I" ∈ wsX7_barrel := List.mem_of_getElem? (i := 1) rfl
set_option maxRecDepth 20000 in
theorem kinX7_barrel_X7 : ∀ w ∈ u_ws RX7 TX7 18, w ∈ wsX7_barrel := by decide +kernel
def jX7_barrel (M_thrown : Int32) (M_barrels : Int32) (M_crew : Int32) (M_fixed : Nat → Int32) (M_table : Nat → Int32) (M_strength : Nat → Int32) (M_people : Nat → Int32) (M_pieces : Nat → Int32) (a1 : Int32) (a2 : Int32) : Option (Int32 × Int32 × (Nat → Int32)) :=
  bnd (jX7_isBarrel M_barrels a1) (fun r1 => (if r1 = 0 then bnd (jX7_fail 0 1) (fun r2 => some (r2.1, r2.2, M_pieces)) else bnd (jX7_isIn a2 0 12) (fun r3 => (if r3 = 0 then bnd (jX7_fail 0 1) (fun r4 => some (r4.1, r4.2, M_pieces)) else bnd (jX7_barrelTold M_barrels M_crew M_fixed M_table M_strength M_people M_pieces a1 a2) (fun r5 => some (r5.1, 0, r5.2))))))
set_option maxHeartbeats 4000000 in
set_option maxRecDepth 100000 in
theorem mt_X7_barrel (l : Launch) (D : va_G) (c : Nat → ClassId) (M : Nat → Nat) (M_thrown : Int32) (M_waters : Int32) (M_windX : Int32) (M_windY : Int32) (M_barrels : Int32) (M_crew : Int32) (M_fixed : Nat → Int32) (M_table : Nat → Int32) (M_strength : Nat → Int32) (M_people : Nat → Int32) (M_pieces : Nat → Int32) (a1 : Int32) (a2 : Int32) (q0 : Int32 × Int32 × (Nat → Int32)) (h : jX7_barrel M_thrown M_barrels M_crew M_fixed M_table M_strength M_people M_pieces a1 a2 = some q0) : DTi l yX7_barrel wsX7_barrel rmX7_barrel D c (wX7_barrel c M M_thrown M_waters M_windX M_windY M_barrels M_crew M_fixed M_table M_strength M_people M_pieces) [.ref (M 0), .int a1, .int a2] q0.1 (wX7_barrel c M q0.2.1 M_waters M_windX M_windY M_barrels M_crew M_fixed M_table M_strength M_people q0.2.2) 0 0 := by
  refine DTi_of (cc := cX7_barrel) (nL := 3) RX7 rfl (by decide) rfl (Nat.le_of_ble_eq_true rfl) (fun g C ret => ?_)
  unfold jX7_barrel at h
  refine vv_lv [0, 1, 2] [(0, .ref (M 0)), (1, .int a1), (2, .int a2)] rfl ?_
  refine vv_aload_n C dX7_barrel_0 rfl 0 rfl 1 rfl ?_
  refine vv_iconst C (v := 0) dX7_barrel_1 (by decide) 2 rfl ?_
  refine vv_put C (q0 := 0) (ci := 7) (k := 0) (ty := .int) (wX7_barrel c M 0 M_waters M_windX M_windY M_barrels M_crew M_fixed M_table M_strength M_people M_pieces) tyX7 tyX7_ok nmX7 kinX7_barrel_X7 rfl rfl (by decide) kwX7_barrel_1 rfl rfl rfl rfl rfl (Nat.le_of_ble_eq_true rfl) rfl dX7_barrel_2 5 rfl ?_
  refine vv_aload_n C dX7_barrel_5 rfl 0 rfl 6 rfl ?_
  refine vv_iload_n C dX7_barrel_6 rfl 1 rfl 7 rfl ?_
  obtain ⟨r1, hr1, h⟩ := bnd_s h
  refine vv_callVi C (fun l => mt_X7_isBarrel l D c M 0 M_waters M_windX M_windY M_barrels M_crew a1 r1 hr1) gX7_barrel_X7_isBarrel rfl rfl rfl yd_X7_isBarrel ⟨Nat.le_of_ble_eq_true rfl, Nat.le_of_ble_eq_true rfl⟩ [0] rfl (by decide) 0 rfl rfl (wX7_barrel c M 0 M_waters M_windX M_windY M_barrels M_crew M_fixed M_table M_strength M_people M_pieces) [(true, 0), (false, 1), (false, 2), (false, 3), (false, 4), (false, 5)] rfl (by decide) rfl rfl [] rfl (Nat.le_of_ble_eq_true rfl) ⟨Nat.le_of_ble_eq_true rfl, Nat.le_of_ble_eq_true rfl⟩ dX7_barrel_7 10 0 0 rfl ⟨rfl, rfl⟩ ?_
  refine vv_if_eq C 32 13 dX7_barrel_10 (by decide) rfl (fun hc => ?_) (fun hc => ?_)
  · replace h := ite_t hc h
    refine vv_aload_n C dX7_barrel_32 rfl 0 rfl 33 rfl ?_
    refine vv_iconst C (v := 1) dX7_barrel_33 (by decide) 34 rfl ?_
    obtain ⟨r2, hr2, h⟩ := bnd_s h
    refine vv_callVi C (fun l => mt_X7_fail l D c M 0 M_waters M_windX M_windY M_barrels M_crew 1 r2 hr2) gX7_barrel_X7_fail rfl rfl rfl yd_X7_fail ⟨Nat.le_of_ble_eq_true rfl, Nat.le_of_ble_eq_true rfl⟩ [0] rfl (by decide) 0 rfl rfl (wX7_barrel c M r2.2 M_waters M_windX M_windY M_barrels M_crew M_fixed M_table M_strength M_people M_pieces) [(true, 0), (false, 1), (false, 2), (false, 3), (false, 4), (false, 5)] rfl (by decide) rfl rfl [] rfl (Nat.le_of_ble_eq_true rfl) ⟨Nat.le_of_ble_eq_true rfl, Nat.le_of_ble_eq_true rfl⟩ dX7_barrel_34 37 0 0 rfl ⟨rfl, rfl⟩ ?_
    obtain rfl := Option.some.inj h
    exact ret _ _ dX7_barrel_37
  · replace h := ite_f hc h
    refine vv_iload_n C dX7_barrel_13 rfl 2 rfl 14 rfl ?_
    refine vv_iconst C (v := 0) dX7_barrel_14 (by decide) 15 rfl ?_
    refine vv_bipush C (v := 12) dX7_barrel_15 (by decide) 17 rfl ?_
    obtain ⟨r3, hr3, h⟩ := bnd_s h
    refine vv_callSi C (fun l => mt_X7_isIn l D c a2 0 12 r3 hr3) gX7_barrel_X7_isIn rfl rfl rfl yd_X7_isIn ⟨Nat.le_of_ble_eq_true rfl, Nat.le_of_ble_eq_true rfl⟩ [] rfl (by decide) (wX7_barrel c M 0 M_waters M_windX M_windY M_barrels M_crew M_fixed M_table M_strength M_people M_pieces) [(false, 0), (false, 1), (false, 2), (false, 3), (false, 4), (false, 5)] rfl (by decide) rfl rfl [] rfl (Nat.le_of_ble_eq_true rfl) ⟨Nat.le_of_ble_eq_true rfl, Nat.le_of_ble_eq_true rfl⟩ dX7_barrel_17 20 0 0 rfl ⟨rfl, rfl⟩ ?_
    refine vv_if_eq C 32 23 dX7_barrel_20 (by decide) rfl (fun hc => ?_) (fun hc => ?_)
    · replace h := ite_t hc h
      refine vv_aload_n C dX7_barrel_32 rfl 0 rfl 33 rfl ?_
      refine vv_iconst C (v := 1) dX7_barrel_33 (by decide) 34 rfl ?_
      obtain ⟨r4, hr4, h⟩ := bnd_s h
      refine vv_callVi C (fun l => mt_X7_fail l D c M 0 M_waters M_windX M_windY M_barrels M_crew 1 r4 hr4) gX7_barrel_X7_fail rfl rfl rfl yd_X7_fail ⟨Nat.le_of_ble_eq_true rfl, Nat.le_of_ble_eq_true rfl⟩ [0] rfl (by decide) 0 rfl rfl (wX7_barrel c M r4.2 M_waters M_windX M_windY M_barrels M_crew M_fixed M_table M_strength M_people M_pieces) [(true, 0), (false, 1), (false, 2), (false, 3), (false, 4), (false, 5)] rfl (by decide) rfl rfl [] rfl (Nat.le_of_ble_eq_true rfl) ⟨Nat.le_of_ble_eq_true rfl, Nat.le_of_ble_eq_true rfl⟩ dX7_barrel_34 37 0 0 rfl ⟨rfl, rfl⟩ ?_
      obtain rfl := Option.some.inj h
      exact ret _ _ dX7_barrel_37
    · replace h := ite_f hc h
      refine vv_aload_n C dX7_barrel_23 rfl 0 rfl 24 rfl ?_
      refine vv_iload_n C dX7_barrel_24 rfl 1 rfl 25 rfl ?_
      refine vv_iload_n C dX7_barrel_25 rfl 2 rfl 26 rfl ?_
      obtain ⟨r5, hr5, h⟩ := bnd_s h
      refine vv_callVi C (fun l => mt_X7_barrelTold l D c M 0 M_waters M_windX M_windY M_barrels M_crew M_fixed M_table M_strength M_people M_pieces a1 a2 r5 hr5) gX7_barrel_X7_barrelTold rfl rfl rfl yd_X7_barrelTold ⟨Nat.le_of_ble_eq_true rfl, Nat.le_of_ble_eq_true rfl⟩ [0, 1, 2, 3, 4, 5] rfl (by decide) 0 rfl rfl (wX7_barrel c M 0 M_waters M_windX M_windY M_barrels M_crew M_fixed M_table M_strength M_people r5.2) [(true, 0), (true, 1), (true, 2), (true, 3), (true, 4), (true, 5)] rfl (by decide) rfl rfl [] rfl (Nat.le_of_ble_eq_true rfl) ⟨Nat.le_of_ble_eq_true rfl, Nat.le_of_ble_eq_true rfl⟩ dX7_barrel_26 29 0 0 rfl ⟨rfl, rfl⟩ ?_
      refine vv_goto C 37 dX7_barrel_29 (by decide) ?_
      obtain rfl := Option.some.inj h
      exact ret _ _ dX7_barrel_37
abbrev wX7_castaway (c : Nat → ClassId) (M : Nat → Nat) (M_thrown : Int32) (M_waters : Int32) (M_windX : Int32) (M_windY : Int32) (M_barrels : Int32) (M_crew : Int32) (M_people : Nat → Int32) : va_W := [(M 0, .inr (7, [.int M_thrown, .int M_waters, .ref (M 1), .int M_windX, .int M_windY, .int M_barrels, .ref (M 2), .int M_crew, .ref (M 3), .ref (M 4), .ref (M 5), .ref (M 6), .ref (M 7), .ref (M 8), .ref (M 9), .ref (M 10), .ref (M 11), .ref (M 12)])), aI c (M 6) 16 M_people]
abbrev rmX7_castaway : Room := { frames := 2, cells := 0, slots := 0, locals := 43 }
theorem yd_X7_castaway : yX7_castaway.cls = RX7 ∧ yX7_castaway.cls ≠ "java/lang/invoke/MethodHandle" ∧ yX7_castaway.cls ≠ "java/lang/invoke/VarHandle" ∧ (parseMethodDescriptor yX7_castaway.desc).map (fun d => d.parameters.length) = some 2 := by decide +kernel
theorem kwX7_castaway_1 : Cond.fieldLink RX7 47 "BarrelRaftModel" "thrown" "I" ∈ wsX7_castaway := List.mem_of_getElem? (i := 1) rfl
set_option maxRecDepth 20000 in
theorem kinX7_castaway_X7 : ∀ w ∈ u_ws RX7 TX7 18, w ∈ wsX7_castaway := by decide +kernel
theorem kwX7_castaway_2 : Cond.fieldLink RX7 25 "BarrelRaftModel" "people" "[I" ∈ wsX7_castaway := List.mem_of_getElem? (i := 2) rfl
def jX7_castaway (M_thrown : Int32) (M_crew : Int32) (M_people : Nat → Int32) (a1 : Int32) (a2 : Int32) : Option (Int32 × Int32) :=
  bnd (jX7_isPerson M_crew a1) (fun r1 => (if r1 = 0 then bnd (jX7_fail 0 1) (fun r2 => some (r2.1, r2.2)) else bnd (jX7_isIn a2 0 1) (fun r3 => (if r3 = 0 then bnd (jX7_fail 0 1) (fun r4 => some (r4.1, r4.2)) else chk 16 ((2 * a1) + a2) (some (rd M_people ((2 * a1) + a2), 0))))))
set_option maxHeartbeats 4000000 in
set_option maxRecDepth 100000 in
theorem mt_X7_castaway (l : Launch) (D : va_G) (c : Nat → ClassId) (M : Nat → Nat) (M_thrown : Int32) (M_waters : Int32) (M_windX : Int32) (M_windY : Int32) (M_barrels : Int32) (M_crew : Int32) (M_people : Nat → Int32) (a1 : Int32) (a2 : Int32) (q0 : Int32 × Int32) (h : jX7_castaway M_thrown M_crew M_people a1 a2 = some q0) : DTi l yX7_castaway wsX7_castaway rmX7_castaway D c (wX7_castaway c M M_thrown M_waters M_windX M_windY M_barrels M_crew M_people) [.ref (M 0), .int a1, .int a2] q0.1 (wX7_castaway c M q0.2 M_waters M_windX M_windY M_barrels M_crew M_people) 0 0 := by
  refine DTi_of (cc := cX7_castaway) (nL := 3) RX7 rfl (by decide) rfl (Nat.le_of_ble_eq_true rfl) (fun g C ret => ?_)
  unfold jX7_castaway at h
  refine vv_lv [0, 1, 2] [(0, .ref (M 0)), (1, .int a1), (2, .int a2)] rfl ?_
  refine vv_aload_n C dX7_castaway_0 rfl 0 rfl 1 rfl ?_
  refine vv_iconst C (v := 0) dX7_castaway_1 (by decide) 2 rfl ?_
  refine vv_put C (q0 := 0) (ci := 7) (k := 0) (ty := .int) (wX7_castaway c M 0 M_waters M_windX M_windY M_barrels M_crew M_people) tyX7 tyX7_ok nmX7 kinX7_castaway_X7 rfl rfl (by decide) kwX7_castaway_1 rfl rfl rfl rfl rfl (Nat.le_of_ble_eq_true rfl) rfl dX7_castaway_2 5 rfl ?_
  refine vv_aload_n C dX7_castaway_5 rfl 0 rfl 6 rfl ?_
  refine vv_iload_n C dX7_castaway_6 rfl 1 rfl 7 rfl ?_
  obtain ⟨r1, hr1, h⟩ := bnd_s h
  refine vv_callVi C (fun l => mt_X7_isPerson l D c M 0 M_waters M_windX M_windY M_barrels M_crew a1 r1 hr1) gX7_castaway_X7_isPerson rfl rfl rfl yd_X7_isPerson ⟨Nat.le_of_ble_eq_true rfl, Nat.le_of_ble_eq_true rfl⟩ [0] rfl (by decide) 0 rfl rfl (wX7_castaway c M 0 M_waters M_windX M_windY M_barrels M_crew M_people) [(true, 0), (false, 1)] rfl (by decide) rfl rfl [] rfl (Nat.le_of_ble_eq_true rfl) ⟨Nat.le_of_ble_eq_true rfl, Nat.le_of_ble_eq_true rfl⟩ dX7_castaway_7 10 0 0 rfl ⟨rfl, rfl⟩ ?_
  refine vv_if_eq C 35 13 dX7_castaway_10 (by decide) rfl (fun hc => ?_) (fun hc => ?_)
  · replace h := ite_t hc h
    refine vv_aload_n C dX7_castaway_35 rfl 0 rfl 36 rfl ?_
    refine vv_iconst C (v := 1) dX7_castaway_36 (by decide) 37 rfl ?_
    obtain ⟨r2, hr2, h⟩ := bnd_s h
    refine vv_callVi C (fun l => mt_X7_fail l D c M 0 M_waters M_windX M_windY M_barrels M_crew 1 r2 hr2) gX7_castaway_X7_fail rfl rfl rfl yd_X7_fail ⟨Nat.le_of_ble_eq_true rfl, Nat.le_of_ble_eq_true rfl⟩ [0] rfl (by decide) 0 rfl rfl (wX7_castaway c M r2.2 M_waters M_windX M_windY M_barrels M_crew M_people) [(true, 0), (false, 1)] rfl (by decide) rfl rfl [] rfl (Nat.le_of_ble_eq_true rfl) ⟨Nat.le_of_ble_eq_true rfl, Nat.le_of_ble_eq_true rfl⟩ dX7_castaway_37 40 0 0 rfl ⟨rfl, rfl⟩ ?_
    obtain rfl := Option.some.inj h
    exact ret _ _ dX7_castaway_40
  · replace h := ite_f hc h
    refine vv_iload_n C dX7_castaway_13 rfl 2 rfl 14 rfl ?_
    refine vv_iconst C (v := 0) dX7_castaway_14 (by decide) 15 rfl ?_
    refine vv_iconst C (v := 1) dX7_castaway_15 (by decide) 16 rfl ?_
    obtain ⟨r3, hr3, h⟩ := bnd_s h
    refine vv_callSi C (fun l => mt_X7_isIn l D c a2 0 1 r3 hr3) gX7_castaway_X7_isIn rfl rfl rfl yd_X7_isIn ⟨Nat.le_of_ble_eq_true rfl, Nat.le_of_ble_eq_true rfl⟩ [] rfl (by decide) (wX7_castaway c M 0 M_waters M_windX M_windY M_barrels M_crew M_people) [(false, 0), (false, 1)] rfl (by decide) rfl rfl [] rfl (Nat.le_of_ble_eq_true rfl) ⟨Nat.le_of_ble_eq_true rfl, Nat.le_of_ble_eq_true rfl⟩ dX7_castaway_16 19 0 0 rfl ⟨rfl, rfl⟩ ?_
    refine vv_if_eq C 35 22 dX7_castaway_19 (by decide) rfl (fun hc => ?_) (fun hc => ?_)
    · replace h := ite_t hc h
      refine vv_aload_n C dX7_castaway_35 rfl 0 rfl 36 rfl ?_
      refine vv_iconst C (v := 1) dX7_castaway_36 (by decide) 37 rfl ?_
      obtain ⟨r4, hr4, h⟩ := bnd_s h
      refine vv_callVi C (fun l => mt_X7_fail l D c M 0 M_waters M_windX M_windY M_barrels M_crew 1 r4 hr4) gX7_castaway_X7_fail rfl rfl rfl yd_X7_fail ⟨Nat.le_of_ble_eq_true rfl, Nat.le_of_ble_eq_true rfl⟩ [0] rfl (by decide) 0 rfl rfl (wX7_castaway c M r4.2 M_waters M_windX M_windY M_barrels M_crew M_people) [(true, 0), (false, 1)] rfl (by decide) rfl rfl [] rfl (Nat.le_of_ble_eq_true rfl) ⟨Nat.le_of_ble_eq_true rfl, Nat.le_of_ble_eq_true rfl⟩ dX7_castaway_37 40 0 0 rfl ⟨rfl, rfl⟩ ?_
      obtain rfl := Option.some.inj h
      exact ret _ _ dX7_castaway_40
    · replace h := ite_f hc h
      refine vv_aload_n C dX7_castaway_22 rfl 0 rfl 23 rfl ?_
      refine vv_get C (q0 := 0) (ci := 7) (k := 11) kinX7_castaway_X7 rfl rfl (by decide) kwX7_castaway_2 rfl rfl dX7_castaway_23 26 rfl ?_
      refine vv_iconst C (v := 2) dX7_castaway_26 (by decide) 27 rfl ?_
      refine vv_iload_n C dX7_castaway_27 rfl 1 rfl 28 rfl ?_
      refine vv_imul C dX7_castaway_28 29 rfl ?_
      refine vv_iload_n C dX7_castaway_29 rfl 2 rfl 30 rfl ?_
      refine vv_iadd C dX7_castaway_30 31 rfl ?_
      obtain ⟨hi, h⟩ := chk_s h
      refine vv_iald C (q0 := 1) rfl hi dX7_castaway_31 32 rfl ?_
      refine vv_goto C 40 dX7_castaway_32 (by decide) ?_
      obtain rfl := Option.some.inj h
      exact ret _ _ dX7_castaway_40
abbrev wX7_withState (c : Nat → ClassId) (M : Nat → Nat) (M_thrown : Int32) (M_waters : Int32) (M_windX : Int32) (M_windY : Int32) (M_barrels : Int32) (M_crew : Int32) (M_table : Nat → Int32) : va_W := [(M 0, .inr (7, [.int M_thrown, .int M_waters, .ref (M 1), .int M_windX, .int M_windY, .int M_barrels, .ref (M 2), .int M_crew, .ref (M 3), .ref (M 4), .ref (M 5), .ref (M 6), .ref (M 7), .ref (M 8), .ref (M 9), .ref (M 10), .ref (M 11), .ref (M 12)])), aI c (M 3) 120 M_table]
abbrev rmX7_withState : Room := { frames := 1, cells := 0, slots := 0, locals := 22 }
theorem yd_X7_withState : yX7_withState.cls = RX7 ∧ yX7_withState.cls ≠ "java/lang/invoke/MethodHandle" ∧ yX7_withState.cls ≠ "java/lang/invoke/VarHandle" ∧ (parseMethodDescriptor yX7_withState.desc).map (fun d => d.parameters.length) = some 1 := by decide +kernel
theorem kwX7_withState_1 : Cond.fieldLink RX7 51 "BarrelRaftModel" "barrels" "I" ∈ wsX7_withState := List.mem_of_getElem? (i := 1) rfl
set_option maxRecDepth 20000 in
theorem kinX7_withState_X7 : ∀ w ∈ u_ws RX7 TX7 18, w ∈ wsX7_withState := by decide +kernel
def jX7_withState_L4 (M_barrels : Int32) (M_table : Nat → Int32) (u1 : Int32) (n : Nat) (v2_4 : Int32) (v3_4 : Int32) : Option (Int32) :=
  match n with
  | 0 => none
  | n + 1 => (if M_barrels ≤ v3_4 then some v2_4 else bnd (jX7_ba M_table v3_4 2) (fun r1 => (if r1 = u1 then jX7_withState_L4 M_barrels M_table u1 n (v2_4 + 1) (v3_4 + 1) else jX7_withState_L4 M_barrels M_table u1 n (v2_4 + 0) (v3_4 + 1))))
def jX7_withState (M_barrels : Int32) (M_table : Nat → Int32) (a1 : Int32) : Option (Int32) :=
  bnd (jX7_withState_L4 M_barrels M_table a1 FU 0 0) (fun r2 => some r2)
set_option maxHeartbeats 4000000 in
set_option maxRecDepth 100000 in
theorem mt_X7_withState (l : Launch) (D : va_G) (c : Nat → ClassId) (M : Nat → Nat) (M_thrown : Int32) (M_waters : Int32) (M_windX : Int32) (M_windY : Int32) (M_barrels : Int32) (M_crew : Int32) (M_table : Nat → Int32) (a1 : Int32) (q0 : Int32) (h : jX7_withState M_barrels M_table a1 = some q0) : DTi l yX7_withState wsX7_withState rmX7_withState D c (wX7_withState c M M_thrown M_waters M_windX M_windY M_barrels M_crew M_table) [.ref (M 0), .int a1] q0 (wX7_withState c M M_thrown M_waters M_windX M_windY M_barrels M_crew M_table) 0 0 := by
  refine DTi_of (cc := cX7_withState) (nL := 4) RX7 rfl (by decide) rfl (Nat.le_of_ble_eq_true rfl) (fun g C ret => ?_)
  unfold jX7_withState at h
  refine vv_lv [0, 1] [(0, .ref (M 0)), (1, .int a1)] rfl ?_
  refine vv_iconst C (v := 0) dX7_withState_0 (by decide) 1 rfl ?_
  refine vv_istore_n C [(2, .int 0), (0, .ref (M 0)), (1, .int a1)] dX7_withState_1 rfl (by decide) rfl 2 rfl ?_
  refine vv_iconst C (v := 0) dX7_withState_2 (by decide) 3 rfl ?_
  refine vv_istore_n C [(3, .int 0), (2, .int 0), (0, .ref (M 0)), (1, .int a1)] dX7_withState_3 rfl (by decide) rfl 4 rfl ?_
  refine vv_lv [2, 3, 1, 0] [(0, .ref (M 0)), (1, .int a1), (2, .int 0), (3, .int 0)] rfl ?_
  have L4 : ∀ (n : Nat) (v2_4 : Int32) (v3_4 : Int32) (q4 : Int32), jX7_withState_L4 M_barrels M_table a1 n v2_4 v3_4 = some q4 → (VV g D 4 0 0 (wX7_withState c M M_thrown M_waters M_windX M_windY M_barrels M_crew M_table) [(2, .int q4)] 36 []) → VV g D 4 0 0 (wX7_withState c M M_thrown M_waters M_windX M_windY M_barrels M_crew M_table) [(0, .ref (M 0)), (1, .int a1), (2, .int v2_4), (3, .int v3_4)] 4 [] := by
    intro n
    induction n with
    | zero =>
      intro v2_4 v3_4 q4 h _
      rw [jX7_withState_L4] at h
      cases h
    | succ n ih4 =>
      intro v2_4 v3_4 q4 h kk4
      rw [jX7_withState_L4] at h
      refine vv_iload_n C dX7_withState_4 rfl 3 rfl 5 rfl ?_
      refine vv_aload_n C dX7_withState_5 rfl 0 rfl 6 rfl ?_
      refine vv_get C (q0 := 0) (ci := 7) (k := 5) kinX7_withState_X7 rfl rfl (by decide) kwX7_withState_1 rfl rfl dX7_withState_6 9 rfl ?_
      refine vv_icmp_ge C 36 12 dX7_withState_9 (by decide) rfl (fun hc => ?_) (fun hc => ?_)
      · replace h := ite_t hc h
        refine vv_lv [2] [(2, .int v2_4)] rfl ?_
        obtain rfl := Option.some.inj h
        exact kk4
      · replace h := ite_f hc h
        refine vv_iload_n C dX7_withState_12 rfl 2 rfl 13 rfl ?_
        refine vv_aload_n C dX7_withState_13 rfl 0 rfl 14 rfl ?_
        refine vv_iload_n C dX7_withState_14 rfl 3 rfl 15 rfl ?_
        refine vv_iconst C (v := 2) dX7_withState_15 (by decide) 16 rfl ?_
        obtain ⟨r1, hr1, h⟩ := bnd_s h
        refine vv_callVi C (fun l => mt_X7_ba l D c M M_thrown M_waters M_windX M_windY M_barrels M_crew M_table v3_4 2 r1 hr1) gX7_withState_X7_ba rfl rfl rfl yd_X7_ba ⟨Nat.le_of_ble_eq_true rfl, Nat.le_of_ble_eq_true rfl⟩ [0, 1] rfl (by decide) 0 rfl rfl (wX7_withState c M M_thrown M_waters M_windX M_windY M_barrels M_crew M_table) [(true, 0), (true, 1)] rfl (by decide) rfl rfl [.int v2_4] rfl (Nat.le_of_ble_eq_true rfl) ⟨Nat.le_of_ble_eq_true rfl, Nat.le_of_ble_eq_true rfl⟩ dX7_withState_16 19 0 0 rfl ⟨rfl, rfl⟩ ?_
        refine vv_iload_n C dX7_withState_19 rfl 1 rfl 20 rfl ?_
        refine vv_icmp_ne C 27 23 dX7_withState_20 (by decide) rfl (fun hc => ?_) (fun hc => ?_)
        · replace h := ite_f hc h
          refine vv_iconst C (v := 0) dX7_withState_27 (by decide) 28 rfl ?_
          refine vv_iadd C dX7_withState_28 29 rfl ?_
          refine vv_istore_n C [(2, .int (v2_4 + 0)), (0, .ref (M 0)), (1, .int a1), (3, .int v3_4)] dX7_withState_29 rfl (by decide) rfl 30 rfl ?_
          refine vv_iinc C (k := 3) [(3, .int (v3_4 + 1)), (2, .int (v2_4 + 0)), (0, .ref (M 0)), (1, .int a1)] dX7_withState_30 rfl rfl (by decide) rfl 33 rfl ?_
          refine vv_goto C 4 dX7_withState_33 (by decide) ?_
          refine vv_lv [2, 3, 1, 0] [(0, .ref (M 0)), (1, .int a1), (2, .int (v2_4 + 0)), (3, .int (v3_4 + 1))] rfl ?_
          exact ih4 (v2_4 + 0) (v3_4 + 1) _ h kk4
        · replace h := ite_t hc h
          refine vv_iconst C (v := 1) dX7_withState_23 (by decide) 24 rfl ?_
          refine vv_goto C 28 dX7_withState_24 (by decide) ?_
          refine vv_iadd C dX7_withState_28 29 rfl ?_
          refine vv_istore_n C [(2, .int (v2_4 + 1)), (0, .ref (M 0)), (1, .int a1), (3, .int v3_4)] dX7_withState_29 rfl (by decide) rfl 30 rfl ?_
          refine vv_iinc C (k := 3) [(3, .int (v3_4 + 1)), (2, .int (v2_4 + 1)), (0, .ref (M 0)), (1, .int a1)] dX7_withState_30 rfl rfl (by decide) rfl 33 rfl ?_
          refine vv_goto C 4 dX7_withState_33 (by decide) ?_
          refine vv_lv [2, 3, 1, 0] [(0, .ref (M 0)), (1, .int a1), (2, .int (v2_4 + 1)), (3, .int (v3_4 + 1))] rfl ?_
          exact ih4 (v2_4 + 1) (v3_4 + 1) _ h kk4
  obtain ⟨r2, hr2, h⟩ := bnd_s h
  refine L4 FU 0 0 r2 hr2 ?_
  refine vv_iload_n C dX7_withState_36 rfl 0 rfl 37 rfl ?_
  obtain rfl := Option.some.inj h
  exact ret _ _ dX7_withState_37
abbrev wX7_crewWith (c : Nat → ClassId) (M : Nat → Nat) (M_thrown : Int32) (M_waters : Int32) (M_windX : Int32) (M_windY : Int32) (M_barrels : Int32) (M_crew : Int32) (M_people : Nat → Int32) : va_W := [(M 0, .inr (7, [.int M_thrown, .int M_waters, .ref (M 1), .int M_windX, .int M_windY, .int M_barrels, .ref (M 2), .int M_crew, .ref (M 3), .ref (M 4), .ref (M 5), .ref (M 6), .ref (M 7), .ref (M 8), .ref (M 9), .ref (M 10), .ref (M 11), .ref (M 12)])), aI c (M 6) 16 M_people]
abbrev rmX7_crewWith : Room := { frames := 0, cells := 0, slots := 0, locals := 0 }
theorem yd_X7_crewWith : yX7_crewWith.cls = RX7 ∧ yX7_crewWith.cls ≠ "java/lang/invoke/MethodHandle" ∧ yX7_crewWith.cls ≠ "java/lang/invoke/VarHandle" ∧ (parseMethodDescriptor yX7_crewWith.desc).map (fun d => d.parameters.length) = some 1 := by decide +kernel
theorem kwX7_crewWith_1 : Cond.fieldLink RX7 127 "BarrelRaftModel" "crew" "I" ∈ wsX7_crewWith := List.mem_of_getElem? (i := 1) rfl
set_option maxRecDepth 20000 in
theorem kinX7_crewWith_X7 : ∀ w ∈ u_ws RX7 TX7 18, w ∈ wsX7_crewWith := by decide +kernel
theorem kwX7_crewWith_2 : Cond.fieldLink RX7 25 "BarrelRaftModel" "people" "[I" ∈ wsX7_crewWith := List.mem_of_getElem? (i := 2) rfl
def jX7_crewWith_L4 (M_crew : Int32) (M_people : Nat → Int32) (u1 : Int32) (n : Nat) (v2_4 : Int32) (v3_4 : Int32) : Option (Int32) :=
  match n with
  | 0 => none
  | n + 1 => (if M_crew ≤ v3_4 then some v2_4 else chk 16 ((2 * v3_4) + 1) ((if rd M_people ((2 * v3_4) + 1) = u1 then jX7_crewWith_L4 M_crew M_people u1 n (v2_4 + 1) (v3_4 + 1) else jX7_crewWith_L4 M_crew M_people u1 n (v2_4 + 0) (v3_4 + 1))))
def jX7_crewWith (M_crew : Int32) (M_people : Nat → Int32) (a1 : Int32) : Option (Int32) :=
  bnd (jX7_crewWith_L4 M_crew M_people a1 FU 0 0) (fun r1 => some r1)
set_option maxHeartbeats 4000000 in
set_option maxRecDepth 100000 in
theorem mt_X7_crewWith (l : Launch) (D : va_G) (c : Nat → ClassId) (M : Nat → Nat) (M_thrown : Int32) (M_waters : Int32) (M_windX : Int32) (M_windY : Int32) (M_barrels : Int32) (M_crew : Int32) (M_people : Nat → Int32) (a1 : Int32) (q0 : Int32) (h : jX7_crewWith M_crew M_people a1 = some q0) : DTi l yX7_crewWith wsX7_crewWith rmX7_crewWith D c (wX7_crewWith c M M_thrown M_waters M_windX M_windY M_barrels M_crew M_people) [.ref (M 0), .int a1] q0 (wX7_crewWith c M M_thrown M_waters M_windX M_windY M_barrels M_crew M_people) 0 0 := by
  refine DTi_of (cc := cX7_crewWith) (nL := 4) RX7 rfl (by decide) rfl (Nat.le_of_ble_eq_true rfl) (fun g C ret => ?_)
  unfold jX7_crewWith at h
  refine vv_lv [0, 1] [(0, .ref (M 0)), (1, .int a1)] rfl ?_
  refine vv_iconst C (v := 0) dX7_crewWith_0 (by decide) 1 rfl ?_
  refine vv_istore_n C [(2, .int 0), (0, .ref (M 0)), (1, .int a1)] dX7_crewWith_1 rfl (by decide) rfl 2 rfl ?_
  refine vv_iconst C (v := 0) dX7_crewWith_2 (by decide) 3 rfl ?_
  refine vv_istore_n C [(3, .int 0), (2, .int 0), (0, .ref (M 0)), (1, .int a1)] dX7_crewWith_3 rfl (by decide) rfl 4 rfl ?_
  refine vv_lv [2, 3, 1, 0] [(0, .ref (M 0)), (1, .int a1), (2, .int 0), (3, .int 0)] rfl ?_
  have L4 : ∀ (n : Nat) (v2_4 : Int32) (v3_4 : Int32) (q4 : Int32), jX7_crewWith_L4 M_crew M_people a1 n v2_4 v3_4 = some q4 → (VV g D 4 0 0 (wX7_crewWith c M M_thrown M_waters M_windX M_windY M_barrels M_crew M_people) [(2, .int q4)] 40 []) → VV g D 4 0 0 (wX7_crewWith c M M_thrown M_waters M_windX M_windY M_barrels M_crew M_people) [(0, .ref (M 0)), (1, .int a1), (2, .int v2_4), (3, .int v3_4)] 4 [] := by
    intro n
    induction n with
    | zero =>
      intro v2_4 v3_4 q4 h _
      rw [jX7_crewWith_L4] at h
      cases h
    | succ n ih4 =>
      intro v2_4 v3_4 q4 h kk4
      rw [jX7_crewWith_L4] at h
      refine vv_iload_n C dX7_crewWith_4 rfl 3 rfl 5 rfl ?_
      refine vv_aload_n C dX7_crewWith_5 rfl 0 rfl 6 rfl ?_
      refine vv_get C (q0 := 0) (ci := 7) (k := 7) kinX7_crewWith_X7 rfl rfl (by decide) kwX7_crewWith_1 rfl rfl dX7_crewWith_6 9 rfl ?_
      refine vv_icmp_ge C 40 12 dX7_crewWith_9 (by decide) rfl (fun hc => ?_) (fun hc => ?_)
      · replace h := ite_t hc h
        refine vv_lv [2] [(2, .int v2_4)] rfl ?_
        obtain rfl := Option.some.inj h
        exact kk4
      · replace h := ite_f hc h
        refine vv_iload_n C dX7_crewWith_12 rfl 2 rfl 13 rfl ?_
        refine vv_aload_n C dX7_crewWith_13 rfl 0 rfl 14 rfl ?_
        refine vv_get C (q0 := 0) (ci := 7) (k := 11) kinX7_crewWith_X7 rfl rfl (by decide) kwX7_crewWith_2 rfl rfl dX7_crewWith_14 17 rfl ?_
        refine vv_iconst C (v := 2) dX7_crewWith_17 (by decide) 18 rfl ?_
        refine vv_iload_n C dX7_crewWith_18 rfl 3 rfl 19 rfl ?_
        refine vv_imul C dX7_crewWith_19 20 rfl ?_
        refine vv_iconst C (v := 1) dX7_crewWith_20 (by decide) 21 rfl ?_
        refine vv_iadd C dX7_crewWith_21 22 rfl ?_
        obtain ⟨hi, h⟩ := chk_s h
        refine vv_iald C (q0 := 1) rfl hi dX7_crewWith_22 23 rfl ?_
        refine vv_iload_n C dX7_crewWith_23 rfl 1 rfl 24 rfl ?_
        refine vv_icmp_ne C 31 27 dX7_crewWith_24 (by decide) rfl (fun hc => ?_) (fun hc => ?_)
        · replace h := ite_f hc h
          refine vv_iconst C (v := 0) dX7_crewWith_31 (by decide) 32 rfl ?_
          refine vv_iadd C dX7_crewWith_32 33 rfl ?_
          refine vv_istore_n C [(2, .int (v2_4 + 0)), (0, .ref (M 0)), (1, .int a1), (3, .int v3_4)] dX7_crewWith_33 rfl (by decide) rfl 34 rfl ?_
          refine vv_iinc C (k := 3) [(3, .int (v3_4 + 1)), (2, .int (v2_4 + 0)), (0, .ref (M 0)), (1, .int a1)] dX7_crewWith_34 rfl rfl (by decide) rfl 37 rfl ?_
          refine vv_goto C 4 dX7_crewWith_37 (by decide) ?_
          refine vv_lv [2, 3, 1, 0] [(0, .ref (M 0)), (1, .int a1), (2, .int (v2_4 + 0)), (3, .int (v3_4 + 1))] rfl ?_
          exact ih4 (v2_4 + 0) (v3_4 + 1) _ h kk4
        · replace h := ite_t hc h
          refine vv_iconst C (v := 1) dX7_crewWith_27 (by decide) 28 rfl ?_
          refine vv_goto C 32 dX7_crewWith_28 (by decide) ?_
          refine vv_iadd C dX7_crewWith_32 33 rfl ?_
          refine vv_istore_n C [(2, .int (v2_4 + 1)), (0, .ref (M 0)), (1, .int a1), (3, .int v3_4)] dX7_crewWith_33 rfl (by decide) rfl 34 rfl ?_
          refine vv_iinc C (k := 3) [(3, .int (v3_4 + 1)), (2, .int (v2_4 + 1)), (0, .ref (M 0)), (1, .int a1)] dX7_crewWith_34 rfl rfl (by decide) rfl 37 rfl ?_
          refine vv_goto C 4 dX7_crewWith_37 (by decide) ?_
          refine vv_lv [2, 3, 1, 0] [(0, .ref (M 0)), (1, .int a1), (2, .int (v2_4 + 1)), (3, .int (v3_4 + 1))] rfl ?_
          exact ih4 (v2_4 + 1) (v3_4 + 1) _ h kk4
  obtain ⟨r1, hr1, h⟩ := bnd_s h
  refine L4 FU 0 0 r1 hr1 ?_
  refine vv_iload_n C dX7_crewWith_40 rfl 0 rfl 41 rfl ?_
  obtain rfl := Option.some.inj h
  exact ret _ _ dX7_crewWith_41
abbrev wX7_counted (c : Nat → ClassId) (M : Nat → Nat) (M_thrown : Int32) (M_waters : Int32) (M_windX : Int32) (M_windY : Int32) (M_barrels : Int32) (M_crew : Int32) (M_table : Nat → Int32) (M_strength : Nat → Int32) (M_people : Nat → Int32) (M_numbers : Nat → Int32) (M_pieces : Nat → Int32) : va_W := [(M 0, .inr (7, [.int M_thrown, .int M_waters, .ref (M 1), .int M_windX, .int M_windY, .int M_barrels, .ref (M 2), .int M_crew, .ref (M 3), .ref (M 4), .ref (M 5), .ref (M 6), .ref (M 7), .ref (M 8), .ref (M 9), .ref (M 10), .ref (M 11), .ref (M 12)])), aI c (M 3) 120 M_table, aI c (M 4) 576 M_strength, aI c (M 6) 16 M_people, aI c (M 7) 3 M_numbers, aI c (M 8) 24 M_pieces]
abbrev rmX7_counted : Room := { frames := 4, cells := 0, slots := 0, locals := 87 }
theorem yd_X7_counted : yX7_counted.cls = RX7 ∧ yX7_counted.cls ≠ "java/lang/invoke/MethodHandle" ∧ yX7_counted.cls ≠ "java/lang/invoke/VarHandle" ∧ (parseMethodDescriptor yX7_counted.desc).map (fun d => d.parameters.length) = some 1 := by decide +kernel
theorem kwX7_counted_1 : Cond.fieldLink RX7 28 "BarrelRaftModel" "numbers" "[I" ∈ wsX7_counted := List.mem_of_getElem? (i := 1) rfl
set_option maxRecDepth 20000 in
theorem kinX7_counted_X7 : ∀ w ∈ u_ws RX7 TX7 18, w ∈ wsX7_counted := by decide +kernel
theorem kwX7_counted_2 : Cond.fieldLink RX7 51 "BarrelRaftModel" "barrels" "I" ∈ wsX7_counted := List.mem_of_getElem? (i := 2) rfl
theorem kwX7_counted_3 : Cond.fieldLink RX7 127 "BarrelRaftModel" "crew" "I" ∈ wsX7_counted := List.mem_of_getElem? (i := 3) rfl
theorem kwX7_counted_4 : Cond.fieldLink RX7 31 "BarrelRaftModel" "pieces" "[I" ∈ wsX7_counted := List.mem_of_getElem? (i := 4) rfl
def jX7_counted_L103 (M_barrels : Int32) (M_strength : Nat → Int32) (n : Nat) (v2_103 : Int32) (v3_103 : Int32) : Option (Int32) :=
  match n with
  | 0 => none
  | n + 1 => (if M_barrels ≤ v3_103 then some v2_103 else bnd (jX7_tiesOf M_barrels M_strength v3_103) (fun r5 => jX7_counted_L103 M_barrels M_strength n (v2_103 + r5) (v3_103 + 1)))
def jX7_counted_L135 (M_barrels : Int32) (M_pieces : Nat → Int32) (n : Nat) (v2_135 : Int32) (v3_135 : Int32) : Option (Int32) :=
  match n with
  | 0 => none
  | n + 1 => (if M_barrels ≤ v3_135 then some v2_135 else chk 24 v3_135 ((if rd M_pieces v3_135 = v3_135 then jX7_counted_L135 M_barrels M_pieces n (v2_135 + 1) (v3_135 + 1) else jX7_counted_L135 M_barrels M_pieces n (v2_135 + 0) (v3_135 + 1))))
def jX7_counted_L185 (M_barrels : Int32) (M_table : Nat → Int32) (n : Nat) (v2_185 : Int32) (v3_185 : Int32) : Option (Int32) :=
  match n with
  | 0 => none
  | n + 1 => (if M_barrels ≤ v3_185 then some v2_185 else bnd (jX7_ba M_table v3_185 2) (fun r9 => (if r9 = 2 then bnd (jX7_ba M_table v3_185 1) (fun r10 => jX7_counted_L185 M_barrels M_table n (v2_185 + r10) (v3_185 + 1)) else jX7_counted_L185 M_barrels M_table n (v2_185 + 0) (v3_185 + 1))))
def jX7_counted (M_barrels : Int32) (M_crew : Int32) (M_table : Nat → Int32) (M_strength : Nat → Int32) (M_people : Nat → Int32) (M_numbers : Nat → Int32) (M_pieces : Nat → Int32) (a1 : Int32) : Option (Int32 × (Nat → Int32)) :=
  (if a1 = 0 then chk 3 0 (some (rd M_numbers 0, M_pieces)) else (if a1 = 1 then some (M_barrels, M_pieces) else (if a1 = 2 then bnd (jX7_withState M_barrels M_table 0) (fun r1 => some (r1, M_pieces)) else (if a1 = 3 then bnd (jX7_withState M_barrels M_table 2) (fun r2 => some (r2, M_pieces)) else (if a1 = 4 then some (M_crew, M_pieces) else (if a1 = 5 then bnd (jX7_crewWith M_crew M_people 0) (fun r3 => some (r3, M_pieces)) else (if a1 = 6 then bnd (jX7_crewWith M_crew M_people 2) (fun r4 => some (r4, M_pieces)) else (if a1 = 7 then bnd (jX7_counted_L103 M_barrels M_strength FU 0 0) (fun r6 => some (r6 / 2, M_pieces)) else (if a1 = 8 then bnd (jX7_name M_barrels M_table M_strength M_pieces) (fun r7 => bnd (jX7_counted_L135 M_barrels r7 FU 0 0) (fun r8 => some (r8, r7))) else (if a1 = 9 then chk 3 1 (some (rd M_numbers 1, M_pieces)) else (if a1 = 10 then chk 3 2 (some (rd M_numbers 2, M_pieces)) else bnd (jX7_counted_L185 M_barrels M_table FU 0 0) (fun r11 => some (r11, M_pieces)))))))))))))
set_option maxHeartbeats 4000000 in
set_option maxRecDepth 100000 in
theorem mt_X7_counted (l : Launch) (D : va_G) (c : Nat → ClassId) (M : Nat → Nat) (M_thrown : Int32) (M_waters : Int32) (M_windX : Int32) (M_windY : Int32) (M_barrels : Int32) (M_crew : Int32) (M_table : Nat → Int32) (M_strength : Nat → Int32) (M_people : Nat → Int32) (M_numbers : Nat → Int32) (M_pieces : Nat → Int32) (a1 : Int32) (q0 : Int32 × (Nat → Int32)) (h : jX7_counted M_barrels M_crew M_table M_strength M_people M_numbers M_pieces a1 = some q0) : DTi l yX7_counted wsX7_counted rmX7_counted D c (wX7_counted c M M_thrown M_waters M_windX M_windY M_barrels M_crew M_table M_strength M_people M_numbers M_pieces) [.ref (M 0), .int a1] q0.1 (wX7_counted c M M_thrown M_waters M_windX M_windY M_barrels M_crew M_table M_strength M_people M_numbers q0.2) 0 0 := by
  refine DTi_of (cc := cX7_counted) (nL := 4) RX7 rfl (by decide) rfl (Nat.le_of_ble_eq_true rfl) (fun g C ret => ?_)
  unfold jX7_counted at h
  refine vv_lv [0, 1] [(0, .ref (M 0)), (1, .int a1)] rfl ?_
  refine vv_iconst C (v := 0) dX7_counted_0 (by decide) 1 rfl ?_
  refine vv_istore_n C [(2, .int 0), (0, .ref (M 0)), (1, .int a1)] dX7_counted_1 rfl (by decide) rfl 2 rfl ?_
  refine vv_iload_n C dX7_counted_2 rfl 2 rfl 3 rfl ?_
  by_cases hn0 : a1 = 0
  · replace h := ite_t hn0 h
    refine vv_swIn C (off := 57) 60 dX7_counted_3 (by rw [hn0]; decide) (by rw [hn0]; decide) (by rw [hn0]; rfl) (by decide) ?_
    refine vv_aload_n C dX7_counted_60 rfl 1 rfl 61 rfl ?_
    refine vv_get C (q0 := 0) (ci := 7) (k := 12) kinX7_counted_X7 rfl rfl (by decide) kwX7_counted_1 rfl rfl dX7_counted_61 64 rfl ?_
    refine vv_iconst C (v := 0) dX7_counted_64 (by decide) 65 rfl ?_
    obtain ⟨hi, h⟩ := chk_s h
    refine vv_iald C (q0 := 4) rfl hi dX7_counted_65 66 rfl ?_
    obtain rfl := Option.some.inj h
    exact ret _ _ dX7_counted_66
  · replace h := ite_f hn0 h
    by_cases hn1 : a1 = 1
    · replace h := ite_t hn1 h
      refine vv_swIn C (off := 64) 67 dX7_counted_3 (by rw [hn1]; decide) (by rw [hn1]; decide) (by rw [hn1]; rfl) (by decide) ?_
      refine vv_aload_n C dX7_counted_67 rfl 1 rfl 68 rfl ?_
      refine vv_get C (q0 := 0) (ci := 7) (k := 5) kinX7_counted_X7 rfl rfl (by decide) kwX7_counted_2 rfl rfl dX7_counted_68 71 rfl ?_
      obtain rfl := Option.some.inj h
      exact ret _ _ dX7_counted_71
    · replace h := ite_f hn1 h
      by_cases hn2 : a1 = 2
      · replace h := ite_t hn2 h
        refine vv_swIn C (off := 69) 72 dX7_counted_3 (by rw [hn2]; decide) (by rw [hn2]; decide) (by rw [hn2]; rfl) (by decide) ?_
        refine vv_aload_n C dX7_counted_72 rfl 1 rfl 73 rfl ?_
        refine vv_iconst C (v := 0) dX7_counted_73 (by decide) 74 rfl ?_
        obtain ⟨r1, hr1, h⟩ := bnd_s h
        refine vv_callVi C (fun l => mt_X7_withState l D c M M_thrown M_waters M_windX M_windY M_barrels M_crew M_table 0 r1 hr1) gX7_counted_X7_withState rfl rfl rfl yd_X7_withState ⟨Nat.le_of_ble_eq_true rfl, Nat.le_of_ble_eq_true rfl⟩ [0, 1] rfl (by decide) 0 rfl rfl (wX7_counted c M M_thrown M_waters M_windX M_windY M_barrels M_crew M_table M_strength M_people M_numbers M_pieces) [(true, 0), (true, 1), (false, 2), (false, 3), (false, 4), (false, 5)] rfl (by decide) rfl rfl [] rfl (Nat.le_of_ble_eq_true rfl) ⟨Nat.le_of_ble_eq_true rfl, Nat.le_of_ble_eq_true rfl⟩ dX7_counted_74 77 0 0 rfl ⟨rfl, rfl⟩ ?_
        obtain rfl := Option.some.inj h
        exact ret _ _ dX7_counted_77
      · replace h := ite_f hn2 h
        by_cases hn3 : a1 = 3
        · replace h := ite_t hn3 h
          refine vv_swIn C (off := 75) 78 dX7_counted_3 (by rw [hn3]; decide) (by rw [hn3]; decide) (by rw [hn3]; rfl) (by decide) ?_
          refine vv_aload_n C dX7_counted_78 rfl 1 rfl 79 rfl ?_
          refine vv_iconst C (v := 2) dX7_counted_79 (by decide) 80 rfl ?_
          obtain ⟨r2, hr2, h⟩ := bnd_s h
          refine vv_callVi C (fun l => mt_X7_withState l D c M M_thrown M_waters M_windX M_windY M_barrels M_crew M_table 2 r2 hr2) gX7_counted_X7_withState rfl rfl rfl yd_X7_withState ⟨Nat.le_of_ble_eq_true rfl, Nat.le_of_ble_eq_true rfl⟩ [0, 1] rfl (by decide) 0 rfl rfl (wX7_counted c M M_thrown M_waters M_windX M_windY M_barrels M_crew M_table M_strength M_people M_numbers M_pieces) [(true, 0), (true, 1), (false, 2), (false, 3), (false, 4), (false, 5)] rfl (by decide) rfl rfl [] rfl (Nat.le_of_ble_eq_true rfl) ⟨Nat.le_of_ble_eq_true rfl, Nat.le_of_ble_eq_true rfl⟩ dX7_counted_80 83 0 0 rfl ⟨rfl, rfl⟩ ?_
          obtain rfl := Option.some.inj h
          exact ret _ _ dX7_counted_83
        · replace h := ite_f hn3 h
          by_cases hn4 : a1 = 4
          · replace h := ite_t hn4 h
            refine vv_swIn C (off := 81) 84 dX7_counted_3 (by rw [hn4]; decide) (by rw [hn4]; decide) (by rw [hn4]; rfl) (by decide) ?_
            refine vv_aload_n C dX7_counted_84 rfl 1 rfl 85 rfl ?_
            refine vv_get C (q0 := 0) (ci := 7) (k := 7) kinX7_counted_X7 rfl rfl (by decide) kwX7_counted_3 rfl rfl dX7_counted_85 88 rfl ?_
            obtain rfl := Option.some.inj h
            exact ret _ _ dX7_counted_88
          · replace h := ite_f hn4 h
            by_cases hn5 : a1 = 5
            · replace h := ite_t hn5 h
              refine vv_swIn C (off := 86) 89 dX7_counted_3 (by rw [hn5]; decide) (by rw [hn5]; decide) (by rw [hn5]; rfl) (by decide) ?_
              refine vv_aload_n C dX7_counted_89 rfl 1 rfl 90 rfl ?_
              refine vv_iconst C (v := 0) dX7_counted_90 (by decide) 91 rfl ?_
              obtain ⟨r3, hr3, h⟩ := bnd_s h
              refine vv_callVi C (fun l => mt_X7_crewWith l D c M M_thrown M_waters M_windX M_windY M_barrels M_crew M_people 0 r3 hr3) gX7_counted_X7_crewWith rfl rfl rfl yd_X7_crewWith ⟨Nat.le_of_ble_eq_true rfl, Nat.le_of_ble_eq_true rfl⟩ [0, 3] rfl (by decide) 0 rfl rfl (wX7_counted c M M_thrown M_waters M_windX M_windY M_barrels M_crew M_table M_strength M_people M_numbers M_pieces) [(true, 0), (false, 1), (false, 2), (true, 1), (false, 4), (false, 5)] rfl (by decide) rfl rfl [] rfl (Nat.le_of_ble_eq_true rfl) ⟨Nat.le_of_ble_eq_true rfl, Nat.le_of_ble_eq_true rfl⟩ dX7_counted_91 94 0 0 rfl ⟨rfl, rfl⟩ ?_
              obtain rfl := Option.some.inj h
              exact ret _ _ dX7_counted_94
            · replace h := ite_f hn5 h
              by_cases hn6 : a1 = 6
              · replace h := ite_t hn6 h
                refine vv_swIn C (off := 92) 95 dX7_counted_3 (by rw [hn6]; decide) (by rw [hn6]; decide) (by rw [hn6]; rfl) (by decide) ?_
                refine vv_aload_n C dX7_counted_95 rfl 1 rfl 96 rfl ?_
                refine vv_iconst C (v := 2) dX7_counted_96 (by decide) 97 rfl ?_
                obtain ⟨r4, hr4, h⟩ := bnd_s h
                refine vv_callVi C (fun l => mt_X7_crewWith l D c M M_thrown M_waters M_windX M_windY M_barrels M_crew M_people 2 r4 hr4) gX7_counted_X7_crewWith rfl rfl rfl yd_X7_crewWith ⟨Nat.le_of_ble_eq_true rfl, Nat.le_of_ble_eq_true rfl⟩ [0, 3] rfl (by decide) 0 rfl rfl (wX7_counted c M M_thrown M_waters M_windX M_windY M_barrels M_crew M_table M_strength M_people M_numbers M_pieces) [(true, 0), (false, 1), (false, 2), (true, 1), (false, 4), (false, 5)] rfl (by decide) rfl rfl [] rfl (Nat.le_of_ble_eq_true rfl) ⟨Nat.le_of_ble_eq_true rfl, Nat.le_of_ble_eq_true rfl⟩ dX7_counted_97 100 0 0 rfl ⟨rfl, rfl⟩ ?_
                obtain rfl := Option.some.inj h
                exact ret _ _ dX7_counted_100
              · replace h := ite_f hn6 h
                by_cases hn7 : a1 = 7
                · replace h := ite_t hn7 h
                  refine vv_swIn C (off := 98) 101 dX7_counted_3 (by rw [hn7]; decide) (by rw [hn7]; decide) (by rw [hn7]; rfl) (by decide) ?_
                  refine vv_iconst C (v := 0) dX7_counted_101 (by decide) 102 rfl ?_
                  refine vv_istore_n C [(3, .int 0), (2, .int 0), (0, .ref (M 0)), (1, .int a1)] dX7_counted_102 rfl (by decide) rfl 103 rfl ?_
                  refine vv_lv [2, 1, 0] [(0, .ref (M 0)), (2, .int 0), (3, .int 0)] rfl ?_
                  have L103 : ∀ (n : Nat) (v2_103 : Int32) (v3_103 : Int32) (q103 : Int32), jX7_counted_L103 M_barrels M_strength n v2_103 v3_103 = some q103 → (VV g D 4 0 0 (wX7_counted c M M_thrown M_waters M_windX M_windY M_barrels M_crew M_table M_strength M_people M_numbers M_pieces) [(2, .int q103)] 125 []) → VV g D 4 0 0 (wX7_counted c M M_thrown M_waters M_windX M_windY M_barrels M_crew M_table M_strength M_people M_numbers M_pieces) [(0, .ref (M 0)), (2, .int v2_103), (3, .int v3_103)] 103 [] := by
                    intro n
                    induction n with
                    | zero =>
                      intro v2_103 v3_103 q103 h _
                      rw [jX7_counted_L103] at h
                      cases h
                    | succ n ih103 =>
                      intro v2_103 v3_103 q103 h kk103
                      rw [jX7_counted_L103] at h
                      refine vv_iload_n C dX7_counted_103 rfl 2 rfl 104 rfl ?_
                      refine vv_aload_n C dX7_counted_104 rfl 0 rfl 105 rfl ?_
                      refine vv_get C (q0 := 0) (ci := 7) (k := 5) kinX7_counted_X7 rfl rfl (by decide) kwX7_counted_2 rfl rfl dX7_counted_105 108 rfl ?_
                      refine vv_icmp_ge C 125 111 dX7_counted_108 (by decide) rfl (fun hc => ?_) (fun hc => ?_)
                      · replace h := ite_t hc h
                        refine vv_lv [1] [(2, .int v2_103)] rfl ?_
                        obtain rfl := Option.some.inj h
                        exact kk103
                      · replace h := ite_f hc h
                        refine vv_iload_n C dX7_counted_111 rfl 1 rfl 112 rfl ?_
                        refine vv_aload_n C dX7_counted_112 rfl 0 rfl 113 rfl ?_
                        refine vv_iload_n C dX7_counted_113 rfl 2 rfl 114 rfl ?_
                        obtain ⟨r5, hr5, h⟩ := bnd_s h
                        refine vv_callVi C (fun l => mt_X7_tiesOf l D c M M_thrown M_waters M_windX M_windY M_barrels M_crew M_strength v3_103 r5 hr5) gX7_counted_X7_tiesOf rfl rfl rfl yd_X7_tiesOf ⟨Nat.le_of_ble_eq_true rfl, Nat.le_of_ble_eq_true rfl⟩ [0, 2] rfl (by decide) 0 rfl rfl (wX7_counted c M M_thrown M_waters M_windX M_windY M_barrels M_crew M_table M_strength M_people M_numbers M_pieces) [(true, 0), (false, 1), (true, 1), (false, 3), (false, 4), (false, 5)] rfl (by decide) rfl rfl [.int v2_103] rfl (Nat.le_of_ble_eq_true rfl) ⟨Nat.le_of_ble_eq_true rfl, Nat.le_of_ble_eq_true rfl⟩ dX7_counted_114 117 0 0 rfl ⟨rfl, rfl⟩ ?_
                        refine vv_iadd C dX7_counted_117 118 rfl ?_
                        refine vv_istore_n C [(2, .int (v2_103 + r5)), (0, .ref (M 0)), (3, .int v3_103)] dX7_counted_118 rfl (by decide) rfl 119 rfl ?_
                        refine vv_iinc C (k := 2) [(3, .int (v3_103 + 1)), (2, .int (v2_103 + r5)), (0, .ref (M 0))] dX7_counted_119 rfl rfl (by decide) rfl 122 rfl ?_
                        refine vv_goto C 103 dX7_counted_122 (by decide) ?_
                        refine vv_lv [2, 1, 0] [(0, .ref (M 0)), (2, .int (v2_103 + r5)), (3, .int (v3_103 + 1))] rfl ?_
                        exact ih103 (v2_103 + r5) (v3_103 + 1) _ h kk103
                  obtain ⟨r6, hr6, h⟩ := bnd_s h
                  refine L103 FU 0 0 r6 hr6 ?_
                  refine vv_iload_n C dX7_counted_125 rfl 0 rfl 126 rfl ?_
                  refine vv_iconst C (v := 2) dX7_counted_126 (by decide) 127 rfl ?_
                  refine vv_idiv C dX7_counted_127 (by decide) 128 rfl ?_
                  obtain rfl := Option.some.inj h
                  exact ret _ _ dX7_counted_128
                · replace h := ite_f hn7 h
                  by_cases hn8 : a1 = 8
                  · replace h := ite_t hn8 h
                    refine vv_swIn C (off := 126) 129 dX7_counted_3 (by rw [hn8]; decide) (by rw [hn8]; decide) (by rw [hn8]; rfl) (by decide) ?_
                    refine vv_aload_n C dX7_counted_129 rfl 1 rfl 130 rfl ?_
                    obtain ⟨r7, hr7, h⟩ := bnd_s h
                    refine vv_callVv C (fun l => mt_X7_name l D c M M_thrown M_waters M_windX M_windY M_barrels M_crew M_table M_strength M_pieces r7 hr7) gX7_counted_X7_name rfl rfl rfl yd_X7_name ⟨Nat.le_of_ble_eq_true rfl, Nat.le_of_ble_eq_true rfl⟩ [0, 1, 2, 5] rfl (by decide) 0 rfl rfl (wX7_counted c M M_thrown M_waters M_windX M_windY M_barrels M_crew M_table M_strength M_people M_numbers r7) [(true, 0), (true, 1), (true, 2), (false, 3), (false, 4), (true, 3)] rfl (by decide) rfl rfl [] rfl (Nat.le_of_ble_eq_true rfl) ⟨Nat.le_of_ble_eq_true rfl, Nat.le_of_ble_eq_true rfl⟩ dX7_counted_130 133 0 0 rfl ⟨rfl, rfl⟩ ?_
                    refine vv_iconst C (v := 0) dX7_counted_133 (by decide) 134 rfl ?_
                    refine vv_istore_n C [(3, .int 0), (2, .int 0), (0, .ref (M 0)), (1, .int a1)] dX7_counted_134 rfl (by decide) rfl 135 rfl ?_
                    refine vv_lv [2, 1, 0] [(0, .ref (M 0)), (2, .int 0), (3, .int 0)] rfl ?_
                    have L135 : ∀ (n : Nat) (v2_135 : Int32) (v3_135 : Int32) (q135 : Int32), jX7_counted_L135 M_barrels r7 n v2_135 v3_135 = some q135 → (VV g D 4 0 0 (wX7_counted c M M_thrown M_waters M_windX M_windY M_barrels M_crew M_table M_strength M_people M_numbers r7) [(2, .int q135)] 167 []) → VV g D 4 0 0 (wX7_counted c M M_thrown M_waters M_windX M_windY M_barrels M_crew M_table M_strength M_people M_numbers r7) [(0, .ref (M 0)), (2, .int v2_135), (3, .int v3_135)] 135 [] := by
                      intro n
                      induction n with
                      | zero =>
                        intro v2_135 v3_135 q135 h _
                        rw [jX7_counted_L135] at h
                        cases h
                      | succ n ih135 =>
                        intro v2_135 v3_135 q135 h kk135
                        rw [jX7_counted_L135] at h
                        refine vv_iload_n C dX7_counted_135 rfl 2 rfl 136 rfl ?_
                        refine vv_aload_n C dX7_counted_136 rfl 0 rfl 137 rfl ?_
                        refine vv_get C (q0 := 0) (ci := 7) (k := 5) kinX7_counted_X7 rfl rfl (by decide) kwX7_counted_2 rfl rfl dX7_counted_137 140 rfl ?_
                        refine vv_icmp_ge C 167 143 dX7_counted_140 (by decide) rfl (fun hc => ?_) (fun hc => ?_)
                        · replace h := ite_t hc h
                          refine vv_lv [1] [(2, .int v2_135)] rfl ?_
                          obtain rfl := Option.some.inj h
                          exact kk135
                        · replace h := ite_f hc h
                          refine vv_iload_n C dX7_counted_143 rfl 1 rfl 144 rfl ?_
                          refine vv_aload_n C dX7_counted_144 rfl 0 rfl 145 rfl ?_
                          refine vv_get C (q0 := 0) (ci := 7) (k := 13) kinX7_counted_X7 rfl rfl (by decide) kwX7_counted_4 rfl rfl dX7_counted_145 148 rfl ?_
                          refine vv_iload_n C dX7_counted_148 rfl 2 rfl 149 rfl ?_
                          obtain ⟨hi, h⟩ := chk_s h
                          refine vv_iald C (q0 := 5) rfl hi dX7_counted_149 150 rfl ?_
                          refine vv_iload_n C dX7_counted_150 rfl 2 rfl 151 rfl ?_
                          refine vv_icmp_ne C 158 154 dX7_counted_151 (by decide) rfl (fun hc => ?_) (fun hc => ?_)
                          · replace h := ite_f hc h
                            refine vv_iconst C (v := 0) dX7_counted_158 (by decide) 159 rfl ?_
                            refine vv_iadd C dX7_counted_159 160 rfl ?_
                            refine vv_istore_n C [(2, .int (v2_135 + 0)), (0, .ref (M 0)), (3, .int v3_135)] dX7_counted_160 rfl (by decide) rfl 161 rfl ?_
                            refine vv_iinc C (k := 2) [(3, .int (v3_135 + 1)), (2, .int (v2_135 + 0)), (0, .ref (M 0))] dX7_counted_161 rfl rfl (by decide) rfl 164 rfl ?_
                            refine vv_goto C 135 dX7_counted_164 (by decide) ?_
                            refine vv_lv [2, 1, 0] [(0, .ref (M 0)), (2, .int (v2_135 + 0)), (3, .int (v3_135 + 1))] rfl ?_
                            exact ih135 (v2_135 + 0) (v3_135 + 1) _ h kk135
                          · replace h := ite_t hc h
                            refine vv_iconst C (v := 1) dX7_counted_154 (by decide) 155 rfl ?_
                            refine vv_goto C 159 dX7_counted_155 (by decide) ?_
                            refine vv_iadd C dX7_counted_159 160 rfl ?_
                            refine vv_istore_n C [(2, .int (v2_135 + 1)), (0, .ref (M 0)), (3, .int v3_135)] dX7_counted_160 rfl (by decide) rfl 161 rfl ?_
                            refine vv_iinc C (k := 2) [(3, .int (v3_135 + 1)), (2, .int (v2_135 + 1)), (0, .ref (M 0))] dX7_counted_161 rfl rfl (by decide) rfl 164 rfl ?_
                            refine vv_goto C 135 dX7_counted_164 (by decide) ?_
                            refine vv_lv [2, 1, 0] [(0, .ref (M 0)), (2, .int (v2_135 + 1)), (3, .int (v3_135 + 1))] rfl ?_
                            exact ih135 (v2_135 + 1) (v3_135 + 1) _ h kk135
                    obtain ⟨r8, hr8, h⟩ := bnd_s h
                    refine L135 FU 0 0 r8 hr8 ?_
                    refine vv_iload_n C dX7_counted_167 rfl 0 rfl 168 rfl ?_
                    obtain rfl := Option.some.inj h
                    exact ret _ _ dX7_counted_168
                  · replace h := ite_f hn8 h
                    by_cases hn9 : a1 = 9
                    · replace h := ite_t hn9 h
                      refine vv_swIn C (off := 166) 169 dX7_counted_3 (by rw [hn9]; decide) (by rw [hn9]; decide) (by rw [hn9]; rfl) (by decide) ?_
                      refine vv_aload_n C dX7_counted_169 rfl 1 rfl 170 rfl ?_
                      refine vv_get C (q0 := 0) (ci := 7) (k := 12) kinX7_counted_X7 rfl rfl (by decide) kwX7_counted_1 rfl rfl dX7_counted_170 173 rfl ?_
                      refine vv_iconst C (v := 1) dX7_counted_173 (by decide) 174 rfl ?_
                      obtain ⟨hi, h⟩ := chk_s h
                      refine vv_iald C (q0 := 4) rfl hi dX7_counted_174 175 rfl ?_
                      obtain rfl := Option.some.inj h
                      exact ret _ _ dX7_counted_175
                    · replace h := ite_f hn9 h
                      by_cases hn10 : a1 = 10
                      · replace h := ite_t hn10 h
                        refine vv_swIn C (off := 173) 176 dX7_counted_3 (by rw [hn10]; decide) (by rw [hn10]; decide) (by rw [hn10]; rfl) (by decide) ?_
                        refine vv_aload_n C dX7_counted_176 rfl 1 rfl 177 rfl ?_
                        refine vv_get C (q0 := 0) (ci := 7) (k := 12) kinX7_counted_X7 rfl rfl (by decide) kwX7_counted_1 rfl rfl dX7_counted_177 180 rfl ?_
                        refine vv_iconst C (v := 2) dX7_counted_180 (by decide) 181 rfl ?_
                        obtain ⟨hi, h⟩ := chk_s h
                        refine vv_iald C (q0 := 4) rfl hi dX7_counted_181 182 rfl ?_
                        obtain rfl := Option.some.inj h
                        exact ret _ _ dX7_counted_182
                      · replace h := ite_f hn10 h
                        refine vv_swOut C 183 dX7_counted_3 (sw_out (fun j hj => ?_)) (by decide) ?_
                        · rcases (show j = 0 ∨ j = 1 ∨ j = 2 ∨ j = 3 ∨ j = 4 ∨ j = 5 ∨ j = 6 ∨ j = 7 ∨ j = 8 ∨ j = 9 ∨ j = 10 by omega) with rfl | rfl | rfl | rfl | rfl | rfl | rfl | rfl | rfl | rfl | rfl
                          · exact fun e => hn0 (e.trans (by decide))
                          · exact fun e => hn1 (e.trans (by decide))
                          · exact fun e => hn2 (e.trans (by decide))
                          · exact fun e => hn3 (e.trans (by decide))
                          · exact fun e => hn4 (e.trans (by decide))
                          · exact fun e => hn5 (e.trans (by decide))
                          · exact fun e => hn6 (e.trans (by decide))
                          · exact fun e => hn7 (e.trans (by decide))
                          · exact fun e => hn8 (e.trans (by decide))
                          · exact fun e => hn9 (e.trans (by decide))
                          · exact fun e => hn10 (e.trans (by decide))
                        · refine vv_iconst C (v := 0) dX7_counted_183 (by decide) 184 rfl ?_
                          refine vv_istore_n C [(3, .int 0), (2, .int 0), (0, .ref (M 0)), (1, .int a1)] dX7_counted_184 rfl (by decide) rfl 185 rfl ?_
                          refine vv_lv [2, 1, 0] [(0, .ref (M 0)), (2, .int 0), (3, .int 0)] rfl ?_
                          have L185 : ∀ (n : Nat) (v2_185 : Int32) (v3_185 : Int32) (q185 : Int32), jX7_counted_L185 M_barrels M_table n v2_185 v3_185 = some q185 → (VV g D 4 0 0 (wX7_counted c M M_thrown M_waters M_windX M_windY M_barrels M_crew M_table M_strength M_people M_numbers M_pieces) [(2, .int q185)] 222 []) → VV g D 4 0 0 (wX7_counted c M M_thrown M_waters M_windX M_windY M_barrels M_crew M_table M_strength M_people M_numbers M_pieces) [(0, .ref (M 0)), (2, .int v2_185), (3, .int v3_185)] 185 [] := by
                            intro n
                            induction n with
                            | zero =>
                              intro v2_185 v3_185 q185 h _
                              rw [jX7_counted_L185] at h
                              cases h
                            | succ n ih185 =>
                              intro v2_185 v3_185 q185 h kk185
                              rw [jX7_counted_L185] at h
                              refine vv_iload_n C dX7_counted_185 rfl 2 rfl 186 rfl ?_
                              refine vv_aload_n C dX7_counted_186 rfl 0 rfl 187 rfl ?_
                              refine vv_get C (q0 := 0) (ci := 7) (k := 5) kinX7_counted_X7 rfl rfl (by decide) kwX7_counted_2 rfl rfl dX7_counted_187 190 rfl ?_
                              refine vv_icmp_ge C 222 193 dX7_counted_190 (by decide) rfl (fun hc => ?_) (fun hc => ?_)
                              · replace h := ite_t hc h
                                refine vv_lv [1] [(2, .int v2_185)] rfl ?_
                                obtain rfl := Option.some.inj h
                                exact kk185
                              · replace h := ite_f hc h
                                refine vv_iload_n C dX7_counted_193 rfl 1 rfl 194 rfl ?_
                                refine vv_aload_n C dX7_counted_194 rfl 0 rfl 195 rfl ?_
                                refine vv_iload_n C dX7_counted_195 rfl 2 rfl 196 rfl ?_
                                refine vv_iconst C (v := 2) dX7_counted_196 (by decide) 197 rfl ?_
                                obtain ⟨r9, hr9, h⟩ := bnd_s h
                                refine vv_callVi C (fun l => mt_X7_ba l D c M M_thrown M_waters M_windX M_windY M_barrels M_crew M_table v3_185 2 r9 hr9) gX7_counted_X7_ba rfl rfl rfl yd_X7_ba ⟨Nat.le_of_ble_eq_true rfl, Nat.le_of_ble_eq_true rfl⟩ [0, 1] rfl (by decide) 0 rfl rfl (wX7_counted c M M_thrown M_waters M_windX M_windY M_barrels M_crew M_table M_strength M_people M_numbers M_pieces) [(true, 0), (true, 1), (false, 2), (false, 3), (false, 4), (false, 5)] rfl (by decide) rfl rfl [.int v2_185] rfl (Nat.le_of_ble_eq_true rfl) ⟨Nat.le_of_ble_eq_true rfl, Nat.le_of_ble_eq_true rfl⟩ dX7_counted_197 200 0 0 rfl ⟨rfl, rfl⟩ ?_
                                refine vv_iconst C (v := 2) dX7_counted_200 (by decide) 201 rfl ?_
                                refine vv_icmp_ne C 213 204 dX7_counted_201 (by decide) rfl (fun hc => ?_) (fun hc => ?_)
                                · replace h := ite_f hc h
                                  refine vv_iconst C (v := 0) dX7_counted_213 (by decide) 214 rfl ?_
                                  refine vv_iadd C dX7_counted_214 215 rfl ?_
                                  refine vv_istore_n C [(2, .int (v2_185 + 0)), (0, .ref (M 0)), (3, .int v3_185)] dX7_counted_215 rfl (by decide) rfl 216 rfl ?_
                                  refine vv_iinc C (k := 2) [(3, .int (v3_185 + 1)), (2, .int (v2_185 + 0)), (0, .ref (M 0))] dX7_counted_216 rfl rfl (by decide) rfl 219 rfl ?_
                                  refine vv_goto C 185 dX7_counted_219 (by decide) ?_
                                  refine vv_lv [2, 1, 0] [(0, .ref (M 0)), (2, .int (v2_185 + 0)), (3, .int (v3_185 + 1))] rfl ?_
                                  exact ih185 (v2_185 + 0) (v3_185 + 1) _ h kk185
                                · replace h := ite_t hc h
                                  refine vv_aload_n C dX7_counted_204 rfl 0 rfl 205 rfl ?_
                                  refine vv_iload_n C dX7_counted_205 rfl 2 rfl 206 rfl ?_
                                  refine vv_iconst C (v := 1) dX7_counted_206 (by decide) 207 rfl ?_
                                  obtain ⟨r10, hr10, h⟩ := bnd_s h
                                  refine vv_callVi C (fun l => mt_X7_ba l D c M M_thrown M_waters M_windX M_windY M_barrels M_crew M_table v3_185 1 r10 hr10) gX7_counted_X7_ba rfl rfl rfl yd_X7_ba ⟨Nat.le_of_ble_eq_true rfl, Nat.le_of_ble_eq_true rfl⟩ [0, 1] rfl (by decide) 0 rfl rfl (wX7_counted c M M_thrown M_waters M_windX M_windY M_barrels M_crew M_table M_strength M_people M_numbers M_pieces) [(true, 0), (true, 1), (false, 2), (false, 3), (false, 4), (false, 5)] rfl (by decide) rfl rfl [.int v2_185] rfl (Nat.le_of_ble_eq_true rfl) ⟨Nat.le_of_ble_eq_true rfl, Nat.le_of_ble_eq_true rfl⟩ dX7_counted_207 210 0 0 rfl ⟨rfl, rfl⟩ ?_
                                  refine vv_goto C 214 dX7_counted_210 (by decide) ?_
                                  refine vv_iadd C dX7_counted_214 215 rfl ?_
                                  refine vv_istore_n C [(2, .int (v2_185 + r10)), (0, .ref (M 0)), (3, .int v3_185)] dX7_counted_215 rfl (by decide) rfl 216 rfl ?_
                                  refine vv_iinc C (k := 2) [(3, .int (v3_185 + 1)), (2, .int (v2_185 + r10)), (0, .ref (M 0))] dX7_counted_216 rfl rfl (by decide) rfl 219 rfl ?_
                                  refine vv_goto C 185 dX7_counted_219 (by decide) ?_
                                  refine vv_lv [2, 1, 0] [(0, .ref (M 0)), (2, .int (v2_185 + r10)), (3, .int (v3_185 + 1))] rfl ?_
                                  exact ih185 (v2_185 + r10) (v3_185 + 1) _ h kk185
                          obtain ⟨r11, hr11, h⟩ := bnd_s h
                          refine L185 FU 0 0 r11 hr11 ?_
                          refine vv_iload_n C dX7_counted_222 rfl 0 rfl 223 rfl ?_
                          obtain rfl := Option.some.inj h
                          exact ret _ _ dX7_counted_223
abbrev wX7_count (c : Nat → ClassId) (M : Nat → Nat) (M_thrown : Int32) (M_waters : Int32) (M_windX : Int32) (M_windY : Int32) (M_barrels : Int32) (M_crew : Int32) (M_table : Nat → Int32) (M_strength : Nat → Int32) (M_people : Nat → Int32) (M_numbers : Nat → Int32) (M_pieces : Nat → Int32) : va_W := [(M 0, .inr (7, [.int M_thrown, .int M_waters, .ref (M 1), .int M_windX, .int M_windY, .int M_barrels, .ref (M 2), .int M_crew, .ref (M 3), .ref (M 4), .ref (M 5), .ref (M 6), .ref (M 7), .ref (M 8), .ref (M 9), .ref (M 10), .ref (M 11), .ref (M 12)])), aI c (M 3) 120 M_table, aI c (M 4) 576 M_strength, aI c (M 6) 16 M_people, aI c (M 7) 3 M_numbers, aI c (M 8) 24 M_pieces]
abbrev rmX7_count : Room := { frames := 5, cells := 0, slots := 0, locals := 110 }
theorem yd_X7_count : yX7_count.cls = RX7 ∧ yX7_count.cls ≠ "java/lang/invoke/MethodHandle" ∧ yX7_count.cls ≠ "java/lang/invoke/VarHandle" ∧ (parseMethodDescriptor yX7_count.desc).map (fun d => d.parameters.length) = some 1 := by decide +kernel
theorem kwX7_count_1 : Cond.fieldLink RX7 47 "BarrelRaftModel" "thrown" "I" ∈ wsX7_count := List.mem_of_getElem? (i := 1) rfl
set_option maxRecDepth 20000 in
theorem kinX7_count_X7 : ∀ w ∈ u_ws RX7 TX7 18, w ∈ wsX7_count := by decide +kernel
def jX7_count (M_thrown : Int32) (M_barrels : Int32) (M_crew : Int32) (M_table : Nat → Int32) (M_strength : Nat → Int32) (M_people : Nat → Int32) (M_numbers : Nat → Int32) (M_pieces : Nat → Int32) (a1 : Int32) : Option (Int32 × Int32 × (Nat → Int32)) :=
  bnd (jX7_isIn a1 0 11) (fun r1 => (if r1 = 0 then bnd (jX7_fail 0 1) (fun r2 => some (r2.1, r2.2, M_pieces)) else bnd (jX7_counted M_barrels M_crew M_table M_strength M_people M_numbers M_pieces a1) (fun r3 => some (r3.1, 0, r3.2))))
set_option maxHeartbeats 4000000 in
set_option maxRecDepth 100000 in
theorem mt_X7_count (l : Launch) (D : va_G) (c : Nat → ClassId) (M : Nat → Nat) (M_thrown : Int32) (M_waters : Int32) (M_windX : Int32) (M_windY : Int32) (M_barrels : Int32) (M_crew : Int32) (M_table : Nat → Int32) (M_strength : Nat → Int32) (M_people : Nat → Int32) (M_numbers : Nat → Int32) (M_pieces : Nat → Int32) (a1 : Int32) (q0 : Int32 × Int32 × (Nat → Int32)) (h : jX7_count M_thrown M_barrels M_crew M_table M_strength M_people M_numbers M_pieces a1 = some q0) : DTi l yX7_count wsX7_count rmX7_count D c (wX7_count c M M_thrown M_waters M_windX M_windY M_barrels M_crew M_table M_strength M_people M_numbers M_pieces) [.ref (M 0), .int a1] q0.1 (wX7_count c M q0.2.1 M_waters M_windX M_windY M_barrels M_crew M_table M_strength M_people M_numbers q0.2.2) 0 0 := by
  refine DTi_of (cc := cX7_count) (nL := 2) RX7 rfl (by decide) rfl (Nat.le_of_ble_eq_true rfl) (fun g C ret => ?_)
  unfold jX7_count at h
  refine vv_lv [0, 1] [(0, .ref (M 0)), (1, .int a1)] rfl ?_
  refine vv_aload_n C dX7_count_0 rfl 0 rfl 1 rfl ?_
  refine vv_iconst C (v := 0) dX7_count_1 (by decide) 2 rfl ?_
  refine vv_put C (q0 := 0) (ci := 7) (k := 0) (ty := .int) (wX7_count c M 0 M_waters M_windX M_windY M_barrels M_crew M_table M_strength M_people M_numbers M_pieces) tyX7 tyX7_ok nmX7 kinX7_count_X7 rfl rfl (by decide) kwX7_count_1 rfl rfl rfl rfl rfl (Nat.le_of_ble_eq_true rfl) rfl dX7_count_2 5 rfl ?_
  refine vv_iload_n C dX7_count_5 rfl 1 rfl 6 rfl ?_
  refine vv_iconst C (v := 0) dX7_count_6 (by decide) 7 rfl ?_
  refine vv_bipush C (v := 11) dX7_count_7 (by decide) 9 rfl ?_
  obtain ⟨r1, hr1, h⟩ := bnd_s h
  refine vv_callSi C (fun l => mt_X7_isIn l D c a1 0 11 r1 hr1) gX7_count_X7_isIn rfl rfl rfl yd_X7_isIn ⟨Nat.le_of_ble_eq_true rfl, Nat.le_of_ble_eq_true rfl⟩ [] rfl (by decide) (wX7_count c M 0 M_waters M_windX M_windY M_barrels M_crew M_table M_strength M_people M_numbers M_pieces) [(false, 0), (false, 1), (false, 2), (false, 3), (false, 4), (false, 5)] rfl (by decide) rfl rfl [] rfl (Nat.le_of_ble_eq_true rfl) ⟨Nat.le_of_ble_eq_true rfl, Nat.le_of_ble_eq_true rfl⟩ dX7_count_9 12 0 0 rfl ⟨rfl, rfl⟩ ?_
  refine vv_if_eq C 23 15 dX7_count_12 (by decide) rfl (fun hc => ?_) (fun hc => ?_)
  · replace h := ite_t hc h
    refine vv_aload_n C dX7_count_23 rfl 0 rfl 24 rfl ?_
    refine vv_iconst C (v := 1) dX7_count_24 (by decide) 25 rfl ?_
    obtain ⟨r2, hr2, h⟩ := bnd_s h
    refine vv_callVi C (fun l => mt_X7_fail l D c M 0 M_waters M_windX M_windY M_barrels M_crew 1 r2 hr2) gX7_count_X7_fail rfl rfl rfl yd_X7_fail ⟨Nat.le_of_ble_eq_true rfl, Nat.le_of_ble_eq_true rfl⟩ [0] rfl (by decide) 0 rfl rfl (wX7_count c M r2.2 M_waters M_windX M_windY M_barrels M_crew M_table M_strength M_people M_numbers M_pieces) [(true, 0), (false, 1), (false, 2), (false, 3), (false, 4), (false, 5)] rfl (by decide) rfl rfl [] rfl (Nat.le_of_ble_eq_true rfl) ⟨Nat.le_of_ble_eq_true rfl, Nat.le_of_ble_eq_true rfl⟩ dX7_count_25 28 0 0 rfl ⟨rfl, rfl⟩ ?_
    obtain rfl := Option.some.inj h
    exact ret _ _ dX7_count_28
  · replace h := ite_f hc h
    refine vv_aload_n C dX7_count_15 rfl 0 rfl 16 rfl ?_
    refine vv_iload_n C dX7_count_16 rfl 1 rfl 17 rfl ?_
    obtain ⟨r3, hr3, h⟩ := bnd_s h
    refine vv_callVi C (fun l => mt_X7_counted l D c M 0 M_waters M_windX M_windY M_barrels M_crew M_table M_strength M_people M_numbers M_pieces a1 r3 hr3) gX7_count_X7_counted rfl rfl rfl yd_X7_counted ⟨Nat.le_of_ble_eq_true rfl, Nat.le_of_ble_eq_true rfl⟩ [0, 1, 2, 3, 4, 5] rfl (by decide) 0 rfl rfl (wX7_count c M 0 M_waters M_windX M_windY M_barrels M_crew M_table M_strength M_people M_numbers r3.2) [(true, 0), (true, 1), (true, 2), (true, 3), (true, 4), (true, 5)] rfl (by decide) rfl rfl [] rfl (Nat.le_of_ble_eq_true rfl) ⟨Nat.le_of_ble_eq_true rfl, Nat.le_of_ble_eq_true rfl⟩ dX7_count_17 20 0 0 rfl ⟨rfl, rfl⟩ ?_
    refine vv_goto C 28 dX7_count_20 (by decide) ?_
    obtain rfl := Option.some.inj h
    exact ret _ _ dX7_count_28
abbrev wX7_untie (c : Nat → ClassId) (M : Nat → Nat) (M_thrown : Int32) (M_waters : Int32) (M_windX : Int32) (M_windY : Int32) (M_barrels : Int32) (M_crew : Int32) (M_strength : Nat → Int32) (M_wear : Nat → Int32) : va_W := [(M 0, .inr (7, [.int M_thrown, .int M_waters, .ref (M 1), .int M_windX, .int M_windY, .int M_barrels, .ref (M 2), .int M_crew, .ref (M 3), .ref (M 4), .ref (M 5), .ref (M 6), .ref (M 7), .ref (M 8), .ref (M 9), .ref (M 10), .ref (M 11), .ref (M 12)])), aI c (M 4) 576 M_strength, aI c (M 5) 576 M_wear]
abbrev rmX7_untie : Room := { frames := 2, cells := 0, slots := 0, locals := 42 }
theorem yd_X7_untie : yX7_untie.cls = RX7 ∧ yX7_untie.cls ≠ "java/lang/invoke/MethodHandle" ∧ yX7_untie.cls ≠ "java/lang/invoke/VarHandle" ∧ (parseMethodDescriptor yX7_untie.desc).map (fun d => d.parameters.length) = some 2 := by decide +kernel
theorem kwX7_untie_1 : Cond.fieldLink RX7 19 "BarrelRaftModel" "strength" "[I" ∈ wsX7_untie := List.mem_of_getElem? (i := 1) rfl
set_option maxRecDepth 20000 in
theorem kinX7_untie_X7 : ∀ w ∈ u_ws RX7 TX7 18, w ∈ wsX7_untie := by decide +kernel
theorem kwX7_untie_2 : Cond.fieldLink RX7 22 "BarrelRaftModel" "wear" "[I" ∈ wsX7_untie := List.mem_of_getElem? (i := 2) rfl
def jX7_untie (M_strength : Nat → Int32) (M_wear : Nat → Int32) (a1 : Int32) (a2 : Int32) : Option ((Nat → Int32) × (Nat → Int32)) :=
  bnd (jX7_pair a1 a2) (fun r1 => chk 576 r1 (bnd (jX7_pair a1 a2) (fun r2 => chk 576 r2 (some (wr M_strength r1 0, wr M_wear r2 0)))))
set_option maxHeartbeats 4000000 in
set_option maxRecDepth 100000 in
theorem mt_X7_untie (l : Launch) (D : va_G) (c : Nat → ClassId) (M : Nat → Nat) (M_thrown : Int32) (M_waters : Int32) (M_windX : Int32) (M_windY : Int32) (M_barrels : Int32) (M_crew : Int32) (M_strength : Nat → Int32) (M_wear : Nat → Int32) (a1 : Int32) (a2 : Int32) (q0 : (Nat → Int32) × (Nat → Int32)) (h : jX7_untie M_strength M_wear a1 a2 = some q0) : DTv l yX7_untie wsX7_untie rmX7_untie D c (wX7_untie c M M_thrown M_waters M_windX M_windY M_barrels M_crew M_strength M_wear) [.ref (M 0), .int a1, .int a2] (wX7_untie c M M_thrown M_waters M_windX M_windY M_barrels M_crew q0.1 q0.2) 0 0 := by
  refine DTv_of (cc := cX7_untie) (nL := 3) RX7 rfl (by decide) rfl (Nat.le_of_ble_eq_true rfl) (fun g C ret => ?_)
  unfold jX7_untie at h
  refine vv_lv [0, 1, 2] [(0, .ref (M 0)), (1, .int a1), (2, .int a2)] rfl ?_
  refine vv_aload_n C dX7_untie_0 rfl 0 rfl 1 rfl ?_
  refine vv_get C (q0 := 0) (ci := 7) (k := 9) kinX7_untie_X7 rfl rfl (by decide) kwX7_untie_1 rfl rfl dX7_untie_1 4 rfl ?_
  refine vv_iload_n C dX7_untie_4 rfl 1 rfl 5 rfl ?_
  refine vv_iload_n C dX7_untie_5 rfl 2 rfl 6 rfl ?_
  obtain ⟨r1, hr1, h⟩ := bnd_s h
  refine vv_callSi C (fun l => mt_X7_pair l D c a1 a2 r1 hr1) gX7_untie_X7_pair rfl rfl rfl yd_X7_pair ⟨Nat.le_of_ble_eq_true rfl, Nat.le_of_ble_eq_true rfl⟩ [] rfl (by decide) (wX7_untie c M M_thrown M_waters M_windX M_windY M_barrels M_crew M_strength M_wear) [(false, 0), (false, 1), (false, 2)] rfl (by decide) rfl rfl [.ref (M 4)] rfl (Nat.le_of_ble_eq_true rfl) ⟨Nat.le_of_ble_eq_true rfl, Nat.le_of_ble_eq_true rfl⟩ dX7_untie_6 9 0 0 rfl ⟨rfl, rfl⟩ ?_
  refine vv_iconst C (v := 0) dX7_untie_9 (by decide) 10 rfl ?_
  obtain ⟨hi, h⟩ := chk_s h
  refine vv_iast C (q0 := 1) (wX7_untie c M M_thrown M_waters M_windX M_windY M_barrels M_crew (wr M_strength r1 0) M_wear) rfl hi rfl dX7_untie_10 11 rfl ?_
  refine vv_aload_n C dX7_untie_11 rfl 0 rfl 12 rfl ?_
  refine vv_get C (q0 := 0) (ci := 7) (k := 10) kinX7_untie_X7 rfl rfl (by decide) kwX7_untie_2 rfl rfl dX7_untie_12 15 rfl ?_
  refine vv_iload_n C dX7_untie_15 rfl 1 rfl 16 rfl ?_
  refine vv_iload_n C dX7_untie_16 rfl 2 rfl 17 rfl ?_
  obtain ⟨r2, hr2, h⟩ := bnd_s h
  refine vv_callSi C (fun l => mt_X7_pair l D c a1 a2 r2 hr2) gX7_untie_X7_pair rfl rfl rfl yd_X7_pair ⟨Nat.le_of_ble_eq_true rfl, Nat.le_of_ble_eq_true rfl⟩ [] rfl (by decide) (wX7_untie c M M_thrown M_waters M_windX M_windY M_barrels M_crew (wr M_strength r1 0) M_wear) [(false, 0), (false, 1), (false, 2)] rfl (by decide) rfl rfl [.ref (M 5)] rfl (Nat.le_of_ble_eq_true rfl) ⟨Nat.le_of_ble_eq_true rfl, Nat.le_of_ble_eq_true rfl⟩ dX7_untie_17 20 0 0 rfl ⟨rfl, rfl⟩ ?_
  refine vv_iconst C (v := 0) dX7_untie_20 (by decide) 21 rfl ?_
  obtain ⟨hi, h⟩ := chk_s h
  refine vv_iast C (q0 := 2) (wX7_untie c M M_thrown M_waters M_windX M_windY M_barrels M_crew (wr M_strength r1 0) (wr M_wear r2 0)) rfl hi rfl dX7_untie_21 22 rfl ?_
  obtain rfl := Option.some.inj h
  exact ret _ _ dX7_untie_22
abbrev wX7_cut (c : Nat → ClassId) (M : Nat → Nat) (M_thrown : Int32) (M_waters : Int32) (M_windX : Int32) (M_windY : Int32) (M_barrels : Int32) (M_crew : Int32) (M_strength : Nat → Int32) (M_wear : Nat → Int32) (M_numbers : Nat → Int32) : va_W := [(M 0, .inr (7, [.int M_thrown, .int M_waters, .ref (M 1), .int M_windX, .int M_windY, .int M_barrels, .ref (M 2), .int M_crew, .ref (M 3), .ref (M 4), .ref (M 5), .ref (M 6), .ref (M 7), .ref (M 8), .ref (M 9), .ref (M 10), .ref (M 11), .ref (M 12)])), aI c (M 4) 576 M_strength, aI c (M 5) 576 M_wear, aI c (M 7) 3 M_numbers]
abbrev rmX7_cut : Room := { frames := 3, cells := 0, slots := 0, locals := 64 }
theorem yd_X7_cut : yX7_cut.cls = RX7 ∧ yX7_cut.cls ≠ "java/lang/invoke/MethodHandle" ∧ yX7_cut.cls ≠ "java/lang/invoke/VarHandle" ∧ (parseMethodDescriptor yX7_cut.desc).map (fun d => d.parameters.length) = some 2 := by decide +kernel
theorem kwX7_cut_1 : Cond.fieldLink RX7 47 "BarrelRaftModel" "thrown" "I" ∈ wsX7_cut := List.mem_of_getElem? (i := 1) rfl
set_option maxRecDepth 20000 in
theorem kinX7_cut_X7 : ∀ w ∈ u_ws RX7 TX7 18, w ∈ wsX7_cut := by decide +kernel
theorem kwX7_cut_2 : Cond.fieldLink RX7 28 "BarrelRaftModel" "numbers" "[I" ∈ wsX7_cut := List.mem_of_getElem? (i := 2) rfl
theorem kwX7_cut_3 : Cond.methodLink RX7 62 Lib.Math.min.name ∈ wsX7_cut := List.mem_of_getElem? (i := 3) rfl
theorem kwX7_cut_4 : Cond.static Lib.Math.min.name ∈ wsX7_cut := List.mem_of_getElem? (i := 4) rfl
theorem kwX7_cut_5 : Cond.initialized "java/lang/Math" ∈ wsX7_cut := List.mem_of_getElem? (i := 5) rfl
theorem kwX7_cut_6 : Cond.code Lib.Math.min.name Lib.Math.min.code 2 (some .int) ∈ wsX7_cut := List.mem_of_getElem? (i := 6) rfl
def jX7_cut (M_thrown : Int32) (M_barrels : Int32) (M_strength : Nat → Int32) (M_wear : Nat → Int32) (M_numbers : Nat → Int32) (a1 : Int32) (a2 : Int32) : Option (Int32 × Int32 × (Nat → Int32) × (Nat → Int32) × (Nat → Int32)) :=
  bnd (jX7_isBarrel M_barrels a1) (fun r1 => (if r1 = 0 then bnd (jX7_fail 0 1) (fun r2 => some (r2.1, r2.2, M_strength, M_wear, M_numbers)) else bnd (jX7_isBarrel M_barrels a2) (fun r3 => (if r3 = 0 then bnd (jX7_fail 0 1) (fun r7 => some (r7.1, r7.2, M_strength, M_wear, M_numbers)) else bnd (jX7_isTied M_strength a1 a2) (fun r4 => (if r4 = 0 then bnd (jX7_fail 0 2) (fun r6 => some (r6.1, r6.2, M_strength, M_wear, M_numbers)) else bnd (jX7_untie M_strength M_wear a1 a2) (fun r5 => chk 3 1 (chk 3 1 (chk 3 1 (some (rd (wr M_numbers 1 (mmin 40 ((rd M_numbers 1) + 1))) 1, 0, r5.1, r5.2, wr M_numbers 1 (mmin 40 ((rd M_numbers 1) + 1)))))))))))))
set_option maxHeartbeats 4000000 in
set_option maxRecDepth 100000 in
theorem mt_X7_cut (l : Launch) (D : va_G) (c : Nat → ClassId) (M : Nat → Nat) (M_thrown : Int32) (M_waters : Int32) (M_windX : Int32) (M_windY : Int32) (M_barrels : Int32) (M_crew : Int32) (M_strength : Nat → Int32) (M_wear : Nat → Int32) (M_numbers : Nat → Int32) (a1 : Int32) (a2 : Int32) (q0 : Int32 × Int32 × (Nat → Int32) × (Nat → Int32) × (Nat → Int32)) (h : jX7_cut M_thrown M_barrels M_strength M_wear M_numbers a1 a2 = some q0) : DTi l yX7_cut wsX7_cut rmX7_cut D c (wX7_cut c M M_thrown M_waters M_windX M_windY M_barrels M_crew M_strength M_wear M_numbers) [.ref (M 0), .int a1, .int a2] q0.1 (wX7_cut c M q0.2.1 M_waters M_windX M_windY M_barrels M_crew q0.2.2.1 q0.2.2.2.1 q0.2.2.2.2) 0 0 := by
  refine DTi_of (cc := cX7_cut) (nL := 3) RX7 rfl (by decide) rfl (Nat.le_of_ble_eq_true rfl) (fun g C ret => ?_)
  unfold jX7_cut at h
  refine vv_lv [0, 1, 2] [(0, .ref (M 0)), (1, .int a1), (2, .int a2)] rfl ?_
  refine vv_aload_n C dX7_cut_0 rfl 0 rfl 1 rfl ?_
  refine vv_iconst C (v := 0) dX7_cut_1 (by decide) 2 rfl ?_
  refine vv_put C (q0 := 0) (ci := 7) (k := 0) (ty := .int) (wX7_cut c M 0 M_waters M_windX M_windY M_barrels M_crew M_strength M_wear M_numbers) tyX7 tyX7_ok nmX7 kinX7_cut_X7 rfl rfl (by decide) kwX7_cut_1 rfl rfl rfl rfl rfl (Nat.le_of_ble_eq_true rfl) rfl dX7_cut_2 5 rfl ?_
  refine vv_aload_n C dX7_cut_5 rfl 0 rfl 6 rfl ?_
  refine vv_iload_n C dX7_cut_6 rfl 1 rfl 7 rfl ?_
  obtain ⟨r1, hr1, h⟩ := bnd_s h
  refine vv_callVi C (fun l => mt_X7_isBarrel l D c M 0 M_waters M_windX M_windY M_barrels M_crew a1 r1 hr1) gX7_cut_X7_isBarrel rfl rfl rfl yd_X7_isBarrel ⟨Nat.le_of_ble_eq_true rfl, Nat.le_of_ble_eq_true rfl⟩ [0] rfl (by decide) 0 rfl rfl (wX7_cut c M 0 M_waters M_windX M_windY M_barrels M_crew M_strength M_wear M_numbers) [(true, 0), (false, 1), (false, 2), (false, 3)] rfl (by decide) rfl rfl [] rfl (Nat.le_of_ble_eq_true rfl) ⟨Nat.le_of_ble_eq_true rfl, Nat.le_of_ble_eq_true rfl⟩ dX7_cut_7 10 0 0 rfl ⟨rfl, rfl⟩ ?_
  refine vv_if_eq C 21 13 dX7_cut_10 (by decide) rfl (fun hc => ?_) (fun hc => ?_)
  · replace h := ite_t hc h
    refine vv_aload_n C dX7_cut_21 rfl 0 rfl 22 rfl ?_
    refine vv_iconst C (v := 1) dX7_cut_22 (by decide) 23 rfl ?_
    obtain ⟨r2, hr2, h⟩ := bnd_s h
    refine vv_callVi C (fun l => mt_X7_fail l D c M 0 M_waters M_windX M_windY M_barrels M_crew 1 r2 hr2) gX7_cut_X7_fail rfl rfl rfl yd_X7_fail ⟨Nat.le_of_ble_eq_true rfl, Nat.le_of_ble_eq_true rfl⟩ [0] rfl (by decide) 0 rfl rfl (wX7_cut c M r2.2 M_waters M_windX M_windY M_barrels M_crew M_strength M_wear M_numbers) [(true, 0), (false, 1), (false, 2), (false, 3)] rfl (by decide) rfl rfl [] rfl (Nat.le_of_ble_eq_true rfl) ⟨Nat.le_of_ble_eq_true rfl, Nat.le_of_ble_eq_true rfl⟩ dX7_cut_23 26 0 0 rfl ⟨rfl, rfl⟩ ?_
    obtain rfl := Option.some.inj h
    exact ret _ _ dX7_cut_26
  · replace h := ite_f hc h
    refine vv_aload_n C dX7_cut_13 rfl 0 rfl 14 rfl ?_
    refine vv_iload_n C dX7_cut_14 rfl 2 rfl 15 rfl ?_
    obtain ⟨r3, hr3, h⟩ := bnd_s h
    refine vv_callVi C (fun l => mt_X7_isBarrel l D c M 0 M_waters M_windX M_windY M_barrels M_crew a2 r3 hr3) gX7_cut_X7_isBarrel rfl rfl rfl yd_X7_isBarrel ⟨Nat.le_of_ble_eq_true rfl, Nat.le_of_ble_eq_true rfl⟩ [0] rfl (by decide) 0 rfl rfl (wX7_cut c M 0 M_waters M_windX M_windY M_barrels M_crew M_strength M_wear M_numbers) [(true, 0), (false, 1), (false, 2), (false, 3)] rfl (by decide) rfl rfl [] rfl (Nat.le_of_ble_eq_true rfl) ⟨Nat.le_of_ble_eq_true rfl, Nat.le_of_ble_eq_true rfl⟩ dX7_cut_15 18 0 0 rfl ⟨rfl, rfl⟩ ?_
    refine vv_if_ne C 27 21 dX7_cut_18 (by decide) rfl (fun hc => ?_) (fun hc => ?_)
    · replace h := ite_f hc h
      refine vv_aload_n C dX7_cut_27 rfl 0 rfl 28 rfl ?_
      refine vv_iload_n C dX7_cut_28 rfl 1 rfl 29 rfl ?_
      refine vv_iload_n C dX7_cut_29 rfl 2 rfl 30 rfl ?_
      obtain ⟨r4, hr4, h⟩ := bnd_s h
      refine vv_callVi C (fun l => mt_X7_isTied l D c M 0 M_waters M_windX M_windY M_barrels M_crew M_strength a1 a2 r4 hr4) gX7_cut_X7_isTied rfl rfl rfl yd_X7_isTied ⟨Nat.le_of_ble_eq_true rfl, Nat.le_of_ble_eq_true rfl⟩ [0, 1] rfl (by decide) 0 rfl rfl (wX7_cut c M 0 M_waters M_windX M_windY M_barrels M_crew M_strength M_wear M_numbers) [(true, 0), (true, 1), (false, 2), (false, 3)] rfl (by decide) rfl rfl [] rfl (Nat.le_of_ble_eq_true rfl) ⟨Nat.le_of_ble_eq_true rfl, Nat.le_of_ble_eq_true rfl⟩ dX7_cut_30 33 0 0 rfl ⟨rfl, rfl⟩ ?_
      refine vv_if_ne C 42 36 dX7_cut_33 (by decide) rfl (fun hc => ?_) (fun hc => ?_)
      · replace h := ite_f hc h
        refine vv_aload_n C dX7_cut_42 rfl 0 rfl 43 rfl ?_
        refine vv_iload_n C dX7_cut_43 rfl 1 rfl 44 rfl ?_
        refine vv_iload_n C dX7_cut_44 rfl 2 rfl 45 rfl ?_
        obtain ⟨r5, hr5, h⟩ := bnd_s h
        refine vv_callVv C (fun l => mt_X7_untie l D c M 0 M_waters M_windX M_windY M_barrels M_crew M_strength M_wear a1 a2 r5 hr5) gX7_cut_X7_untie rfl rfl rfl yd_X7_untie ⟨Nat.le_of_ble_eq_true rfl, Nat.le_of_ble_eq_true rfl⟩ [0, 1, 2] rfl (by decide) 0 rfl rfl (wX7_cut c M 0 M_waters M_windX M_windY M_barrels M_crew r5.1 r5.2 M_numbers) [(true, 0), (true, 1), (true, 2), (false, 3)] rfl (by decide) rfl rfl [] rfl (Nat.le_of_ble_eq_true rfl) ⟨Nat.le_of_ble_eq_true rfl, Nat.le_of_ble_eq_true rfl⟩ dX7_cut_45 48 0 0 rfl ⟨rfl, rfl⟩ ?_
        refine vv_aload_n C dX7_cut_48 rfl 0 rfl 49 rfl ?_
        refine vv_get C (q0 := 0) (ci := 7) (k := 12) kinX7_cut_X7 rfl rfl (by decide) kwX7_cut_2 rfl rfl dX7_cut_49 52 rfl ?_
        refine vv_iconst C (v := 1) dX7_cut_52 (by decide) 53 rfl ?_
        refine vv_bipush C (v := 40) dX7_cut_53 (by decide) 55 rfl ?_
        refine vv_aload_n C dX7_cut_55 rfl 0 rfl 56 rfl ?_
        refine vv_get C (q0 := 0) (ci := 7) (k := 12) kinX7_cut_X7 rfl rfl (by decide) kwX7_cut_2 rfl rfl dX7_cut_56 59 rfl ?_
        refine vv_iconst C (v := 1) dX7_cut_59 (by decide) 60 rfl ?_
        obtain ⟨hi, h⟩ := chk_s h
        refine vv_iald C (q0 := 3) rfl hi dX7_cut_60 61 rfl ?_
        refine vv_iconst C (v := 1) dX7_cut_61 (by decide) 62 rfl ?_
        refine vv_iadd C dX7_cut_62 63 rfl ?_
        refine vv_mmin C kwX7_cut_3 kwX7_cut_4 kwX7_cut_5 kwX7_cut_6 ⟨Nat.le_of_ble_eq_true rfl, Nat.le_of_ble_eq_true rfl⟩ ⟨Nat.le_of_ble_eq_true rfl, Nat.le_of_ble_eq_true rfl⟩ dX7_cut_63 66 rfl ?_
        obtain ⟨hi, h⟩ := chk_s h
        refine vv_iast C (q0 := 3) (wX7_cut c M 0 M_waters M_windX M_windY M_barrels M_crew r5.1 r5.2 (wr M_numbers 1 (mmin 40 ((rd M_numbers 1) + 1)))) rfl hi rfl dX7_cut_66 67 rfl ?_
        refine vv_aload_n C dX7_cut_67 rfl 0 rfl 68 rfl ?_
        refine vv_get C (q0 := 0) (ci := 7) (k := 12) kinX7_cut_X7 rfl rfl (by decide) kwX7_cut_2 rfl rfl dX7_cut_68 71 rfl ?_
        refine vv_iconst C (v := 1) dX7_cut_71 (by decide) 72 rfl ?_
        obtain ⟨hi, h⟩ := chk_s h
        refine vv_iald C (q0 := 3) rfl hi dX7_cut_72 73 rfl ?_
        obtain rfl := Option.some.inj h
        exact ret _ _ dX7_cut_73
      · replace h := ite_t hc h
        refine vv_aload_n C dX7_cut_36 rfl 0 rfl 37 rfl ?_
        refine vv_iconst C (v := 2) dX7_cut_37 (by decide) 38 rfl ?_
        obtain ⟨r6, hr6, h⟩ := bnd_s h
        refine vv_callVi C (fun l => mt_X7_fail l D c M 0 M_waters M_windX M_windY M_barrels M_crew 2 r6 hr6) gX7_cut_X7_fail rfl rfl rfl yd_X7_fail ⟨Nat.le_of_ble_eq_true rfl, Nat.le_of_ble_eq_true rfl⟩ [0] rfl (by decide) 0 rfl rfl (wX7_cut c M r6.2 M_waters M_windX M_windY M_barrels M_crew M_strength M_wear M_numbers) [(true, 0), (false, 1), (false, 2), (false, 3)] rfl (by decide) rfl rfl [] rfl (Nat.le_of_ble_eq_true rfl) ⟨Nat.le_of_ble_eq_true rfl, Nat.le_of_ble_eq_true rfl⟩ dX7_cut_38 41 0 0 rfl ⟨rfl, rfl⟩ ?_
        obtain rfl := Option.some.inj h
        exact ret _ _ dX7_cut_41
    · replace h := ite_t hc h
      refine vv_aload_n C dX7_cut_21 rfl 0 rfl 22 rfl ?_
      refine vv_iconst C (v := 1) dX7_cut_22 (by decide) 23 rfl ?_
      obtain ⟨r7, hr7, h⟩ := bnd_s h
      refine vv_callVi C (fun l => mt_X7_fail l D c M 0 M_waters M_windX M_windY M_barrels M_crew 1 r7 hr7) gX7_cut_X7_fail rfl rfl rfl yd_X7_fail ⟨Nat.le_of_ble_eq_true rfl, Nat.le_of_ble_eq_true rfl⟩ [0] rfl (by decide) 0 rfl rfl (wX7_cut c M r7.2 M_waters M_windX M_windY M_barrels M_crew M_strength M_wear M_numbers) [(true, 0), (false, 1), (false, 2), (false, 3)] rfl (by decide) rfl rfl [] rfl (Nat.le_of_ble_eq_true rfl) ⟨Nat.le_of_ble_eq_true rfl, Nat.le_of_ble_eq_true rfl⟩ dX7_cut_23 26 0 0 rfl ⟨rfl, rfl⟩ ?_
      obtain rfl := Option.some.inj h
      exact ret _ _ dX7_cut_26
abbrev wX7_digest (c : Nat → ClassId) (M : Nat → Nat) (M_thrown : Int32) (M_waters : Int32) (M_windX : Int32) (M_windY : Int32) (M_barrels : Int32) (M_crew : Int32) (M_fixed : Nat → Int32) (M_table : Nat → Int32) (M_strength : Nat → Int32) (M_wear : Nat → Int32) (M_people : Nat → Int32) (M_numbers : Nat → Int32) (M_pieces : Nat → Int32) : va_W := [(M 0, .inr (7, [.int M_thrown, .int M_waters, .ref (M 1), .int M_windX, .int M_windY, .int M_barrels, .ref (M 2), .int M_crew, .ref (M 3), .ref (M 4), .ref (M 5), .ref (M 6), .ref (M 7), .ref (M 8), .ref (M 9), .ref (M 10), .ref (M 11), .ref (M 12)])), aI c (M 2) 72 M_fixed, aI c (M 3) 120 M_table, aI c (M 4) 576 M_strength, aI c (M 5) 576 M_wear, aI c (M 6) 16 M_people, aI c (M 7) 3 M_numbers, aI c (M 8) 24 M_pieces]
abbrev rmX7_digest : Room := { frames := 5, cells := 0, slots := 0, locals := 110 }
theorem yd_X7_digest : yX7_digest.cls = RX7 ∧ yX7_digest.cls ≠ "java/lang/invoke/MethodHandle" ∧ yX7_digest.cls ≠ "java/lang/invoke/VarHandle" ∧ (parseMethodDescriptor yX7_digest.desc).map (fun d => d.parameters.length) = some 0 := by decide +kernel
theorem kwX7_digest_1 : Cond.fieldLink RX7 47 "BarrelRaftModel" "thrown" "I" ∈ wsX7_digest := List.mem_of_getElem? (i := 1) rfl
set_option maxRecDepth 20000 in
theorem kinX7_digest_X7 : ∀ w ∈ u_ws RX7 TX7 18, w ∈ wsX7_digest := by decide +kernel
theorem kwX7_digest_2 : Cond.constantLong RX7 196 (571) ∈ wsX7_digest := List.mem_of_getElem? (i := 2) rfl
theorem kwX7_digest_3 : Cond.constantLong RX7 198 (31) ∈ wsX7_digest := List.mem_of_getElem? (i := 3) rfl
theorem kwX7_digest_4 : Cond.fieldLink RX7 51 "BarrelRaftModel" "barrels" "I" ∈ wsX7_digest := List.mem_of_getElem? (i := 4) rfl
theorem kwX7_digest_5 : Cond.fieldLink RX7 19 "BarrelRaftModel" "strength" "[I" ∈ wsX7_digest := List.mem_of_getElem? (i := 5) rfl
theorem kwX7_digest_6 : Cond.fieldLink RX7 22 "BarrelRaftModel" "wear" "[I" ∈ wsX7_digest := List.mem_of_getElem? (i := 6) rfl
theorem kwX7_digest_7 : Cond.fieldLink RX7 127 "BarrelRaftModel" "crew" "I" ∈ wsX7_digest := List.mem_of_getElem? (i := 7) rfl
theorem kwX7_digest_8 : Cond.fieldLink RX7 25 "BarrelRaftModel" "people" "[I" ∈ wsX7_digest := List.mem_of_getElem? (i := 8) rfl
def jX7_digest_L11 (M_barrels : Int32) (M_crew : Int32) (M_table : Nat → Int32) (M_strength : Nat → Int32) (M_people : Nat → Int32) (M_numbers : Nat → Int32) (n : Nat) (M_pieces_11 : Nat → Int32) (v1_11 : Int64) (v3_11 : Int32) : Option ((Nat → Int32) × Int64) :=
  match n with
  | 0 => none
  | n + 1 => (if 12 ≤ v3_11 then some (M_pieces_11, v1_11) else bnd (jX7_counted M_barrels M_crew M_table M_strength M_people M_numbers M_pieces_11 v3_11) (fun r1 => jX7_digest_L11 M_barrels M_crew M_table M_strength M_people M_numbers n r1.2 ((v1_11 * (31 : Int64)) + r1.1.toInt64) (v3_11 + 1)))
def jX7_digest_L49 (M_barrels : Int32) (M_crew : Int32) (M_fixed : Nat → Int32) (M_table : Nat → Int32) (M_strength : Nat → Int32) (M_people : Nat → Int32) (u3 : Int32) (n : Nat) (M_pieces_49 : Nat → Int32) (v1_49 : Int64) (v4_49 : Int32) : Option ((Nat → Int32) × Int64) :=
  match n with
  | 0 => none
  | n + 1 => (if 13 ≤ v4_49 then some (M_pieces_49, v1_49) else bnd (jX7_barrelTold M_barrels M_crew M_fixed M_table M_strength M_people M_pieces_49 u3 v4_49) (fun r3 => jX7_digest_L49 M_barrels M_crew M_fixed M_table M_strength M_people u3 n r3.2 ((v1_49 * (31 : Int64)) + r3.1.toInt64) (v4_49 + 1)))
def jX7_digest_L38 (M_barrels : Int32) (M_crew : Int32) (M_fixed : Nat → Int32) (M_table : Nat → Int32) (M_strength : Nat → Int32) (M_people : Nat → Int32) (n : Nat) (M_pieces_38 : Nat → Int32) (v1_38 : Int64) (v3_38 : Int32) : Option ((Nat → Int32) × Int64) :=
  match n with
  | 0 => none
  | n + 1 => (if M_barrels ≤ v3_38 then some (M_pieces_38, v1_38) else bnd (jX7_digest_L49 M_barrels M_crew M_fixed M_table M_strength M_people v3_38 FU M_pieces_38 v1_38 0) (fun r4 => jX7_digest_L38 M_barrels M_crew M_fixed M_table M_strength M_people n r4.1 r4.2 (v3_38 + 1)))
def jX7_digest_L85 (M_strength : Nat → Int32) (M_wear : Nat → Int32) (n : Nat) (v1_85 : Int64) (v3_85 : Int32) : Option (Int64) :=
  match n with
  | 0 => none
  | n + 1 => (if 576 ≤ v3_85 then some v1_85 else chk 576 v3_85 ((if rd M_strength v3_85 ≤ 0 then jX7_digest_L85 M_strength M_wear n v1_85 (v3_85 + 1) else chk 576 v3_85 (chk 576 v3_85 (jX7_digest_L85 M_strength M_wear n ((((((((v1_85 * (31 : Int64)) + ((v3_85 / 24).toInt64)) * (31 : Int64)) + ((v3_85 - v3_85 / 24 * 24).toInt64)) * (31 : Int64)) + ((rd M_strength v3_85).toInt64)) * (31 : Int64)) + ((rd M_wear v3_85).toInt64)) (v3_85 + 1))))))
def jX7_digest_L166 (M_people : Nat → Int32) (u3 : Int32) (n : Nat) (v1_166 : Int64) (v4_166 : Int32) : Option (Int64) :=
  match n with
  | 0 => none
  | n + 1 => (if 2 ≤ v4_166 then some v1_166 else chk 16 ((2 * u3) + v4_166) (jX7_digest_L166 M_people u3 n ((v1_166 * (31 : Int64)) + ((rd M_people ((2 * u3) + v4_166)).toInt64)) (v4_166 + 1)))
def jX7_digest_L155 (M_crew : Int32) (M_people : Nat → Int32) (n : Nat) (v1_155 : Int64) (v3_155 : Int32) : Option (Int64) :=
  match n with
  | 0 => none
  | n + 1 => (if M_crew ≤ v3_155 then some v1_155 else bnd (jX7_digest_L166 M_people v3_155 FU v1_155 0) (fun r7 => jX7_digest_L155 M_crew M_people n r7 (v3_155 + 1)))
def jX7_digest (M_thrown : Int32) (M_barrels : Int32) (M_crew : Int32) (M_fixed : Nat → Int32) (M_table : Nat → Int32) (M_strength : Nat → Int32) (M_wear : Nat → Int32) (M_people : Nat → Int32) (M_numbers : Nat → Int32) (M_pieces : Nat → Int32) : Option (Int64 × Int32 × (Nat → Int32)) :=
  bnd (jX7_digest_L11 M_barrels M_crew M_table M_strength M_people M_numbers FU M_pieces (571 : Int64) 0) (fun r2 => bnd (jX7_digest_L38 M_barrels M_crew M_fixed M_table M_strength M_people FU r2.1 r2.2 0) (fun r5 => bnd (jX7_digest_L85 M_strength M_wear FU r5.2 0) (fun r6 => bnd (jX7_digest_L155 M_crew M_people FU r6 0) (fun r8 => some (r8, 0, r5.1)))))
set_option maxHeartbeats 4000000 in
set_option maxRecDepth 100000 in
theorem mt_X7_digest (l : Launch) (D : va_G) (c : Nat → ClassId) (M : Nat → Nat) (M_thrown : Int32) (M_waters : Int32) (M_windX : Int32) (M_windY : Int32) (M_barrels : Int32) (M_crew : Int32) (M_fixed : Nat → Int32) (M_table : Nat → Int32) (M_strength : Nat → Int32) (M_wear : Nat → Int32) (M_people : Nat → Int32) (M_numbers : Nat → Int32) (M_pieces : Nat → Int32) (q0 : Int64 × Int32 × (Nat → Int32)) (h : jX7_digest M_thrown M_barrels M_crew M_fixed M_table M_strength M_wear M_people M_numbers M_pieces = some q0) : DTl l yX7_digest wsX7_digest rmX7_digest D c (wX7_digest c M M_thrown M_waters M_windX M_windY M_barrels M_crew M_fixed M_table M_strength M_wear M_people M_numbers M_pieces) [.ref (M 0)] q0.1 (wX7_digest c M q0.2.1 M_waters M_windX M_windY M_barrels M_crew M_fixed M_table M_strength M_wear M_people M_numbers q0.2.2) 0 0 := by
  refine DTl_of (cc := cX7_digest) (nL := 5) RX7 rfl (by decide) rfl (Nat.le_of_ble_eq_true rfl) (fun g C ret => ?_)
  unfold jX7_digest at h
  refine vv_lv [0] [(0, .ref (M 0))] rfl ?_
  refine vv_aload_n C dX7_digest_0 rfl 0 rfl 1 rfl ?_
  refine vv_iconst C (v := 0) dX7_digest_1 (by decide) 2 rfl ?_
  refine vv_put C (q0 := 0) (ci := 7) (k := 0) (ty := .int) (wX7_digest c M 0 M_waters M_windX M_windY M_barrels M_crew M_fixed M_table M_strength M_wear M_people M_numbers M_pieces) tyX7 tyX7_ok nmX7 kinX7_digest_X7 rfl rfl (by decide) kwX7_digest_1 rfl rfl rfl rfl rfl (Nat.le_of_ble_eq_true rfl) rfl dX7_digest_2 5 rfl ?_
  refine vv_ldc2 C dX7_digest_5 kwX7_digest_2 8 rfl ?_
  refine vv_lstore_n C [(1, .long (571 : Int64)), (0, .ref (M 0))] dX7_digest_8 rfl (by decide) rfl 9 rfl ?_
  refine vv_iconst C (v := 0) dX7_digest_9 (by decide) 10 rfl ?_
  refine vv_istore_n C [(3, .int 0), (1, .long (571 : Int64)), (0, .ref (M 0))] dX7_digest_10 rfl (by decide) rfl 11 rfl ?_
  refine vv_lv [2, 1, 0] [(0, .ref (M 0)), (1, .long (571 : Int64)), (3, .int 0)] rfl ?_
  have L11 : ∀ (n : Nat) (M_pieces_11 : Nat → Int32) (v1_11 : Int64) (v3_11 : Int32) (q11 : (Nat → Int32) × Int64), jX7_digest_L11 M_barrels M_crew M_table M_strength M_people M_numbers n M_pieces_11 v1_11 v3_11 = some q11 → (VV g D 5 0 0 (wX7_digest c M 0 M_waters M_windX M_windY M_barrels M_crew M_fixed M_table M_strength M_wear M_people M_numbers q11.1) [(0, .ref (M 0)), (1, .long q11.2)] 36 []) → VV g D 5 0 0 (wX7_digest c M 0 M_waters M_windX M_windY M_barrels M_crew M_fixed M_table M_strength M_wear M_people M_numbers M_pieces_11) [(0, .ref (M 0)), (1, .long v1_11), (3, .int v3_11)] 11 [] := by
    intro n
    induction n with
    | zero =>
      intro M_pieces_11 v1_11 v3_11 q11 h _
      rw [jX7_digest_L11] at h
      cases h
    | succ n ih11 =>
      intro M_pieces_11 v1_11 v3_11 q11 h kk11
      rw [jX7_digest_L11] at h
      refine vv_iload_n C dX7_digest_11 rfl 2 rfl 12 rfl ?_
      refine vv_bipush C (v := 12) dX7_digest_12 (by decide) 14 rfl ?_
      refine vv_icmp_ge C 36 17 dX7_digest_14 (by decide) rfl (fun hc => ?_) (fun hc => ?_)
      · replace h := ite_t hc h
        refine vv_lv [0, 1] [(0, .ref (M 0)), (1, .long v1_11)] rfl ?_
        obtain rfl := Option.some.inj h
        exact kk11
      · replace h := ite_f hc h
        refine vv_lload_n C dX7_digest_17 rfl 1 rfl 18 rfl ?_
        refine vv_ldc2 C dX7_digest_18 kwX7_digest_3 21 rfl ?_
        refine vv_lmul C dX7_digest_21 22 rfl ?_
        refine vv_aload_n C dX7_digest_22 rfl 0 rfl 23 rfl ?_
        refine vv_iload_n C dX7_digest_23 rfl 2 rfl 24 rfl ?_
        obtain ⟨r1, hr1, h⟩ := bnd_s h
        refine vv_callVi C (fun l => mt_X7_counted l D c M 0 M_waters M_windX M_windY M_barrels M_crew M_table M_strength M_people M_numbers M_pieces_11 v3_11 r1 hr1) gX7_digest_X7_counted rfl rfl rfl yd_X7_counted ⟨Nat.le_of_ble_eq_true rfl, Nat.le_of_ble_eq_true rfl⟩ [0, 2, 3, 5, 6, 7] rfl (by decide) 0 rfl rfl (wX7_digest c M 0 M_waters M_windX M_windY M_barrels M_crew M_fixed M_table M_strength M_wear M_people M_numbers r1.2) [(true, 0), (false, 1), (true, 1), (true, 2), (false, 4), (true, 3), (true, 4), (true, 5)] rfl (by decide) rfl rfl [.long (v1_11 * (31 : Int64))] rfl (Nat.le_of_ble_eq_true rfl) ⟨Nat.le_of_ble_eq_true rfl, Nat.le_of_ble_eq_true rfl⟩ dX7_digest_24 27 0 0 rfl ⟨rfl, rfl⟩ ?_
        refine vv_i2l C dX7_digest_27 28 rfl ?_
        refine vv_ladd C dX7_digest_28 29 rfl ?_
        refine vv_lstore_n C [(1, .long ((v1_11 * (31 : Int64)) + r1.1.toInt64)), (0, .ref (M 0)), (3, .int v3_11)] dX7_digest_29 rfl (by decide) rfl 30 rfl ?_
        refine vv_iinc C (k := 2) [(3, .int (v3_11 + 1)), (1, .long ((v1_11 * (31 : Int64)) + r1.1.toInt64)), (0, .ref (M 0))] dX7_digest_30 rfl rfl (by decide) rfl 33 rfl ?_
        refine vv_goto C 11 dX7_digest_33 (by decide) ?_
        refine vv_lv [2, 1, 0] [(0, .ref (M 0)), (1, .long ((v1_11 * (31 : Int64)) + r1.1.toInt64)), (3, .int (v3_11 + 1))] rfl ?_
        exact ih11 r1.2 ((v1_11 * (31 : Int64)) + r1.1.toInt64) (v3_11 + 1) _ h kk11
  obtain ⟨r2, hr2, h⟩ := bnd_s h
  refine L11 FU M_pieces (571 : Int64) 0 r2 hr2 ?_
  refine vv_iconst C (v := 0) dX7_digest_36 (by decide) 37 rfl ?_
  refine vv_istore_n C [(3, .int 0), (0, .ref (M 0)), (1, .long r2.2)] dX7_digest_37 rfl (by decide) rfl 38 rfl ?_
  refine vv_lv [1, 2, 0] [(0, .ref (M 0)), (1, .long r2.2), (3, .int 0)] rfl ?_
  have L38 : ∀ (n : Nat) (M_pieces_38 : Nat → Int32) (v1_38 : Int64) (v3_38 : Int32) (q38 : (Nat → Int32) × Int64), jX7_digest_L38 M_barrels M_crew M_fixed M_table M_strength M_people n M_pieces_38 v1_38 v3_38 = some q38 → (VV g D 5 0 0 (wX7_digest c M 0 M_waters M_windX M_windY M_barrels M_crew M_fixed M_table M_strength M_wear M_people M_numbers q38.1) [(0, .ref (M 0)), (1, .long q38.2)] 83 []) → VV g D 5 0 0 (wX7_digest c M 0 M_waters M_windX M_windY M_barrels M_crew M_fixed M_table M_strength M_wear M_people M_numbers M_pieces_38) [(0, .ref (M 0)), (1, .long v1_38), (3, .int v3_38)] 38 [] := by
    intro n
    induction n with
    | zero =>
      intro M_pieces_38 v1_38 v3_38 q38 h _
      rw [jX7_digest_L38] at h
      cases h
    | succ n ih38 =>
      intro M_pieces_38 v1_38 v3_38 q38 h kk38
      rw [jX7_digest_L38] at h
      refine vv_iload_n C dX7_digest_38 rfl 2 rfl 39 rfl ?_
      refine vv_aload_n C dX7_digest_39 rfl 0 rfl 40 rfl ?_
      refine vv_get C (q0 := 0) (ci := 7) (k := 5) kinX7_digest_X7 rfl rfl (by decide) kwX7_digest_4 rfl rfl dX7_digest_40 43 rfl ?_
      refine vv_icmp_ge C 83 46 dX7_digest_43 (by decide) rfl (fun hc => ?_) (fun hc => ?_)
      · replace h := ite_t hc h
        refine vv_lv [0, 1] [(0, .ref (M 0)), (1, .long v1_38)] rfl ?_
        obtain rfl := Option.some.inj h
        exact kk38
      · replace h := ite_f hc h
        refine vv_iconst C (v := 0) dX7_digest_46 (by decide) 47 rfl ?_
        refine vv_istore C [(4, .int 0), (0, .ref (M 0)), (1, .long v1_38), (3, .int v3_38)] dX7_digest_47 (by decide) rfl 49 rfl ?_
        refine vv_lv [1, 2, 3, 0] [(0, .ref (M 0)), (1, .long v1_38), (3, .int v3_38), (4, .int 0)] rfl ?_
        have L49 : ∀ (n : Nat) (M_pieces_49 : Nat → Int32) (v1_49 : Int64) (v4_49 : Int32) (q49 : (Nat → Int32) × Int64), jX7_digest_L49 M_barrels M_crew M_fixed M_table M_strength M_people v3_38 n M_pieces_49 v1_49 v4_49 = some q49 → (VV g D 5 0 0 (wX7_digest c M 0 M_waters M_windX M_windY M_barrels M_crew M_fixed M_table M_strength M_wear M_people M_numbers q49.1) [(0, .ref (M 0)), (1, .long q49.2), (3, .int v3_38)] 77 []) → VV g D 5 0 0 (wX7_digest c M 0 M_waters M_windX M_windY M_barrels M_crew M_fixed M_table M_strength M_wear M_people M_numbers M_pieces_49) [(0, .ref (M 0)), (1, .long v1_49), (3, .int v3_38), (4, .int v4_49)] 49 [] := by
          intro n
          induction n with
          | zero =>
            intro M_pieces_49 v1_49 v4_49 q49 h _
            rw [jX7_digest_L49] at h
            cases h
          | succ n ih49 =>
            intro M_pieces_49 v1_49 v4_49 q49 h kk49
            rw [jX7_digest_L49] at h
            refine vv_iload C dX7_digest_49 3 rfl 51 rfl ?_
            refine vv_bipush C (v := 13) dX7_digest_51 (by decide) 53 rfl ?_
            refine vv_icmp_ge C 77 56 dX7_digest_53 (by decide) rfl (fun hc => ?_) (fun hc => ?_)
            · replace h := ite_t hc h
              refine vv_lv [0, 1, 2] [(0, .ref (M 0)), (1, .long v1_49), (3, .int v3_38)] rfl ?_
              obtain rfl := Option.some.inj h
              exact kk49
            · replace h := ite_f hc h
              refine vv_lload_n C dX7_digest_56 rfl 1 rfl 57 rfl ?_
              refine vv_ldc2 C dX7_digest_57 kwX7_digest_3 60 rfl ?_
              refine vv_lmul C dX7_digest_60 61 rfl ?_
              refine vv_aload_n C dX7_digest_61 rfl 0 rfl 62 rfl ?_
              refine vv_iload_n C dX7_digest_62 rfl 2 rfl 63 rfl ?_
              refine vv_iload C dX7_digest_63 3 rfl 65 rfl ?_
              obtain ⟨r3, hr3, h⟩ := bnd_s h
              refine vv_callVi C (fun l => mt_X7_barrelTold l D c M 0 M_waters M_windX M_windY M_barrels M_crew M_fixed M_table M_strength M_people M_pieces_49 v3_38 v4_49 r3 hr3) gX7_digest_X7_barrelTold rfl rfl rfl yd_X7_barrelTold ⟨Nat.le_of_ble_eq_true rfl, Nat.le_of_ble_eq_true rfl⟩ [0, 1, 2, 3, 5, 7] rfl (by decide) 0 rfl rfl (wX7_digest c M 0 M_waters M_windX M_windY M_barrels M_crew M_fixed M_table M_strength M_wear M_people M_numbers r3.2) [(true, 0), (true, 1), (true, 2), (true, 3), (false, 4), (true, 4), (false, 6), (true, 5)] rfl (by decide) rfl rfl [.long (v1_49 * (31 : Int64))] rfl (Nat.le_of_ble_eq_true rfl) ⟨Nat.le_of_ble_eq_true rfl, Nat.le_of_ble_eq_true rfl⟩ dX7_digest_65 68 0 0 rfl ⟨rfl, rfl⟩ ?_
              refine vv_i2l C dX7_digest_68 69 rfl ?_
              refine vv_ladd C dX7_digest_69 70 rfl ?_
              refine vv_lstore_n C [(1, .long ((v1_49 * (31 : Int64)) + r3.1.toInt64)), (0, .ref (M 0)), (3, .int v3_38), (4, .int v4_49)] dX7_digest_70 rfl (by decide) rfl 71 rfl ?_
              refine vv_iinc C (k := 3) [(4, .int (v4_49 + 1)), (1, .long ((v1_49 * (31 : Int64)) + r3.1.toInt64)), (0, .ref (M 0)), (3, .int v3_38)] dX7_digest_71 rfl rfl (by decide) rfl 74 rfl ?_
              refine vv_goto C 49 dX7_digest_74 (by decide) ?_
              refine vv_lv [2, 1, 3, 0] [(0, .ref (M 0)), (1, .long ((v1_49 * (31 : Int64)) + r3.1.toInt64)), (3, .int v3_38), (4, .int (v4_49 + 1))] rfl ?_
              exact ih49 r3.2 ((v1_49 * (31 : Int64)) + r3.1.toInt64) (v4_49 + 1) _ h kk49
        obtain ⟨r4, hr4, h⟩ := bnd_s h
        refine L49 FU M_pieces_38 v1_38 0 r4 hr4 ?_
        refine vv_iinc C (k := 2) [(3, .int (v3_38 + 1)), (0, .ref (M 0)), (1, .long r4.2)] dX7_digest_77 rfl rfl (by decide) rfl 80 rfl ?_
        refine vv_goto C 38 dX7_digest_80 (by decide) ?_
        refine vv_lv [1, 2, 0] [(0, .ref (M 0)), (1, .long r4.2), (3, .int (v3_38 + 1))] rfl ?_
        exact ih38 r4.1 r4.2 (v3_38 + 1) _ h kk38
  obtain ⟨r5, hr5, h⟩ := bnd_s h
  refine L38 FU r2.1 r2.2 0 r5 hr5 ?_
  refine vv_iconst C (v := 0) dX7_digest_83 (by decide) 84 rfl ?_
  refine vv_istore_n C [(3, .int 0), (0, .ref (M 0)), (1, .long r5.2)] dX7_digest_84 rfl (by decide) rfl 85 rfl ?_
  refine vv_lv [1, 2, 0] [(0, .ref (M 0)), (1, .long r5.2), (3, .int 0)] rfl ?_
  have L85 : ∀ (n : Nat) (v1_85 : Int64) (v3_85 : Int32) (q85 : Int64), jX7_digest_L85 M_strength M_wear n v1_85 v3_85 = some q85 → (VV g D 5 0 0 (wX7_digest c M 0 M_waters M_windX M_windY M_barrels M_crew M_fixed M_table M_strength M_wear M_people M_numbers r5.1) [(0, .ref (M 0)), (1, .long q85)] 153 []) → VV g D 5 0 0 (wX7_digest c M 0 M_waters M_windX M_windY M_barrels M_crew M_fixed M_table M_strength M_wear M_people M_numbers r5.1) [(0, .ref (M 0)), (1, .long v1_85), (3, .int v3_85)] 85 [] := by
    intro n
    induction n with
    | zero =>
      intro v1_85 v3_85 q85 h _
      rw [jX7_digest_L85] at h
      cases h
    | succ n ih85 =>
      intro v1_85 v3_85 q85 h kk85
      rw [jX7_digest_L85] at h
      refine vv_iload_n C dX7_digest_85 rfl 2 rfl 86 rfl ?_
      refine vv_sipush C (v := 576) dX7_digest_86 (by decide) 89 rfl ?_
      refine vv_icmp_ge C 153 92 dX7_digest_89 (by decide) rfl (fun hc => ?_) (fun hc => ?_)
      · replace h := ite_t hc h
        refine vv_lv [0, 1] [(0, .ref (M 0)), (1, .long v1_85)] rfl ?_
        obtain rfl := Option.some.inj h
        exact kk85
      · replace h := ite_f hc h
        refine vv_aload_n C dX7_digest_92 rfl 0 rfl 93 rfl ?_
        refine vv_get C (q0 := 0) (ci := 7) (k := 9) kinX7_digest_X7 rfl rfl (by decide) kwX7_digest_5 rfl rfl dX7_digest_93 96 rfl ?_
        refine vv_iload_n C dX7_digest_96 rfl 2 rfl 97 rfl ?_
        obtain ⟨hi, h⟩ := chk_s h
        refine vv_iald C (q0 := 3) rfl hi dX7_digest_97 98 rfl ?_
        refine vv_if_le C 147 101 dX7_digest_98 (by decide) rfl (fun hc => ?_) (fun hc => ?_)
        · replace h := ite_t hc h
          refine vv_iinc C (k := 2) [(3, .int (v3_85 + 1)), (0, .ref (M 0)), (1, .long v1_85)] dX7_digest_147 rfl rfl (by decide) rfl 150 rfl ?_
          refine vv_goto C 85 dX7_digest_150 (by decide) ?_
          refine vv_lv [1, 2, 0] [(0, .ref (M 0)), (1, .long v1_85), (3, .int (v3_85 + 1))] rfl ?_
          exact ih85 v1_85 (v3_85 + 1) _ h kk85
        · replace h := ite_f hc h
          refine vv_lload_n C dX7_digest_101 rfl 1 rfl 102 rfl ?_
          refine vv_ldc2 C dX7_digest_102 kwX7_digest_3 105 rfl ?_
          refine vv_lmul C dX7_digest_105 106 rfl ?_
          refine vv_iload_n C dX7_digest_106 rfl 2 rfl 107 rfl ?_
          refine vv_bipush C (v := 24) dX7_digest_107 (by decide) 109 rfl ?_
          refine vv_idiv C dX7_digest_109 (by decide) 110 rfl ?_
          refine vv_i2l C dX7_digest_110 111 rfl ?_
          refine vv_ladd C dX7_digest_111 112 rfl ?_
          refine vv_ldc2 C dX7_digest_112 kwX7_digest_3 115 rfl ?_
          refine vv_lmul C dX7_digest_115 116 rfl ?_
          refine vv_iload_n C dX7_digest_116 rfl 2 rfl 117 rfl ?_
          refine vv_bipush C (v := 24) dX7_digest_117 (by decide) 119 rfl ?_
          refine vv_irem C dX7_digest_119 (by decide) 120 rfl ?_
          refine vv_i2l C dX7_digest_120 121 rfl ?_
          refine vv_ladd C dX7_digest_121 122 rfl ?_
          refine vv_ldc2 C dX7_digest_122 kwX7_digest_3 125 rfl ?_
          refine vv_lmul C dX7_digest_125 126 rfl ?_
          refine vv_aload_n C dX7_digest_126 rfl 0 rfl 127 rfl ?_
          refine vv_get C (q0 := 0) (ci := 7) (k := 9) kinX7_digest_X7 rfl rfl (by decide) kwX7_digest_5 rfl rfl dX7_digest_127 130 rfl ?_
          refine vv_iload_n C dX7_digest_130 rfl 2 rfl 131 rfl ?_
          obtain ⟨hi, h⟩ := chk_s h
          refine vv_iald C (q0 := 3) rfl hi dX7_digest_131 132 rfl ?_
          refine vv_i2l C dX7_digest_132 133 rfl ?_
          refine vv_ladd C dX7_digest_133 134 rfl ?_
          refine vv_ldc2 C dX7_digest_134 kwX7_digest_3 137 rfl ?_
          refine vv_lmul C dX7_digest_137 138 rfl ?_
          refine vv_aload_n C dX7_digest_138 rfl 0 rfl 139 rfl ?_
          refine vv_get C (q0 := 0) (ci := 7) (k := 10) kinX7_digest_X7 rfl rfl (by decide) kwX7_digest_6 rfl rfl dX7_digest_139 142 rfl ?_
          refine vv_iload_n C dX7_digest_142 rfl 2 rfl 143 rfl ?_
          obtain ⟨hi, h⟩ := chk_s h
          refine vv_iald C (q0 := 4) rfl hi dX7_digest_143 144 rfl ?_
          refine vv_i2l C dX7_digest_144 145 rfl ?_
          refine vv_ladd C dX7_digest_145 146 rfl ?_
          refine vv_lstore_n C [(1, .long ((((((((v1_85 * (31 : Int64)) + ((v3_85 / 24).toInt64)) * (31 : Int64)) + ((v3_85 - v3_85 / 24 * 24).toInt64)) * (31 : Int64)) + ((rd M_strength v3_85).toInt64)) * (31 : Int64)) + ((rd M_wear v3_85).toInt64))), (0, .ref (M 0)), (3, .int v3_85)] dX7_digest_146 rfl (by decide) rfl 147 rfl ?_
          refine vv_iinc C (k := 2) [(3, .int (v3_85 + 1)), (1, .long ((((((((v1_85 * (31 : Int64)) + ((v3_85 / 24).toInt64)) * (31 : Int64)) + ((v3_85 - v3_85 / 24 * 24).toInt64)) * (31 : Int64)) + ((rd M_strength v3_85).toInt64)) * (31 : Int64)) + ((rd M_wear v3_85).toInt64))), (0, .ref (M 0))] dX7_digest_147 rfl rfl (by decide) rfl 150 rfl ?_
          refine vv_goto C 85 dX7_digest_150 (by decide) ?_
          refine vv_lv [2, 1, 0] [(0, .ref (M 0)), (1, .long ((((((((v1_85 * (31 : Int64)) + ((v3_85 / 24).toInt64)) * (31 : Int64)) + ((v3_85 - v3_85 / 24 * 24).toInt64)) * (31 : Int64)) + ((rd M_strength v3_85).toInt64)) * (31 : Int64)) + ((rd M_wear v3_85).toInt64))), (3, .int (v3_85 + 1))] rfl ?_
          exact ih85 ((((((((v1_85 * (31 : Int64)) + ((v3_85 / 24).toInt64)) * (31 : Int64)) + ((v3_85 - v3_85 / 24 * 24).toInt64)) * (31 : Int64)) + ((rd M_strength v3_85).toInt64)) * (31 : Int64)) + ((rd M_wear v3_85).toInt64)) (v3_85 + 1) _ h kk85
  obtain ⟨r6, hr6, h⟩ := bnd_s h
  refine L85 FU r5.2 0 r6 hr6 ?_
  refine vv_iconst C (v := 0) dX7_digest_153 (by decide) 154 rfl ?_
  refine vv_istore_n C [(3, .int 0), (0, .ref (M 0)), (1, .long r6)] dX7_digest_154 rfl (by decide) rfl 155 rfl ?_
  refine vv_lv [1, 2, 0] [(0, .ref (M 0)), (1, .long r6), (3, .int 0)] rfl ?_
  have L155 : ∀ (n : Nat) (v1_155 : Int64) (v3_155 : Int32) (q155 : Int64), jX7_digest_L155 M_crew M_people n v1_155 v3_155 = some q155 → (VV g D 5 0 0 (wX7_digest c M 0 M_waters M_windX M_windY M_barrels M_crew M_fixed M_table M_strength M_wear M_people M_numbers r5.1) [(1, .long q155)] 203 []) → VV g D 5 0 0 (wX7_digest c M 0 M_waters M_windX M_windY M_barrels M_crew M_fixed M_table M_strength M_wear M_people M_numbers r5.1) [(0, .ref (M 0)), (1, .long v1_155), (3, .int v3_155)] 155 [] := by
    intro n
    induction n with
    | zero =>
      intro v1_155 v3_155 q155 h _
      rw [jX7_digest_L155] at h
      cases h
    | succ n ih155 =>
      intro v1_155 v3_155 q155 h kk155
      rw [jX7_digest_L155] at h
      refine vv_iload_n C dX7_digest_155 rfl 2 rfl 156 rfl ?_
      refine vv_aload_n C dX7_digest_156 rfl 0 rfl 157 rfl ?_
      refine vv_get C (q0 := 0) (ci := 7) (k := 7) kinX7_digest_X7 rfl rfl (by decide) kwX7_digest_7 rfl rfl dX7_digest_157 160 rfl ?_
      refine vv_icmp_ge C 203 163 dX7_digest_160 (by decide) rfl (fun hc => ?_) (fun hc => ?_)
      · replace h := ite_t hc h
        refine vv_lv [1] [(1, .long v1_155)] rfl ?_
        obtain rfl := Option.some.inj h
        exact kk155
      · replace h := ite_f hc h
        refine vv_iconst C (v := 0) dX7_digest_163 (by decide) 164 rfl ?_
        refine vv_istore C [(4, .int 0), (0, .ref (M 0)), (1, .long v1_155), (3, .int v3_155)] dX7_digest_164 (by decide) rfl 166 rfl ?_
        refine vv_lv [1, 2, 3, 0] [(0, .ref (M 0)), (1, .long v1_155), (3, .int v3_155), (4, .int 0)] rfl ?_
        have L166 : ∀ (n : Nat) (v1_166 : Int64) (v4_166 : Int32) (q166 : Int64), jX7_digest_L166 M_people v3_155 n v1_166 v4_166 = some q166 → (VV g D 5 0 0 (wX7_digest c M 0 M_waters M_windX M_windY M_barrels M_crew M_fixed M_table M_strength M_wear M_people M_numbers r5.1) [(0, .ref (M 0)), (1, .long q166), (3, .int v3_155)] 197 []) → VV g D 5 0 0 (wX7_digest c M 0 M_waters M_windX M_windY M_barrels M_crew M_fixed M_table M_strength M_wear M_people M_numbers r5.1) [(0, .ref (M 0)), (1, .long v1_166), (3, .int v3_155), (4, .int v4_166)] 166 [] := by
          intro n
          induction n with
          | zero =>
            intro v1_166 v4_166 q166 h _
            rw [jX7_digest_L166] at h
            cases h
          | succ n ih166 =>
            intro v1_166 v4_166 q166 h kk166
            rw [jX7_digest_L166] at h
            refine vv_iload C dX7_digest_166 3 rfl 168 rfl ?_
            refine vv_iconst C (v := 2) dX7_digest_168 (by decide) 169 rfl ?_
            refine vv_icmp_ge C 197 172 dX7_digest_169 (by decide) rfl (fun hc => ?_) (fun hc => ?_)
            · replace h := ite_t hc h
              refine vv_lv [0, 1, 2] [(0, .ref (M 0)), (1, .long v1_166), (3, .int v3_155)] rfl ?_
              obtain rfl := Option.some.inj h
              exact kk166
            · replace h := ite_f hc h
              refine vv_lload_n C dX7_digest_172 rfl 1 rfl 173 rfl ?_
              refine vv_ldc2 C dX7_digest_173 kwX7_digest_3 176 rfl ?_
              refine vv_lmul C dX7_digest_176 177 rfl ?_
              refine vv_aload_n C dX7_digest_177 rfl 0 rfl 178 rfl ?_
              refine vv_get C (q0 := 0) (ci := 7) (k := 11) kinX7_digest_X7 rfl rfl (by decide) kwX7_digest_8 rfl rfl dX7_digest_178 181 rfl ?_
              refine vv_iconst C (v := 2) dX7_digest_181 (by decide) 182 rfl ?_
              refine vv_iload_n C dX7_digest_182 rfl 2 rfl 183 rfl ?_
              refine vv_imul C dX7_digest_183 184 rfl ?_
              refine vv_iload C dX7_digest_184 3 rfl 186 rfl ?_
              refine vv_iadd C dX7_digest_186 187 rfl ?_
              obtain ⟨hi, h⟩ := chk_s h
              refine vv_iald C (q0 := 5) rfl hi dX7_digest_187 188 rfl ?_
              refine vv_i2l C dX7_digest_188 189 rfl ?_
              refine vv_ladd C dX7_digest_189 190 rfl ?_
              refine vv_lstore_n C [(1, .long ((v1_166 * (31 : Int64)) + ((rd M_people ((2 * v3_155) + v4_166)).toInt64))), (0, .ref (M 0)), (3, .int v3_155), (4, .int v4_166)] dX7_digest_190 rfl (by decide) rfl 191 rfl ?_
              refine vv_iinc C (k := 3) [(4, .int (v4_166 + 1)), (1, .long ((v1_166 * (31 : Int64)) + ((rd M_people ((2 * v3_155) + v4_166)).toInt64))), (0, .ref (M 0)), (3, .int v3_155)] dX7_digest_191 rfl rfl (by decide) rfl 194 rfl ?_
              refine vv_goto C 166 dX7_digest_194 (by decide) ?_
              refine vv_lv [2, 1, 3, 0] [(0, .ref (M 0)), (1, .long ((v1_166 * (31 : Int64)) + ((rd M_people ((2 * v3_155) + v4_166)).toInt64))), (3, .int v3_155), (4, .int (v4_166 + 1))] rfl ?_
              exact ih166 ((v1_166 * (31 : Int64)) + ((rd M_people ((2 * v3_155) + v4_166)).toInt64)) (v4_166 + 1) _ h kk166
        obtain ⟨r7, hr7, h⟩ := bnd_s h
        refine L166 FU v1_155 0 r7 hr7 ?_
        refine vv_iinc C (k := 2) [(3, .int (v3_155 + 1)), (0, .ref (M 0)), (1, .long r7)] dX7_digest_197 rfl rfl (by decide) rfl 200 rfl ?_
        refine vv_goto C 155 dX7_digest_200 (by decide) ?_
        refine vv_lv [1, 2, 0] [(0, .ref (M 0)), (1, .long r7), (3, .int (v3_155 + 1))] rfl ?_
        exact ih155 r7 (v3_155 + 1) _ h kk155
  obtain ⟨r8, hr8, h⟩ := bnd_s h
  refine L155 FU r6 0 r8 hr8 ?_
  refine vv_lload_n C dX7_digest_203 rfl 0 rfl 204 rfl ?_
  obtain rfl := Option.some.inj h
  exact ret _ _ dX7_digest_204
abbrev wX7_end (c : Nat → ClassId) (M : Nat → Nat) (M_thrown : Int32) (M_waters : Int32) (M_windX : Int32) (M_windY : Int32) (M_barrels : Int32) (M_crew : Int32) (M_table : Nat → Int32) (M_strength : Nat → Int32) (M_wear : Nat → Int32) (M_people : Nat → Int32) (M_pieces : Nat → Int32) : va_W := [(M 0, .inr (7, [.int M_thrown, .int M_waters, .ref (M 1), .int M_windX, .int M_windY, .int M_barrels, .ref (M 2), .int M_crew, .ref (M 3), .ref (M 4), .ref (M 5), .ref (M 6), .ref (M 7), .ref (M 8), .ref (M 9), .ref (M 10), .ref (M 11), .ref (M 12)])), aI c (M 3) 120 M_table, aI c (M 4) 576 M_strength, aI c (M 5) 576 M_wear, aI c (M 6) 16 M_people, aI c (M 8) 24 M_pieces]
abbrev rmX7_end : Room := { frames := 3, cells := 0, slots := 0, locals := 64 }
theorem yd_X7_end : yX7_end.cls = RX7 ∧ yX7_end.cls ≠ "java/lang/invoke/MethodHandle" ∧ yX7_end.cls ≠ "java/lang/invoke/VarHandle" ∧ (parseMethodDescriptor yX7_end.desc).map (fun d => d.parameters.length) = some 2 := by decide +kernel
theorem kwX7_end_1 : Cond.fieldLink RX7 51 "BarrelRaftModel" "barrels" "I" ∈ wsX7_end := List.mem_of_getElem? (i := 1) rfl
set_option maxRecDepth 20000 in
theorem kinX7_end_X7 : ∀ w ∈ u_ws RX7 TX7 18, w ∈ wsX7_end := by decide +kernel
theorem kwX7_end_2 : Cond.fieldLink RX7 31 "BarrelRaftModel" "pieces" "[I" ∈ wsX7_end := List.mem_of_getElem? (i := 2) rfl
theorem kwX7_end_3 : Cond.fieldLink RX7 127 "BarrelRaftModel" "crew" "I" ∈ wsX7_end := List.mem_of_getElem? (i := 3) rfl
theorem kwX7_end_4 : Cond.fieldLink RX7 25 "BarrelRaftModel" "people" "[I" ∈ wsX7_end := List.mem_of_getElem? (i := 4) rfl
def jX7_end_L45 (M_barrels : Int32) (u3 : Int32) (n : Nat) (M_strength_45 : Nat → Int32) (M_wear_45 : Nat → Int32) (v4_45 : Int32) : Option ((Nat → Int32) × (Nat → Int32)) :=
  match n with
  | 0 => none
  | n + 1 => (if M_barrels ≤ v4_45 then some (M_strength_45, M_wear_45) else (if v4_45 = u3 then jX7_end_L45 M_barrels u3 n M_strength_45 M_wear_45 (v4_45 + 1) else bnd (jX7_untie M_strength_45 M_wear_45 u3 v4_45) (fun r2 => jX7_end_L45 M_barrels u3 n r2.1 r2.2 (v4_45 + 1))))
def jX7_end_L76 (M_crew : Int32) (u2 : Int32) (u3 : Int32) (n : Nat) (M_people_76 : Nat → Int32) (v4_76 : Int32) : Option ((Nat → Int32)) :=
  match n with
  | 0 => none
  | n + 1 => (if M_crew ≤ v4_76 then some M_people_76 else chk 16 (2 * v4_76) ((if rd M_people_76 (2 * v4_76) = u3 then chk 16 (2 * v4_76) (chk 16 ((2 * v4_76) + 1) (jX7_end_L76 M_crew u2 u3 n (wr (wr M_people_76 (2 * v4_76) (-1)) ((2 * v4_76) + 1) u2) (v4_76 + 1))) else jX7_end_L76 M_crew u2 u3 n M_people_76 (v4_76 + 1))))
def jX7_end_L2 (M_barrels : Int32) (M_crew : Int32) (M_pieces : Nat → Int32) (u1 : Int32) (u2 : Int32) (n : Nat) (M_table_2 : Nat → Int32) (M_strength_2 : Nat → Int32) (M_wear_2 : Nat → Int32) (M_people_2 : Nat → Int32) (v3_2 : Int32) : Option ((Nat → Int32) × (Nat → Int32) × (Nat → Int32) × (Nat → Int32)) :=
  match n with
  | 0 => none
  | n + 1 => (if M_barrels ≤ v3_2 then some (M_table_2, M_strength_2, M_wear_2, M_people_2) else chk 24 v3_2 ((if rd M_pieces v3_2 = u1 then bnd (jX7_set M_table_2 v3_2 2 u2) (fun r1 => jn (fun (x42 : (Nat → Int32)) => bnd (jX7_end_L45 M_barrels v3_2 FU M_strength_2 M_wear_2 0) (fun r3 => bnd (jX7_end_L76 M_crew u2 v3_2 FU M_people_2 0) (fun r4 => jX7_end_L2 M_barrels M_crew M_pieces u1 u2 n x42 r3.1 r3.2 r4 (v3_2 + 1)))) (fun k42 => if u2 = 1 then bnd (jX7_set r1 v3_2 1 0) (fun r5 => k42 r5) else k42 r1)) else jX7_end_L2 M_barrels M_crew M_pieces u1 u2 n M_table_2 M_strength_2 M_wear_2 M_people_2 (v3_2 + 1))))
def jX7_end (M_barrels : Int32) (M_crew : Int32) (M_table : Nat → Int32) (M_strength : Nat → Int32) (M_wear : Nat → Int32) (M_people : Nat → Int32) (M_pieces : Nat → Int32) (a1 : Int32) (a2 : Int32) : Option ((Nat → Int32) × (Nat → Int32) × (Nat → Int32) × (Nat → Int32)) :=
  bnd (jX7_end_L2 M_barrels M_crew M_pieces a1 a2 FU M_table M_strength M_wear M_people 0) (fun r6 => some (r6.1, r6.2.1, r6.2.2.1, r6.2.2.2))
set_option maxHeartbeats 4000000 in
set_option maxRecDepth 100000 in
theorem mt_X7_end (l : Launch) (D : va_G) (c : Nat → ClassId) (M : Nat → Nat) (M_thrown : Int32) (M_waters : Int32) (M_windX : Int32) (M_windY : Int32) (M_barrels : Int32) (M_crew : Int32) (M_table : Nat → Int32) (M_strength : Nat → Int32) (M_wear : Nat → Int32) (M_people : Nat → Int32) (M_pieces : Nat → Int32) (a1 : Int32) (a2 : Int32) (q0 : (Nat → Int32) × (Nat → Int32) × (Nat → Int32) × (Nat → Int32)) (h : jX7_end M_barrels M_crew M_table M_strength M_wear M_people M_pieces a1 a2 = some q0) : DTv l yX7_end wsX7_end rmX7_end D c (wX7_end c M M_thrown M_waters M_windX M_windY M_barrels M_crew M_table M_strength M_wear M_people M_pieces) [.ref (M 0), .int a1, .int a2] (wX7_end c M M_thrown M_waters M_windX M_windY M_barrels M_crew q0.1 q0.2.1 q0.2.2.1 q0.2.2.2 M_pieces) 0 0 := by
  refine DTv_of (cc := cX7_end) (nL := 5) RX7 rfl (by decide) rfl (Nat.le_of_ble_eq_true rfl) (fun g C ret => ?_)
  unfold jX7_end at h
  refine vv_lv [0, 1, 2] [(0, .ref (M 0)), (1, .int a1), (2, .int a2)] rfl ?_
  refine vv_iconst C (v := 0) dX7_end_0 (by decide) 1 rfl ?_
  refine vv_istore_n C [(3, .int 0), (0, .ref (M 0)), (1, .int a1), (2, .int a2)] dX7_end_1 rfl (by decide) rfl 2 rfl ?_
  refine vv_lv [1, 2, 3, 0] [(0, .ref (M 0)), (1, .int a1), (2, .int a2), (3, .int 0)] rfl ?_
  have L2 : ∀ (n : Nat) (M_table_2 : Nat → Int32) (M_strength_2 : Nat → Int32) (M_wear_2 : Nat → Int32) (M_people_2 : Nat → Int32) (v3_2 : Int32) (q2 : (Nat → Int32) × (Nat → Int32) × (Nat → Int32) × (Nat → Int32)), jX7_end_L2 M_barrels M_crew M_pieces a1 a2 n M_table_2 M_strength_2 M_wear_2 M_people_2 v3_2 = some q2 → (VV g D 5 0 0 (wX7_end c M M_thrown M_waters M_windX M_windY M_barrels M_crew q2.1 q2.2.1 q2.2.2.1 q2.2.2.2 M_pieces) [] 135 []) → VV g D 5 0 0 (wX7_end c M M_thrown M_waters M_windX M_windY M_barrels M_crew M_table_2 M_strength_2 M_wear_2 M_people_2 M_pieces) [(0, .ref (M 0)), (1, .int a1), (2, .int a2), (3, .int v3_2)] 2 [] := by
    intro n
    induction n with
    | zero =>
      intro M_table_2 M_strength_2 M_wear_2 M_people_2 v3_2 q2 h _
      rw [jX7_end_L2] at h
      cases h
    | succ n ih2 =>
      intro M_table_2 M_strength_2 M_wear_2 M_people_2 v3_2 q2 h kk2
      rw [jX7_end_L2] at h
      refine vv_iload_n C dX7_end_2 rfl 3 rfl 3 rfl ?_
      refine vv_aload_n C dX7_end_3 rfl 0 rfl 4 rfl ?_
      refine vv_get C (q0 := 0) (ci := 7) (k := 5) kinX7_end_X7 rfl rfl (by decide) kwX7_end_1 rfl rfl dX7_end_4 7 rfl ?_
      refine vv_icmp_ge C 135 10 dX7_end_7 (by decide) rfl (fun hc => ?_) (fun hc => ?_)
      · replace h := ite_t hc h
        refine vv_lv [] [] rfl ?_
        obtain rfl := Option.some.inj h
        exact kk2
      · replace h := ite_f hc h
        refine vv_aload_n C dX7_end_10 rfl 0 rfl 11 rfl ?_
        refine vv_get C (q0 := 0) (ci := 7) (k := 13) kinX7_end_X7 rfl rfl (by decide) kwX7_end_2 rfl rfl dX7_end_11 14 rfl ?_
        refine vv_iload_n C dX7_end_14 rfl 3 rfl 15 rfl ?_
        obtain ⟨hi, h⟩ := chk_s h
        refine vv_iald C (q0 := 5) rfl hi dX7_end_15 16 rfl ?_
        refine vv_iload_n C dX7_end_16 rfl 1 rfl 17 rfl ?_
        refine vv_icmp_eq C 23 20 dX7_end_17 (by decide) rfl (fun hc => ?_) (fun hc => ?_)
        · replace h := ite_t hc h
          refine vv_aload_n C dX7_end_23 rfl 0 rfl 24 rfl ?_
          refine vv_iload_n C dX7_end_24 rfl 3 rfl 25 rfl ?_
          refine vv_iconst C (v := 2) dX7_end_25 (by decide) 26 rfl ?_
          refine vv_iload_n C dX7_end_26 rfl 2 rfl 27 rfl ?_
          obtain ⟨r1, hr1, h⟩ := bnd_s h
          refine vv_callVv C (fun l => mt_X7_set l D c M M_thrown M_waters M_windX M_windY M_barrels M_crew M_table_2 v3_2 2 a2 r1 hr1) gX7_end_X7_set rfl rfl rfl yd_X7_set ⟨Nat.le_of_ble_eq_true rfl, Nat.le_of_ble_eq_true rfl⟩ [0, 1] rfl (by decide) 0 rfl rfl (wX7_end c M M_thrown M_waters M_windX M_windY M_barrels M_crew r1 M_strength_2 M_wear_2 M_people_2 M_pieces) [(true, 0), (true, 1), (false, 2), (false, 3), (false, 4), (false, 5)] rfl (by decide) rfl rfl [] rfl (Nat.le_of_ble_eq_true rfl) ⟨Nat.le_of_ble_eq_true rfl, Nat.le_of_ble_eq_true rfl⟩ dX7_end_27 30 0 0 rfl ⟨rfl, rfl⟩ ?_
          refine vv_iload_n C dX7_end_30 rfl 2 rfl 31 rfl ?_
          refine vv_iconst C (v := 1) dX7_end_31 (by decide) 32 rfl ?_
          obtain ⟨k42, hk42, h⟩ := jn_s h
          have J42 : ∀ (x42 : (Nat → Int32)), k42 x42 = some q2 → VV g D 5 0 0 (wX7_end c M M_thrown M_waters M_windX M_windY M_barrels M_crew x42 M_strength_2 M_wear_2 M_people_2 M_pieces) [(0, .ref (M 0)), (1, .int a1), (2, .int a2), (3, .int v3_2)] 42 [] := by
            intro x42 h
            replace h := jn_u hk42 h
            refine vv_iconst C (v := 0) dX7_end_42 (by decide) 43 rfl ?_
            refine vv_istore C [(4, .int 0), (0, .ref (M 0)), (1, .int a1), (2, .int a2), (3, .int v3_2)] dX7_end_43 (by decide) rfl 45 rfl ?_
            refine vv_lv [1, 2, 3, 4, 0] [(0, .ref (M 0)), (1, .int a1), (2, .int a2), (3, .int v3_2), (4, .int 0)] rfl ?_
            have L45 : ∀ (n : Nat) (M_strength_45 : Nat → Int32) (M_wear_45 : Nat → Int32) (v4_45 : Int32) (q45 : (Nat → Int32) × (Nat → Int32)), jX7_end_L45 M_barrels v3_2 n M_strength_45 M_wear_45 v4_45 = some q45 → (VV g D 5 0 0 (wX7_end c M M_thrown M_waters M_windX M_windY M_barrels M_crew x42 q45.1 q45.2 M_people_2 M_pieces) [(0, .ref (M 0)), (1, .int a1), (2, .int a2), (3, .int v3_2)] 73 []) → VV g D 5 0 0 (wX7_end c M M_thrown M_waters M_windX M_windY M_barrels M_crew x42 M_strength_45 M_wear_45 M_people_2 M_pieces) [(0, .ref (M 0)), (1, .int a1), (2, .int a2), (3, .int v3_2), (4, .int v4_45)] 45 [] := by
              intro n
              induction n with
              | zero =>
                intro M_strength_45 M_wear_45 v4_45 q45 h _
                rw [jX7_end_L45] at h
                cases h
              | succ n ih45 =>
                intro M_strength_45 M_wear_45 v4_45 q45 h kk45
                rw [jX7_end_L45] at h
                refine vv_iload C dX7_end_45 4 rfl 47 rfl ?_
                refine vv_aload_n C dX7_end_47 rfl 0 rfl 48 rfl ?_
                refine vv_get C (q0 := 0) (ci := 7) (k := 5) kinX7_end_X7 rfl rfl (by decide) kwX7_end_1 rfl rfl dX7_end_48 51 rfl ?_
                refine vv_icmp_ge C 73 54 dX7_end_51 (by decide) rfl (fun hc => ?_) (fun hc => ?_)
                · replace h := ite_t hc h
                  refine vv_lv [0, 1, 2, 3] [(0, .ref (M 0)), (1, .int a1), (2, .int a2), (3, .int v3_2)] rfl ?_
                  obtain rfl := Option.some.inj h
                  exact kk45
                · replace h := ite_f hc h
                  refine vv_iload C dX7_end_54 4 rfl 56 rfl ?_
                  refine vv_iload_n C dX7_end_56 rfl 3 rfl 57 rfl ?_
                  refine vv_icmp_eq C 67 60 dX7_end_57 (by decide) rfl (fun hc => ?_) (fun hc => ?_)
                  · replace h := ite_t hc h
                    refine vv_iinc C (k := 4) [(4, .int (v4_45 + 1)), (0, .ref (M 0)), (1, .int a1), (2, .int a2), (3, .int v3_2)] dX7_end_67 rfl rfl (by decide) rfl 70 rfl ?_
                    refine vv_goto C 45 dX7_end_70 (by decide) ?_
                    refine vv_lv [1, 2, 3, 4, 0] [(0, .ref (M 0)), (1, .int a1), (2, .int a2), (3, .int v3_2), (4, .int (v4_45 + 1))] rfl ?_
                    exact ih45 M_strength_45 M_wear_45 (v4_45 + 1) _ h kk45
                  · replace h := ite_f hc h
                    refine vv_aload_n C dX7_end_60 rfl 0 rfl 61 rfl ?_
                    refine vv_iload_n C dX7_end_61 rfl 3 rfl 62 rfl ?_
                    refine vv_iload C dX7_end_62 4 rfl 64 rfl ?_
                    obtain ⟨r2, hr2, h⟩ := bnd_s h
                    refine vv_callVv C (fun l => mt_X7_untie l D c M M_thrown M_waters M_windX M_windY M_barrels M_crew M_strength_45 M_wear_45 v3_2 v4_45 r2 hr2) gX7_end_X7_untie rfl rfl rfl yd_X7_untie ⟨Nat.le_of_ble_eq_true rfl, Nat.le_of_ble_eq_true rfl⟩ [0, 2, 3] rfl (by decide) 0 rfl rfl (wX7_end c M M_thrown M_waters M_windX M_windY M_barrels M_crew x42 r2.1 r2.2 M_people_2 M_pieces) [(true, 0), (false, 1), (true, 1), (true, 2), (false, 4), (false, 5)] rfl (by decide) rfl rfl [] rfl (Nat.le_of_ble_eq_true rfl) ⟨Nat.le_of_ble_eq_true rfl, Nat.le_of_ble_eq_true rfl⟩ dX7_end_64 67 0 0 rfl ⟨rfl, rfl⟩ ?_
                    refine vv_iinc C (k := 4) [(4, .int (v4_45 + 1)), (0, .ref (M 0)), (1, .int a1), (2, .int a2), (3, .int v3_2)] dX7_end_67 rfl rfl (by decide) rfl 70 rfl ?_
                    refine vv_goto C 45 dX7_end_70 (by decide) ?_
                    refine vv_lv [1, 2, 3, 4, 0] [(0, .ref (M 0)), (1, .int a1), (2, .int a2), (3, .int v3_2), (4, .int (v4_45 + 1))] rfl ?_
                    exact ih45 r2.1 r2.2 (v4_45 + 1) _ h kk45
            obtain ⟨r3, hr3, h⟩ := bnd_s h
            refine L45 FU M_strength_2 M_wear_2 0 r3 hr3 ?_
            refine vv_iconst C (v := 0) dX7_end_73 (by decide) 74 rfl ?_
            refine vv_istore C [(4, .int 0), (0, .ref (M 0)), (1, .int a1), (2, .int a2), (3, .int v3_2)] dX7_end_74 (by decide) rfl 76 rfl ?_
            refine vv_lv [1, 2, 3, 4, 0] [(0, .ref (M 0)), (1, .int a1), (2, .int a2), (3, .int v3_2), (4, .int 0)] rfl ?_
            have L76 : ∀ (n : Nat) (M_people_76 : Nat → Int32) (v4_76 : Int32) (q76 : (Nat → Int32)), jX7_end_L76 M_crew a2 v3_2 n M_people_76 v4_76 = some q76 → (VV g D 5 0 0 (wX7_end c M M_thrown M_waters M_windX M_windY M_barrels M_crew x42 r3.1 r3.2 q76 M_pieces) [(0, .ref (M 0)), (1, .int a1), (2, .int a2), (3, .int v3_2)] 129 []) → VV g D 5 0 0 (wX7_end c M M_thrown M_waters M_windX M_windY M_barrels M_crew x42 r3.1 r3.2 M_people_76 M_pieces) [(0, .ref (M 0)), (1, .int a1), (2, .int a2), (3, .int v3_2), (4, .int v4_76)] 76 [] := by
              intro n
              induction n with
              | zero =>
                intro M_people_76 v4_76 q76 h _
                rw [jX7_end_L76] at h
                cases h
              | succ n ih76 =>
                intro M_people_76 v4_76 q76 h kk76
                rw [jX7_end_L76] at h
                refine vv_iload C dX7_end_76 4 rfl 78 rfl ?_
                refine vv_aload_n C dX7_end_78 rfl 0 rfl 79 rfl ?_
                refine vv_get C (q0 := 0) (ci := 7) (k := 7) kinX7_end_X7 rfl rfl (by decide) kwX7_end_3 rfl rfl dX7_end_79 82 rfl ?_
                refine vv_icmp_ge C 129 85 dX7_end_82 (by decide) rfl (fun hc => ?_) (fun hc => ?_)
                · replace h := ite_t hc h
                  refine vv_lv [0, 1, 2, 3] [(0, .ref (M 0)), (1, .int a1), (2, .int a2), (3, .int v3_2)] rfl ?_
                  obtain rfl := Option.some.inj h
                  exact kk76
                · replace h := ite_f hc h
                  refine vv_aload_n C dX7_end_85 rfl 0 rfl 86 rfl ?_
                  refine vv_get C (q0 := 0) (ci := 7) (k := 11) kinX7_end_X7 rfl rfl (by decide) kwX7_end_4 rfl rfl dX7_end_86 89 rfl ?_
                  refine vv_iconst C (v := 2) dX7_end_89 (by decide) 90 rfl ?_
                  refine vv_iload C dX7_end_90 4 rfl 92 rfl ?_
                  refine vv_imul C dX7_end_92 93 rfl ?_
                  obtain ⟨hi, h⟩ := chk_s h
                  refine vv_iald C (q0 := 4) rfl hi dX7_end_93 94 rfl ?_
                  refine vv_iload_n C dX7_end_94 rfl 3 rfl 95 rfl ?_
                  refine vv_icmp_eq C 101 98 dX7_end_95 (by decide) rfl (fun hc => ?_) (fun hc => ?_)
                  · replace h := ite_t hc h
                    refine vv_aload_n C dX7_end_101 rfl 0 rfl 102 rfl ?_
                    refine vv_get C (q0 := 0) (ci := 7) (k := 11) kinX7_end_X7 rfl rfl (by decide) kwX7_end_4 rfl rfl dX7_end_102 105 rfl ?_
                    refine vv_iconst C (v := 2) dX7_end_105 (by decide) 106 rfl ?_
                    refine vv_iload C dX7_end_106 4 rfl 108 rfl ?_
                    refine vv_imul C dX7_end_108 109 rfl ?_
                    refine vv_iconst C (v := (-1)) dX7_end_109 (by decide) 110 rfl ?_
                    obtain ⟨hi, h⟩ := chk_s h
                    refine vv_iast C (q0 := 4) (wX7_end c M M_thrown M_waters M_windX M_windY M_barrels M_crew x42 r3.1 r3.2 (wr M_people_76 (2 * v4_76) (-1)) M_pieces) rfl hi rfl dX7_end_110 111 rfl ?_
                    refine vv_aload_n C dX7_end_111 rfl 0 rfl 112 rfl ?_
                    refine vv_get C (q0 := 0) (ci := 7) (k := 11) kinX7_end_X7 rfl rfl (by decide) kwX7_end_4 rfl rfl dX7_end_112 115 rfl ?_
                    refine vv_iconst C (v := 2) dX7_end_115 (by decide) 116 rfl ?_
                    refine vv_iload C dX7_end_116 4 rfl 118 rfl ?_
                    refine vv_imul C dX7_end_118 119 rfl ?_
                    refine vv_iconst C (v := 1) dX7_end_119 (by decide) 120 rfl ?_
                    refine vv_iadd C dX7_end_120 121 rfl ?_
                    refine vv_iload_n C dX7_end_121 rfl 2 rfl 122 rfl ?_
                    obtain ⟨hi, h⟩ := chk_s h
                    refine vv_iast C (q0 := 4) (wX7_end c M M_thrown M_waters M_windX M_windY M_barrels M_crew x42 r3.1 r3.2 (wr (wr M_people_76 (2 * v4_76) (-1)) ((2 * v4_76) + 1) a2) M_pieces) rfl hi rfl dX7_end_122 123 rfl ?_
                    refine vv_iinc C (k := 4) [(4, .int (v4_76 + 1)), (0, .ref (M 0)), (1, .int a1), (2, .int a2), (3, .int v3_2)] dX7_end_123 rfl rfl (by decide) rfl 126 rfl ?_
                    refine vv_goto C 76 dX7_end_126 (by decide) ?_
                    refine vv_lv [1, 2, 3, 4, 0] [(0, .ref (M 0)), (1, .int a1), (2, .int a2), (3, .int v3_2), (4, .int (v4_76 + 1))] rfl ?_
                    exact ih76 (wr (wr M_people_76 (2 * v4_76) (-1)) ((2 * v4_76) + 1) a2) (v4_76 + 1) _ h kk76
                  · replace h := ite_f hc h
                    refine vv_goto C 123 dX7_end_98 (by decide) ?_
                    refine vv_iinc C (k := 4) [(4, .int (v4_76 + 1)), (0, .ref (M 0)), (1, .int a1), (2, .int a2), (3, .int v3_2)] dX7_end_123 rfl rfl (by decide) rfl 126 rfl ?_
                    refine vv_goto C 76 dX7_end_126 (by decide) ?_
                    refine vv_lv [1, 2, 3, 4, 0] [(0, .ref (M 0)), (1, .int a1), (2, .int a2), (3, .int v3_2), (4, .int (v4_76 + 1))] rfl ?_
                    exact ih76 M_people_76 (v4_76 + 1) _ h kk76
            obtain ⟨r4, hr4, h⟩ := bnd_s h
            refine L76 FU M_people_2 0 r4 hr4 ?_
            refine vv_iinc C (k := 3) [(3, .int (v3_2 + 1)), (0, .ref (M 0)), (1, .int a1), (2, .int a2)] dX7_end_129 rfl rfl (by decide) rfl 132 rfl ?_
            refine vv_goto C 2 dX7_end_132 (by decide) ?_
            refine vv_lv [1, 2, 3, 0] [(0, .ref (M 0)), (1, .int a1), (2, .int a2), (3, .int (v3_2 + 1))] rfl ?_
            exact ih2 x42 r3.1 r3.2 r4 (v3_2 + 1) _ h kk2
          refine vv_icmp_ne C 42 35 dX7_end_32 (by decide) rfl (fun hc => ?_) (fun hc => ?_)
          · replace h := ite_f hc h
            exact J42 r1 h
          · replace h := ite_t hc h
            refine vv_aload_n C dX7_end_35 rfl 0 rfl 36 rfl ?_
            refine vv_iload_n C dX7_end_36 rfl 3 rfl 37 rfl ?_
            refine vv_iconst C (v := 1) dX7_end_37 (by decide) 38 rfl ?_
            refine vv_iconst C (v := 0) dX7_end_38 (by decide) 39 rfl ?_
            obtain ⟨r5, hr5, h⟩ := bnd_s h
            refine vv_callVv C (fun l => mt_X7_set l D c M M_thrown M_waters M_windX M_windY M_barrels M_crew r1 v3_2 1 0 r5 hr5) gX7_end_X7_set rfl rfl rfl yd_X7_set ⟨Nat.le_of_ble_eq_true rfl, Nat.le_of_ble_eq_true rfl⟩ [0, 1] rfl (by decide) 0 rfl rfl (wX7_end c M M_thrown M_waters M_windX M_windY M_barrels M_crew r5 M_strength_2 M_wear_2 M_people_2 M_pieces) [(true, 0), (true, 1), (false, 2), (false, 3), (false, 4), (false, 5)] rfl (by decide) rfl rfl [] rfl (Nat.le_of_ble_eq_true rfl) ⟨Nat.le_of_ble_eq_true rfl, Nat.le_of_ble_eq_true rfl⟩ dX7_end_39 42 0 0 rfl ⟨rfl, rfl⟩ ?_
            exact J42 r5 h
        · replace h := ite_f hc h
          refine vv_goto C 129 dX7_end_20 (by decide) ?_
          refine vv_iinc C (k := 3) [(3, .int (v3_2 + 1)), (0, .ref (M 0)), (1, .int a1), (2, .int a2)] dX7_end_129 rfl rfl (by decide) rfl 132 rfl ?_
          refine vv_goto C 2 dX7_end_132 (by decide) ?_
          refine vv_lv [1, 2, 3, 0] [(0, .ref (M 0)), (1, .int a1), (2, .int a2), (3, .int (v3_2 + 1))] rfl ?_
          exact ih2 M_table_2 M_strength_2 M_wear_2 M_people_2 (v3_2 + 1) _ h kk2
  obtain ⟨r6, hr6, h⟩ := bnd_s h
  refine L2 FU M_table M_strength M_wear M_people 0 r6 hr6 ?_
  obtain rfl := Option.some.inj h
  exact ret _ _ dX7_end_135
abbrev wX7_ways (c : Nat → ClassId) (M : Nat → Nat) (M_thrown : Int32) (M_waters : Int32) (M_windX : Int32) (M_windY : Int32) (M_barrels : Int32) (M_crew : Int32) (M_strength : Nat → Int32) (M_used : Nat → Int32) (M_from : Nat → Int32) (M_line : Nat → Int32) : va_W := [(M 0, .inr (7, [.int M_thrown, .int M_waters, .ref (M 1), .int M_windX, .int M_windY, .int M_barrels, .ref (M 2), .int M_crew, .ref (M 3), .ref (M 4), .ref (M 5), .ref (M 6), .ref (M 7), .ref (M 8), .ref (M 9), .ref (M 10), .ref (M 11), .ref (M 12)])), aI c (M 4) 576 M_strength, aZ c (M 9) 576 M_used, aI c (M 10) 24 M_from, aI c (M 11) 24 M_line]
abbrev rmX7_ways : Room := { frames := 3, cells := 0, slots := 0, locals := 64 }
theorem yd_X7_ways : yX7_ways.cls = RX7 ∧ yX7_ways.cls ≠ "java/lang/invoke/MethodHandle" ∧ yX7_ways.cls ≠ "java/lang/invoke/VarHandle" ∧ (parseMethodDescriptor yX7_ways.desc).map (fun d => d.parameters.length) = some 2 := by decide +kernel
theorem kwX7_ways_1 : Cond.fieldLink RX7 34 "BarrelRaftModel" "used" "[Z" ∈ wsX7_ways := List.mem_of_getElem? (i := 1) rfl
set_option maxRecDepth 20000 in
theorem kinX7_ways_X7 : ∀ w ∈ u_ws RX7 TX7 18, w ∈ wsX7_ways := by decide +kernel
theorem kwX7_ways_2 : Cond.fieldLink RX7 38 "BarrelRaftModel" "from" "[I" ∈ wsX7_ways := List.mem_of_getElem? (i := 2) rfl
theorem kwX7_ways_3 : Cond.fieldLink RX7 41 "BarrelRaftModel" "line" "[I" ∈ wsX7_ways := List.mem_of_getElem? (i := 3) rfl
theorem kwX7_ways_4 : Cond.fieldLink RX7 51 "BarrelRaftModel" "barrels" "I" ∈ wsX7_ways := List.mem_of_getElem? (i := 4) rfl
def jX7_ways_L5  (n : Nat) (M_used_5 : Nat → Int32) (v4_5 : Int32) : Option ((Nat → Int32)) :=
  match n with
  | 0 => none
  | n + 1 => (if 576 ≤ v4_5 then some M_used_5 else chk 576 v4_5 (chkZ 0 (jX7_ways_L5 n (wr M_used_5 v4_5 0) (v4_5 + 1))))
def jX7_ways_L30  (n : Nat) (M_from_30 : Nat → Int32) (v4_30 : Int32) : Option ((Nat → Int32)) :=
  match n with
  | 0 => none
  | n + 1 => (if 24 ≤ v4_30 then some M_from_30 else chk 24 v4_30 (jX7_ways_L30 n (wr M_from_30 v4_30 (-1)) (v4_30 + 1)))
def jX7_ways_L100 (M_barrels : Int32) (M_strength : Nat → Int32) (M_used : Nat → Int32) (u6 : Int32) (n : Nat) (M_from_100 : Nat → Int32) (M_line_100 : Nat → Int32) (v4_100 : Int32) (v7_100 : Int32) : Option ((Nat → Int32) × (Nat → Int32) × Int32) :=
  match n with
  | 0 => none
  | n + 1 => (if M_barrels ≤ v7_100 then some (M_from_100, M_line_100, v4_100) else (if v7_100 = u6 then jX7_ways_L100 M_barrels M_strength M_used u6 n M_from_100 M_line_100 v4_100 (v7_100 + 1) else chk 24 v7_100 ((if rd M_from_100 v7_100 = (-1) then bnd (jX7_isTied M_strength u6 v7_100) (fun r3 => (if r3 = 0 then jX7_ways_L100 M_barrels M_strength M_used u6 n M_from_100 M_line_100 v4_100 (v7_100 + 1) else chk 576 ((24 * u6) + v7_100) ((if rd M_used ((24 * u6) + v7_100) = 0 then chk 24 v7_100 (chk 24 v4_100 (jX7_ways_L100 M_barrels M_strength M_used u6 n (wr M_from_100 v7_100 u6) (wr M_line_100 v4_100 v7_100) (v4_100 + 1) (v7_100 + 1))) else jX7_ways_L100 M_barrels M_strength M_used u6 n M_from_100 M_line_100 v4_100 (v7_100 + 1))))) else jX7_ways_L100 M_barrels M_strength M_used u6 n M_from_100 M_line_100 v4_100 (v7_100 + 1)))))
def jX7_ways_L71 (M_barrels : Int32) (M_strength : Nat → Int32) (M_used : Nat → Int32) (u2 : Int32) (n : Nat) (M_from_71 : Nat → Int32) (M_line_71 : Nat → Int32) (v4_71 : Int32) (v5_71 : Int32) : Option ((Nat → Int32) × (Nat → Int32)) :=
  match n with
  | 0 => none
  | n + 1 => (if v4_71 ≤ v5_71 then some (M_from_71, M_line_71) else chk 24 u2 ((if rd M_from_71 u2 = (-1) then chk 24 v5_71 (bnd (jX7_ways_L100 M_barrels M_strength M_used (rd M_line_71 v5_71) FU M_from_71 M_line_71 v4_71 0) (fun r4 => jX7_ways_L71 M_barrels M_strength M_used u2 n r4.1 r4.2.1 r4.2.2 (v5_71 + 1))) else some (M_from_71, M_line_71))))
def jX7_ways_L205 (M_from : Nat → Int32) (u1 : Int32) (n : Nat) (M_used_205 : Nat → Int32) (v5_205 : Int32) : Option ((Nat → Int32)) :=
  match n with
  | 0 => none
  | n + 1 => (if v5_205 = u1 then some M_used_205 else chk 24 v5_205 (chk 576 ((24 * v5_205) + (rd M_from v5_205)) ((if rd M_used_205 ((24 * v5_205) + (rd M_from v5_205)) = 0 then chk 24 v5_205 (chk 576 ((24 * (rd M_from v5_205)) + v5_205) (chkZ 1 (chk 24 v5_205 (jX7_ways_L205 M_from u1 n (wr M_used_205 ((24 * (rd M_from v5_205)) + v5_205) 1) (rd M_from v5_205))))) else chk 24 v5_205 (chk 576 ((24 * v5_205) + (rd M_from v5_205)) (chkZ 0 (chk 24 v5_205 (jX7_ways_L205 M_from u1 n (wr M_used_205 ((24 * v5_205) + (rd M_from v5_205)) 0) (rd M_from v5_205)))))))))
def jX7_ways_L27 (M_barrels : Int32) (M_strength : Nat → Int32) (u1 : Int32) (u2 : Int32) (n : Nat) (M_used_27 : Nat → Int32) (M_from_27 : Nat → Int32) (M_line_27 : Nat → Int32) (v3_27 : Int32) : Option ((Nat → Int32) × (Nat → Int32) × (Nat → Int32) × Int32) :=
  match n with
  | 0 => none
  | n + 1 => bnd (jX7_ways_L30  FU M_from_27 0) (fun r2 => chk 24 u1 (chk 24 0 (bnd (jX7_ways_L71 M_barrels M_strength M_used_27 u2 FU (wr r2 u1 u1) (wr M_line_27 0 u1) 1 0) (fun r5 => chk 24 u2 ((if rd r5.1 u2 = (-1) then some (M_used_27, r5.1, r5.2, v3_27) else bnd (jX7_ways_L205 r5.1 u1 FU M_used_27 u2) (fun r6 => jX7_ways_L27 M_barrels M_strength u1 u2 n r6 r5.1 r5.2 (v3_27 + 1))))))))
def jX7_ways (M_barrels : Int32) (M_strength : Nat → Int32) (M_used : Nat → Int32) (M_from : Nat → Int32) (M_line : Nat → Int32) (a1 : Int32) (a2 : Int32) : Option (Int32 × (Nat → Int32) × (Nat → Int32) × (Nat → Int32)) :=
  bnd (jX7_ways_L5  FU M_used 0) (fun r1 => bnd (jX7_ways_L27 M_barrels M_strength a1 a2 FU r1 M_from M_line 0) (fun r7 => some (r7.2.2.2, r7.1, r7.2.1, r7.2.2.1)))
set_option maxHeartbeats 4000000 in
set_option maxRecDepth 100000 in
theorem mt_X7_ways (l : Launch) (D : va_G) (c : Nat → ClassId) (M : Nat → Nat) (M_thrown : Int32) (M_waters : Int32) (M_windX : Int32) (M_windY : Int32) (M_barrels : Int32) (M_crew : Int32) (M_strength : Nat → Int32) (M_used : Nat → Int32) (M_from : Nat → Int32) (M_line : Nat → Int32) (a1 : Int32) (a2 : Int32) (q0 : Int32 × (Nat → Int32) × (Nat → Int32) × (Nat → Int32)) (h : jX7_ways M_barrels M_strength M_used M_from M_line a1 a2 = some q0) : DTi l yX7_ways wsX7_ways rmX7_ways D c (wX7_ways c M M_thrown M_waters M_windX M_windY M_barrels M_crew M_strength M_used M_from M_line) [.ref (M 0), .int a1, .int a2] q0.1 (wX7_ways c M M_thrown M_waters M_windX M_windY M_barrels M_crew M_strength q0.2.1 q0.2.2.1 q0.2.2.2) 0 0 := by
  refine DTi_of (cc := cX7_ways) (nL := 8) RX7 rfl (by decide) rfl (Nat.le_of_ble_eq_true rfl) (fun g C ret => ?_)
  unfold jX7_ways at h
  refine vv_lv [0, 1, 2] [(0, .ref (M 0)), (1, .int a1), (2, .int a2)] rfl ?_
  refine vv_iconst C (v := 0) dX7_ways_0 (by decide) 1 rfl ?_
  refine vv_istore_n C [(3, .int 0), (0, .ref (M 0)), (1, .int a1), (2, .int a2)] dX7_ways_1 rfl (by decide) rfl 2 rfl ?_
  refine vv_iconst C (v := 0) dX7_ways_2 (by decide) 3 rfl ?_
  refine vv_istore C [(4, .int 0), (3, .int 0), (0, .ref (M 0)), (1, .int a1), (2, .int a2)] dX7_ways_3 (by decide) rfl 5 rfl ?_
  refine vv_lv [2, 3, 4, 1, 0] [(0, .ref (M 0)), (1, .int a1), (2, .int a2), (3, .int 0), (4, .int 0)] rfl ?_
  have L5 : ∀ (n : Nat) (M_used_5 : Nat → Int32) (v4_5 : Int32) (q5 : (Nat → Int32)), jX7_ways_L5  n M_used_5 v4_5 = some q5 → (VV g D 8 0 0 (wX7_ways c M M_thrown M_waters M_windX M_windY M_barrels M_crew M_strength q5 M_from M_line) [(0, .ref (M 0)), (1, .int a1), (2, .int a2), (3, .int 0)] 27 []) → VV g D 8 0 0 (wX7_ways c M M_thrown M_waters M_windX M_windY M_barrels M_crew M_strength M_used_5 M_from M_line) [(0, .ref (M 0)), (1, .int a1), (2, .int a2), (3, .int 0), (4, .int v4_5)] 5 [] := by
    intro n
    induction n with
    | zero =>
      intro M_used_5 v4_5 q5 h _
      rw [jX7_ways_L5] at h
      cases h
    | succ n ih5 =>
      intro M_used_5 v4_5 q5 h kk5
      rw [jX7_ways_L5] at h
      refine vv_iload C dX7_ways_5 4 rfl 7 rfl ?_
      refine vv_sipush C (v := 576) dX7_ways_7 (by decide) 10 rfl ?_
      refine vv_icmp_ge C 27 13 dX7_ways_10 (by decide) rfl (fun hc => ?_) (fun hc => ?_)
      · replace h := ite_t hc h
        refine vv_lv [0, 1, 2, 3] [(0, .ref (M 0)), (1, .int a1), (2, .int a2), (3, .int 0)] rfl ?_
        obtain rfl := Option.some.inj h
        exact kk5
      · replace h := ite_f hc h
        refine vv_aload_n C dX7_ways_13 rfl 0 rfl 14 rfl ?_
        refine vv_get C (q0 := 0) (ci := 7) (k := 14) kinX7_ways_X7 rfl rfl (by decide) kwX7_ways_1 rfl rfl dX7_ways_14 17 rfl ?_
        refine vv_iload C dX7_ways_17 4 rfl 19 rfl ?_
        refine vv_iconst C (v := 0) dX7_ways_19 (by decide) 20 rfl ?_
        obtain ⟨hi, h⟩ := chk_s h
        obtain ⟨hz, h⟩ := chkZ_s h
        refine vv_zast C (q0 := 2) (wX7_ways c M M_thrown M_waters M_windX M_windY M_barrels M_crew M_strength (wr M_used_5 v4_5 0) M_from M_line) rfl hi hz rfl dX7_ways_20 21 rfl ?_
        refine vv_iinc C (k := 4) [(4, .int (v4_5 + 1)), (0, .ref (M 0)), (1, .int a1), (2, .int a2), (3, .int 0)] dX7_ways_21 rfl rfl (by decide) rfl 24 rfl ?_
        refine vv_goto C 5 dX7_ways_24 (by decide) ?_
        refine vv_lv [1, 2, 3, 4, 0] [(0, .ref (M 0)), (1, .int a1), (2, .int a2), (3, .int 0), (4, .int (v4_5 + 1))] rfl ?_
        exact ih5 (wr M_used_5 v4_5 0) (v4_5 + 1) _ h kk5
  obtain ⟨r1, hr1, h⟩ := bnd_s h
  refine L5 FU M_used 0 r1 hr1 ?_
  have L27 : ∀ (n : Nat) (M_used_27 : Nat → Int32) (M_from_27 : Nat → Int32) (M_line_27 : Nat → Int32) (v3_27 : Int32) (q27 : (Nat → Int32) × (Nat → Int32) × (Nat → Int32) × Int32), jX7_ways_L27 M_barrels M_strength a1 a2 n M_used_27 M_from_27 M_line_27 v3_27 = some q27 → (VV g D 8 0 0 (wX7_ways c M M_thrown M_waters M_windX M_windY M_barrels M_crew M_strength q27.1 q27.2.1 q27.2.2.1) [(3, .int q27.2.2.2)] 200 []) → VV g D 8 0 0 (wX7_ways c M M_thrown M_waters M_windX M_windY M_barrels M_crew M_strength M_used_27 M_from_27 M_line_27) [(0, .ref (M 0)), (1, .int a1), (2, .int a2), (3, .int v3_27)] 27 [] := by
    intro n
    induction n with
    | zero =>
      intro M_used_27 M_from_27 M_line_27 v3_27 q27 h _
      rw [jX7_ways_L27] at h
      cases h
    | succ n ih27 =>
      intro M_used_27 M_from_27 M_line_27 v3_27 q27 h kk27
      rw [jX7_ways_L27] at h
      refine vv_iconst C (v := 0) dX7_ways_27 (by decide) 28 rfl ?_
      refine vv_istore C [(4, .int 0), (0, .ref (M 0)), (1, .int a1), (2, .int a2), (3, .int v3_27)] dX7_ways_28 (by decide) rfl 30 rfl ?_
      refine vv_lv [1, 2, 3, 4, 0] [(0, .ref (M 0)), (1, .int a1), (2, .int a2), (3, .int v3_27), (4, .int 0)] rfl ?_
      have L30 : ∀ (n : Nat) (M_from_30 : Nat → Int32) (v4_30 : Int32) (q30 : (Nat → Int32)), jX7_ways_L30  n M_from_30 v4_30 = some q30 → (VV g D 8 0 0 (wX7_ways c M M_thrown M_waters M_windX M_windY M_barrels M_crew M_strength M_used_27 q30 M_line_27) [(0, .ref (M 0)), (1, .int a1), (2, .int a2), (3, .int v3_27)] 51 []) → VV g D 8 0 0 (wX7_ways c M M_thrown M_waters M_windX M_windY M_barrels M_crew M_strength M_used_27 M_from_30 M_line_27) [(0, .ref (M 0)), (1, .int a1), (2, .int a2), (3, .int v3_27), (4, .int v4_30)] 30 [] := by
        intro n
        induction n with
        | zero =>
          intro M_from_30 v4_30 q30 h _
          rw [jX7_ways_L30] at h
          cases h
        | succ n ih30 =>
          intro M_from_30 v4_30 q30 h kk30
          rw [jX7_ways_L30] at h
          refine vv_iload C dX7_ways_30 4 rfl 32 rfl ?_
          refine vv_bipush C (v := 24) dX7_ways_32 (by decide) 34 rfl ?_
          refine vv_icmp_ge C 51 37 dX7_ways_34 (by decide) rfl (fun hc => ?_) (fun hc => ?_)
          · replace h := ite_t hc h
            refine vv_lv [0, 1, 2, 3] [(0, .ref (M 0)), (1, .int a1), (2, .int a2), (3, .int v3_27)] rfl ?_
            obtain rfl := Option.some.inj h
            exact kk30
          · replace h := ite_f hc h
            refine vv_aload_n C dX7_ways_37 rfl 0 rfl 38 rfl ?_
            refine vv_get C (q0 := 0) (ci := 7) (k := 15) kinX7_ways_X7 rfl rfl (by decide) kwX7_ways_2 rfl rfl dX7_ways_38 41 rfl ?_
            refine vv_iload C dX7_ways_41 4 rfl 43 rfl ?_
            refine vv_iconst C (v := (-1)) dX7_ways_43 (by decide) 44 rfl ?_
            obtain ⟨hi, h⟩ := chk_s h
            refine vv_iast C (q0 := 3) (wX7_ways c M M_thrown M_waters M_windX M_windY M_barrels M_crew M_strength M_used_27 (wr M_from_30 v4_30 (-1)) M_line_27) rfl hi rfl dX7_ways_44 45 rfl ?_
            refine vv_iinc C (k := 4) [(4, .int (v4_30 + 1)), (0, .ref (M 0)), (1, .int a1), (2, .int a2), (3, .int v3_27)] dX7_ways_45 rfl rfl (by decide) rfl 48 rfl ?_
            refine vv_goto C 30 dX7_ways_48 (by decide) ?_
            refine vv_lv [1, 2, 3, 4, 0] [(0, .ref (M 0)), (1, .int a1), (2, .int a2), (3, .int v3_27), (4, .int (v4_30 + 1))] rfl ?_
            exact ih30 (wr M_from_30 v4_30 (-1)) (v4_30 + 1) _ h kk30
      obtain ⟨r2, hr2, h⟩ := bnd_s h
      refine L30 FU M_from_27 0 r2 hr2 ?_
      refine vv_aload_n C dX7_ways_51 rfl 0 rfl 52 rfl ?_
      refine vv_get C (q0 := 0) (ci := 7) (k := 15) kinX7_ways_X7 rfl rfl (by decide) kwX7_ways_2 rfl rfl dX7_ways_52 55 rfl ?_
      refine vv_iload_n C dX7_ways_55 rfl 1 rfl 56 rfl ?_
      refine vv_iload_n C dX7_ways_56 rfl 1 rfl 57 rfl ?_
      obtain ⟨hi, h⟩ := chk_s h
      refine vv_iast C (q0 := 3) (wX7_ways c M M_thrown M_waters M_windX M_windY M_barrels M_crew M_strength M_used_27 (wr r2 a1 a1) M_line_27) rfl hi rfl dX7_ways_57 58 rfl ?_
      refine vv_aload_n C dX7_ways_58 rfl 0 rfl 59 rfl ?_
      refine vv_get C (q0 := 0) (ci := 7) (k := 16) kinX7_ways_X7 rfl rfl (by decide) kwX7_ways_3 rfl rfl dX7_ways_59 62 rfl ?_
      refine vv_iconst C (v := 0) dX7_ways_62 (by decide) 63 rfl ?_
      refine vv_iload_n C dX7_ways_63 rfl 1 rfl 64 rfl ?_
      obtain ⟨hi, h⟩ := chk_s h
      refine vv_iast C (q0 := 4) (wX7_ways c M M_thrown M_waters M_windX M_windY M_barrels M_crew M_strength M_used_27 (wr r2 a1 a1) (wr M_line_27 0 a1)) rfl hi rfl dX7_ways_64 65 rfl ?_
      refine vv_iconst C (v := 1) dX7_ways_65 (by decide) 66 rfl ?_
      refine vv_istore C [(4, .int 1), (0, .ref (M 0)), (1, .int a1), (2, .int a2), (3, .int v3_27)] dX7_ways_66 (by decide) rfl 68 rfl ?_
      refine vv_iconst C (v := 0) dX7_ways_68 (by decide) 69 rfl ?_
      refine vv_istore C [(5, .int 0), (4, .int 1), (0, .ref (M 0)), (1, .int a1), (2, .int a2), (3, .int v3_27)] dX7_ways_69 (by decide) rfl 71 rfl ?_
      refine vv_lv [2, 3, 4, 5, 1, 0] [(0, .ref (M 0)), (1, .int a1), (2, .int a2), (3, .int v3_27), (4, .int 1), (5, .int 0)] rfl ?_
      have L71 : ∀ (n : Nat) (M_from_71 : Nat → Int32) (M_line_71 : Nat → Int32) (v4_71 : Int32) (v5_71 : Int32) (q71 : (Nat → Int32) × (Nat → Int32)), jX7_ways_L71 M_barrels M_strength M_used_27 a2 n M_from_71 M_line_71 v4_71 v5_71 = some q71 → (VV g D 8 0 0 (wX7_ways c M M_thrown M_waters M_windX M_windY M_barrels M_crew M_strength M_used_27 q71.1 q71.2) [(0, .ref (M 0)), (1, .int a1), (2, .int a2), (3, .int v3_27)] 190 []) → VV g D 8 0 0 (wX7_ways c M M_thrown M_waters M_windX M_windY M_barrels M_crew M_strength M_used_27 M_from_71 M_line_71) [(0, .ref (M 0)), (1, .int a1), (2, .int a2), (3, .int v3_27), (4, .int v4_71), (5, .int v5_71)] 71 [] := by
        intro n
        induction n with
        | zero =>
          intro M_from_71 M_line_71 v4_71 v5_71 q71 h _
          rw [jX7_ways_L71] at h
          cases h
        | succ n ih71 =>
          intro M_from_71 M_line_71 v4_71 v5_71 q71 h kk71
          rw [jX7_ways_L71] at h
          refine vv_iload C dX7_ways_71 5 rfl 73 rfl ?_
          refine vv_iload C dX7_ways_73 4 rfl 75 rfl ?_
          refine vv_icmp_ge C 190 78 dX7_ways_75 (by decide) rfl (fun hc => ?_) (fun hc => ?_)
          · replace h := ite_t hc h
            refine vv_lv [0, 1, 2, 3] [(0, .ref (M 0)), (1, .int a1), (2, .int a2), (3, .int v3_27)] rfl ?_
            obtain rfl := Option.some.inj h
            exact kk71
          · replace h := ite_f hc h
            refine vv_aload_n C dX7_ways_78 rfl 0 rfl 79 rfl ?_
            refine vv_get C (q0 := 0) (ci := 7) (k := 15) kinX7_ways_X7 rfl rfl (by decide) kwX7_ways_2 rfl rfl dX7_ways_79 82 rfl ?_
            refine vv_iload_n C dX7_ways_82 rfl 2 rfl 83 rfl ?_
            obtain ⟨hi, h⟩ := chk_s h
            refine vv_iald C (q0 := 3) rfl hi dX7_ways_83 84 rfl ?_
            refine vv_iconst C (v := (-1)) dX7_ways_84 (by decide) 85 rfl ?_
            refine vv_icmp_ne C 190 88 dX7_ways_85 (by decide) rfl (fun hc => ?_) (fun hc => ?_)
            · replace h := ite_f hc h
              refine vv_lv [0, 1, 2, 3] [(0, .ref (M 0)), (1, .int a1), (2, .int a2), (3, .int v3_27)] rfl ?_
              obtain rfl := Option.some.inj h
              exact kk71
            · replace h := ite_t hc h
              refine vv_aload_n C dX7_ways_88 rfl 0 rfl 89 rfl ?_
              refine vv_get C (q0 := 0) (ci := 7) (k := 16) kinX7_ways_X7 rfl rfl (by decide) kwX7_ways_3 rfl rfl dX7_ways_89 92 rfl ?_
              refine vv_iload C dX7_ways_92 5 rfl 94 rfl ?_
              obtain ⟨hi, h⟩ := chk_s h
              refine vv_iald C (q0 := 4) rfl hi dX7_ways_94 95 rfl ?_
              refine vv_istore C [(6, .int (rd M_line_71 v5_71)), (0, .ref (M 0)), (1, .int a1), (2, .int a2), (3, .int v3_27), (4, .int v4_71), (5, .int v5_71)] dX7_ways_95 (by decide) rfl 97 rfl ?_
              refine vv_iconst C (v := 0) dX7_ways_97 (by decide) 98 rfl ?_
              refine vv_istore C [(7, .int 0), (6, .int (rd M_line_71 v5_71)), (0, .ref (M 0)), (1, .int a1), (2, .int a2), (3, .int v3_27), (4, .int v4_71), (5, .int v5_71)] dX7_ways_98 (by decide) rfl 100 rfl ?_
              refine vv_lv [2, 3, 4, 5, 6, 7, 1, 0] [(0, .ref (M 0)), (1, .int a1), (2, .int a2), (3, .int v3_27), (4, .int v4_71), (5, .int v5_71), (6, .int (rd M_line_71 v5_71)), (7, .int 0)] rfl ?_
              have L100 : ∀ (n : Nat) (M_from_100 : Nat → Int32) (M_line_100 : Nat → Int32) (v4_100 : Int32) (v7_100 : Int32) (q100 : (Nat → Int32) × (Nat → Int32) × Int32), jX7_ways_L100 M_barrels M_strength M_used_27 (rd M_line_71 v5_71) n M_from_100 M_line_100 v4_100 v7_100 = some q100 → (VV g D 8 0 0 (wX7_ways c M M_thrown M_waters M_windX M_windY M_barrels M_crew M_strength M_used_27 q100.1 q100.2.1) [(0, .ref (M 0)), (1, .int a1), (2, .int a2), (3, .int v3_27), (4, .int q100.2.2), (5, .int v5_71)] 184 []) → VV g D 8 0 0 (wX7_ways c M M_thrown M_waters M_windX M_windY M_barrels M_crew M_strength M_used_27 M_from_100 M_line_100) [(0, .ref (M 0)), (1, .int a1), (2, .int a2), (3, .int v3_27), (4, .int v4_100), (5, .int v5_71), (6, .int (rd M_line_71 v5_71)), (7, .int v7_100)] 100 [] := by
                intro n
                induction n with
                | zero =>
                  intro M_from_100 M_line_100 v4_100 v7_100 q100 h _
                  rw [jX7_ways_L100] at h
                  cases h
                | succ n ih100 =>
                  intro M_from_100 M_line_100 v4_100 v7_100 q100 h kk100
                  rw [jX7_ways_L100] at h
                  refine vv_iload C dX7_ways_100 7 rfl 102 rfl ?_
                  refine vv_aload_n C dX7_ways_102 rfl 0 rfl 103 rfl ?_
                  refine vv_get C (q0 := 0) (ci := 7) (k := 5) kinX7_ways_X7 rfl rfl (by decide) kwX7_ways_4 rfl rfl dX7_ways_103 106 rfl ?_
                  refine vv_icmp_ge C 184 109 dX7_ways_106 (by decide) rfl (fun hc => ?_) (fun hc => ?_)
                  · replace h := ite_t hc h
                    refine vv_lv [0, 1, 2, 3, 4, 5] [(0, .ref (M 0)), (1, .int a1), (2, .int a2), (3, .int v3_27), (4, .int v4_100), (5, .int v5_71)] rfl ?_
                    obtain rfl := Option.some.inj h
                    exact kk100
                  · replace h := ite_f hc h
                    refine vv_iload C dX7_ways_109 7 rfl 111 rfl ?_
                    refine vv_iload C dX7_ways_111 6 rfl 113 rfl ?_
                    refine vv_icmp_eq C 178 116 dX7_ways_113 (by decide) rfl (fun hc => ?_) (fun hc => ?_)
                    · replace h := ite_t hc h
                      refine vv_iinc C (k := 7) [(7, .int (v7_100 + 1)), (0, .ref (M 0)), (1, .int a1), (2, .int a2), (3, .int v3_27), (4, .int v4_100), (5, .int v5_71), (6, .int (rd M_line_71 v5_71))] dX7_ways_178 rfl rfl (by decide) rfl 181 rfl ?_
                      refine vv_goto C 100 dX7_ways_181 (by decide) ?_
                      refine vv_lv [1, 2, 3, 4, 5, 6, 7, 0] [(0, .ref (M 0)), (1, .int a1), (2, .int a2), (3, .int v3_27), (4, .int v4_100), (5, .int v5_71), (6, .int (rd M_line_71 v5_71)), (7, .int (v7_100 + 1))] rfl ?_
                      exact ih100 M_from_100 M_line_100 v4_100 (v7_100 + 1) _ h kk100
                    · replace h := ite_f hc h
                      refine vv_aload_n C dX7_ways_116 rfl 0 rfl 117 rfl ?_
                      refine vv_get C (q0 := 0) (ci := 7) (k := 15) kinX7_ways_X7 rfl rfl (by decide) kwX7_ways_2 rfl rfl dX7_ways_117 120 rfl ?_
                      refine vv_iload C dX7_ways_120 7 rfl 122 rfl ?_
                      obtain ⟨hi, h⟩ := chk_s h
                      refine vv_iald C (q0 := 3) rfl hi dX7_ways_122 123 rfl ?_
                      refine vv_iconst C (v := (-1)) dX7_ways_123 (by decide) 124 rfl ?_
                      refine vv_icmp_ne C 178 127 dX7_ways_124 (by decide) rfl (fun hc => ?_) (fun hc => ?_)
                      · replace h := ite_f hc h
                        refine vv_iinc C (k := 7) [(7, .int (v7_100 + 1)), (0, .ref (M 0)), (1, .int a1), (2, .int a2), (3, .int v3_27), (4, .int v4_100), (5, .int v5_71), (6, .int (rd M_line_71 v5_71))] dX7_ways_178 rfl rfl (by decide) rfl 181 rfl ?_
                        refine vv_goto C 100 dX7_ways_181 (by decide) ?_
                        refine vv_lv [1, 2, 3, 4, 5, 6, 7, 0] [(0, .ref (M 0)), (1, .int a1), (2, .int a2), (3, .int v3_27), (4, .int v4_100), (5, .int v5_71), (6, .int (rd M_line_71 v5_71)), (7, .int (v7_100 + 1))] rfl ?_
                        exact ih100 M_from_100 M_line_100 v4_100 (v7_100 + 1) _ h kk100
                      · replace h := ite_t hc h
                        refine vv_aload_n C dX7_ways_127 rfl 0 rfl 128 rfl ?_
                        refine vv_iload C dX7_ways_128 6 rfl 130 rfl ?_
                        refine vv_iload C dX7_ways_130 7 rfl 132 rfl ?_
                        obtain ⟨r3, hr3, h⟩ := bnd_s h
                        refine vv_callVi C (fun l => mt_X7_isTied l D c M M_thrown M_waters M_windX M_windY M_barrels M_crew M_strength (rd M_line_71 v5_71) v7_100 r3 hr3) gX7_ways_X7_isTied rfl rfl rfl yd_X7_isTied ⟨Nat.le_of_ble_eq_true rfl, Nat.le_of_ble_eq_true rfl⟩ [0, 1] rfl (by decide) 0 rfl rfl (wX7_ways c M M_thrown M_waters M_windX M_windY M_barrels M_crew M_strength M_used_27 M_from_100 M_line_100) [(true, 0), (true, 1), (false, 2), (false, 3), (false, 4)] rfl (by decide) rfl rfl [] rfl (Nat.le_of_ble_eq_true rfl) ⟨Nat.le_of_ble_eq_true rfl, Nat.le_of_ble_eq_true rfl⟩ dX7_ways_132 135 0 0 rfl ⟨rfl, rfl⟩ ?_
                        refine vv_if_eq C 178 138 dX7_ways_135 (by decide) rfl (fun hc => ?_) (fun hc => ?_)
                        · replace h := ite_t hc h
                          refine vv_iinc C (k := 7) [(7, .int (v7_100 + 1)), (0, .ref (M 0)), (1, .int a1), (2, .int a2), (3, .int v3_27), (4, .int v4_100), (5, .int v5_71), (6, .int (rd M_line_71 v5_71))] dX7_ways_178 rfl rfl (by decide) rfl 181 rfl ?_
                          refine vv_goto C 100 dX7_ways_181 (by decide) ?_
                          refine vv_lv [1, 2, 3, 4, 5, 6, 7, 0] [(0, .ref (M 0)), (1, .int a1), (2, .int a2), (3, .int v3_27), (4, .int v4_100), (5, .int v5_71), (6, .int (rd M_line_71 v5_71)), (7, .int (v7_100 + 1))] rfl ?_
                          exact ih100 M_from_100 M_line_100 v4_100 (v7_100 + 1) _ h kk100
                        · replace h := ite_f hc h
                          refine vv_aload_n C dX7_ways_138 rfl 0 rfl 139 rfl ?_
                          refine vv_get C (q0 := 0) (ci := 7) (k := 14) kinX7_ways_X7 rfl rfl (by decide) kwX7_ways_1 rfl rfl dX7_ways_139 142 rfl ?_
                          refine vv_bipush C (v := 24) dX7_ways_142 (by decide) 144 rfl ?_
                          refine vv_iload C dX7_ways_144 6 rfl 146 rfl ?_
                          refine vv_imul C dX7_ways_146 147 rfl ?_
                          refine vv_iload C dX7_ways_147 7 rfl 149 rfl ?_
                          refine vv_iadd C dX7_ways_149 150 rfl ?_
                          obtain ⟨hi, h⟩ := chk_s h
                          refine vv_zald C (q0 := 2) rfl hi dX7_ways_150 151 rfl ?_
                          refine vv_if_eq C 157 154 dX7_ways_151 (by decide) rfl (fun hc => ?_) (fun hc => ?_)
                          · replace h := ite_t hc h
                            refine vv_aload_n C dX7_ways_157 rfl 0 rfl 158 rfl ?_
                            refine vv_get C (q0 := 0) (ci := 7) (k := 15) kinX7_ways_X7 rfl rfl (by decide) kwX7_ways_2 rfl rfl dX7_ways_158 161 rfl ?_
                            refine vv_iload C dX7_ways_161 7 rfl 163 rfl ?_
                            refine vv_iload C dX7_ways_163 6 rfl 165 rfl ?_
                            obtain ⟨hi, h⟩ := chk_s h
                            refine vv_iast C (q0 := 3) (wX7_ways c M M_thrown M_waters M_windX M_windY M_barrels M_crew M_strength M_used_27 (wr M_from_100 v7_100 (rd M_line_71 v5_71)) M_line_100) rfl hi rfl dX7_ways_165 166 rfl ?_
                            refine vv_aload_n C dX7_ways_166 rfl 0 rfl 167 rfl ?_
                            refine vv_get C (q0 := 0) (ci := 7) (k := 16) kinX7_ways_X7 rfl rfl (by decide) kwX7_ways_3 rfl rfl dX7_ways_167 170 rfl ?_
                            refine vv_iload C dX7_ways_170 4 rfl 172 rfl ?_
                            refine vv_iload C dX7_ways_172 7 rfl 174 rfl ?_
                            obtain ⟨hi, h⟩ := chk_s h
                            refine vv_iast C (q0 := 4) (wX7_ways c M M_thrown M_waters M_windX M_windY M_barrels M_crew M_strength M_used_27 (wr M_from_100 v7_100 (rd M_line_71 v5_71)) (wr M_line_100 v4_100 v7_100)) rfl hi rfl dX7_ways_174 175 rfl ?_
                            refine vv_iinc C (k := 4) [(4, .int (v4_100 + 1)), (0, .ref (M 0)), (1, .int a1), (2, .int a2), (3, .int v3_27), (5, .int v5_71), (6, .int (rd M_line_71 v5_71)), (7, .int v7_100)] dX7_ways_175 rfl rfl (by decide) rfl 178 rfl ?_
                            refine vv_iinc C (k := 7) [(7, .int (v7_100 + 1)), (4, .int (v4_100 + 1)), (0, .ref (M 0)), (1, .int a1), (2, .int a2), (3, .int v3_27), (5, .int v5_71), (6, .int (rd M_line_71 v5_71))] dX7_ways_178 rfl rfl (by decide) rfl 181 rfl ?_
                            refine vv_goto C 100 dX7_ways_181 (by decide) ?_
                            refine vv_lv [2, 3, 4, 5, 1, 6, 7, 0] [(0, .ref (M 0)), (1, .int a1), (2, .int a2), (3, .int v3_27), (4, .int (v4_100 + 1)), (5, .int v5_71), (6, .int (rd M_line_71 v5_71)), (7, .int (v7_100 + 1))] rfl ?_
                            exact ih100 (wr M_from_100 v7_100 (rd M_line_71 v5_71)) (wr M_line_100 v4_100 v7_100) (v4_100 + 1) (v7_100 + 1) _ h kk100
                          · replace h := ite_f hc h
                            refine vv_goto C 178 dX7_ways_154 (by decide) ?_
                            refine vv_iinc C (k := 7) [(7, .int (v7_100 + 1)), (0, .ref (M 0)), (1, .int a1), (2, .int a2), (3, .int v3_27), (4, .int v4_100), (5, .int v5_71), (6, .int (rd M_line_71 v5_71))] dX7_ways_178 rfl rfl (by decide) rfl 181 rfl ?_
                            refine vv_goto C 100 dX7_ways_181 (by decide) ?_
                            refine vv_lv [1, 2, 3, 4, 5, 6, 7, 0] [(0, .ref (M 0)), (1, .int a1), (2, .int a2), (3, .int v3_27), (4, .int v4_100), (5, .int v5_71), (6, .int (rd M_line_71 v5_71)), (7, .int (v7_100 + 1))] rfl ?_
                            exact ih100 M_from_100 M_line_100 v4_100 (v7_100 + 1) _ h kk100
              obtain ⟨r4, hr4, h⟩ := bnd_s h
              refine L100 FU M_from_71 M_line_71 v4_71 0 r4 hr4 ?_
              refine vv_iinc C (k := 5) [(5, .int (v5_71 + 1)), (0, .ref (M 0)), (1, .int a1), (2, .int a2), (3, .int v3_27), (4, .int r4.2.2)] dX7_ways_184 rfl rfl (by decide) rfl 187 rfl ?_
              refine vv_goto C 71 dX7_ways_187 (by decide) ?_
              refine vv_lv [1, 2, 3, 4, 5, 0] [(0, .ref (M 0)), (1, .int a1), (2, .int a2), (3, .int v3_27), (4, .int r4.2.2), (5, .int (v5_71 + 1))] rfl ?_
              exact ih71 r4.1 r4.2.1 r4.2.2 (v5_71 + 1) _ h kk71
      obtain ⟨r5, hr5, h⟩ := bnd_s h
      refine L71 FU (wr r2 a1 a1) (wr M_line_27 0 a1) 1 0 r5 hr5 ?_
      refine vv_aload_n C dX7_ways_190 rfl 0 rfl 191 rfl ?_
      refine vv_get C (q0 := 0) (ci := 7) (k := 15) kinX7_ways_X7 rfl rfl (by decide) kwX7_ways_2 rfl rfl dX7_ways_191 194 rfl ?_
      refine vv_iload_n C dX7_ways_194 rfl 2 rfl 195 rfl ?_
      obtain ⟨hi, h⟩ := chk_s h
      refine vv_iald C (q0 := 3) rfl hi dX7_ways_195 196 rfl ?_
      refine vv_iconst C (v := (-1)) dX7_ways_196 (by decide) 197 rfl ?_
      refine vv_icmp_ne C 202 200 dX7_ways_197 (by decide) rfl (fun hc => ?_) (fun hc => ?_)
      · replace h := ite_f hc h
        refine vv_iload_n C dX7_ways_202 rfl 2 rfl 203 rfl ?_
        refine vv_istore C [(5, .int a2), (0, .ref (M 0)), (1, .int a1), (2, .int a2), (3, .int v3_27)] dX7_ways_203 (by decide) rfl 205 rfl ?_
        refine vv_lv [1, 2, 3, 4, 0] [(0, .ref (M 0)), (1, .int a1), (2, .int a2), (3, .int v3_27), (5, .int a2)] rfl ?_
        have L205 : ∀ (n : Nat) (M_used_205 : Nat → Int32) (v5_205 : Int32) (q205 : (Nat → Int32)), jX7_ways_L205 r5.1 a1 n M_used_205 v5_205 = some q205 → (VV g D 8 0 0 (wX7_ways c M M_thrown M_waters M_windX M_windY M_barrels M_crew M_strength q205 r5.1 r5.2) [(0, .ref (M 0)), (1, .int a1), (2, .int a2), (3, .int v3_27)] 285 []) → VV g D 8 0 0 (wX7_ways c M M_thrown M_waters M_windX M_windY M_barrels M_crew M_strength M_used_205 r5.1 r5.2) [(0, .ref (M 0)), (1, .int a1), (2, .int a2), (3, .int v3_27), (5, .int v5_205)] 205 [] := by
          intro n
          induction n with
          | zero =>
            intro M_used_205 v5_205 q205 h _
            rw [jX7_ways_L205] at h
            cases h
          | succ n ih205 =>
            intro M_used_205 v5_205 q205 h kk205
            rw [jX7_ways_L205] at h
            refine vv_iload C dX7_ways_205 4 rfl 207 rfl ?_
            refine vv_iload_n C dX7_ways_207 rfl 1 rfl 208 rfl ?_
            refine vv_icmp_eq C 285 211 dX7_ways_208 (by decide) rfl (fun hc => ?_) (fun hc => ?_)
            · replace h := ite_t hc h
              refine vv_lv [0, 1, 2, 3] [(0, .ref (M 0)), (1, .int a1), (2, .int a2), (3, .int v3_27)] rfl ?_
              obtain rfl := Option.some.inj h
              exact kk205
            · replace h := ite_f hc h
              refine vv_aload_n C dX7_ways_211 rfl 0 rfl 212 rfl ?_
              refine vv_get C (q0 := 0) (ci := 7) (k := 14) kinX7_ways_X7 rfl rfl (by decide) kwX7_ways_1 rfl rfl dX7_ways_212 215 rfl ?_
              refine vv_bipush C (v := 24) dX7_ways_215 (by decide) 217 rfl ?_
              refine vv_iload C dX7_ways_217 4 rfl 219 rfl ?_
              refine vv_imul C dX7_ways_219 220 rfl ?_
              refine vv_aload_n C dX7_ways_220 rfl 0 rfl 221 rfl ?_
              refine vv_get C (q0 := 0) (ci := 7) (k := 15) kinX7_ways_X7 rfl rfl (by decide) kwX7_ways_2 rfl rfl dX7_ways_221 224 rfl ?_
              refine vv_iload C dX7_ways_224 4 rfl 226 rfl ?_
              obtain ⟨hi, h⟩ := chk_s h
              refine vv_iald C (q0 := 3) rfl hi dX7_ways_226 227 rfl ?_
              refine vv_iadd C dX7_ways_227 228 rfl ?_
              obtain ⟨hi, h⟩ := chk_s h
              refine vv_zald C (q0 := 2) rfl hi dX7_ways_228 229 rfl ?_
              refine vv_if_eq C 254 232 dX7_ways_229 (by decide) rfl (fun hc => ?_) (fun hc => ?_)
              · replace h := ite_t hc h
                refine vv_aload_n C dX7_ways_254 rfl 0 rfl 255 rfl ?_
                refine vv_get C (q0 := 0) (ci := 7) (k := 14) kinX7_ways_X7 rfl rfl (by decide) kwX7_ways_1 rfl rfl dX7_ways_255 258 rfl ?_
                refine vv_bipush C (v := 24) dX7_ways_258 (by decide) 260 rfl ?_
                refine vv_aload_n C dX7_ways_260 rfl 0 rfl 261 rfl ?_
                refine vv_get C (q0 := 0) (ci := 7) (k := 15) kinX7_ways_X7 rfl rfl (by decide) kwX7_ways_2 rfl rfl dX7_ways_261 264 rfl ?_
                refine vv_iload C dX7_ways_264 4 rfl 266 rfl ?_
                obtain ⟨hi, h⟩ := chk_s h
                refine vv_iald C (q0 := 3) rfl hi dX7_ways_266 267 rfl ?_
                refine vv_imul C dX7_ways_267 268 rfl ?_
                refine vv_iload C dX7_ways_268 4 rfl 270 rfl ?_
                refine vv_iadd C dX7_ways_270 271 rfl ?_
                refine vv_iconst C (v := 1) dX7_ways_271 (by decide) 272 rfl ?_
                obtain ⟨hi, h⟩ := chk_s h
                obtain ⟨hz, h⟩ := chkZ_s h
                refine vv_zast C (q0 := 2) (wX7_ways c M M_thrown M_waters M_windX M_windY M_barrels M_crew M_strength (wr M_used_205 ((24 * (rd r5.1 v5_205)) + v5_205) 1) r5.1 r5.2) rfl hi hz rfl dX7_ways_272 273 rfl ?_
                refine vv_aload_n C dX7_ways_273 rfl 0 rfl 274 rfl ?_
                refine vv_get C (q0 := 0) (ci := 7) (k := 15) kinX7_ways_X7 rfl rfl (by decide) kwX7_ways_2 rfl rfl dX7_ways_274 277 rfl ?_
                refine vv_iload C dX7_ways_277 4 rfl 279 rfl ?_
                obtain ⟨hi, h⟩ := chk_s h
                refine vv_iald C (q0 := 3) rfl hi dX7_ways_279 280 rfl ?_
                refine vv_istore C [(5, .int (rd r5.1 v5_205)), (0, .ref (M 0)), (1, .int a1), (2, .int a2), (3, .int v3_27)] dX7_ways_280 (by decide) rfl 282 rfl ?_
                refine vv_goto C 205 dX7_ways_282 (by decide) ?_
                refine vv_lv [1, 2, 3, 4, 0] [(0, .ref (M 0)), (1, .int a1), (2, .int a2), (3, .int v3_27), (5, .int (rd r5.1 v5_205))] rfl ?_
                exact ih205 (wr M_used_205 ((24 * (rd r5.1 v5_205)) + v5_205) 1) (rd r5.1 v5_205) _ h kk205
              · replace h := ite_f hc h
                refine vv_aload_n C dX7_ways_232 rfl 0 rfl 233 rfl ?_
                refine vv_get C (q0 := 0) (ci := 7) (k := 14) kinX7_ways_X7 rfl rfl (by decide) kwX7_ways_1 rfl rfl dX7_ways_233 236 rfl ?_
                refine vv_bipush C (v := 24) dX7_ways_236 (by decide) 238 rfl ?_
                refine vv_iload C dX7_ways_238 4 rfl 240 rfl ?_
                refine vv_imul C dX7_ways_240 241 rfl ?_
                refine vv_aload_n C dX7_ways_241 rfl 0 rfl 242 rfl ?_
                refine vv_get C (q0 := 0) (ci := 7) (k := 15) kinX7_ways_X7 rfl rfl (by decide) kwX7_ways_2 rfl rfl dX7_ways_242 245 rfl ?_
                refine vv_iload C dX7_ways_245 4 rfl 247 rfl ?_
                obtain ⟨hi, h⟩ := chk_s h
                refine vv_iald C (q0 := 3) rfl hi dX7_ways_247 248 rfl ?_
                refine vv_iadd C dX7_ways_248 249 rfl ?_
                refine vv_iconst C (v := 0) dX7_ways_249 (by decide) 250 rfl ?_
                obtain ⟨hi, h⟩ := chk_s h
                obtain ⟨hz, h⟩ := chkZ_s h
                refine vv_zast C (q0 := 2) (wX7_ways c M M_thrown M_waters M_windX M_windY M_barrels M_crew M_strength (wr M_used_205 ((24 * v5_205) + (rd r5.1 v5_205)) 0) r5.1 r5.2) rfl hi hz rfl dX7_ways_250 251 rfl ?_
                refine vv_goto C 273 dX7_ways_251 (by decide) ?_
                refine vv_aload_n C dX7_ways_273 rfl 0 rfl 274 rfl ?_
                refine vv_get C (q0 := 0) (ci := 7) (k := 15) kinX7_ways_X7 rfl rfl (by decide) kwX7_ways_2 rfl rfl dX7_ways_274 277 rfl ?_
                refine vv_iload C dX7_ways_277 4 rfl 279 rfl ?_
                obtain ⟨hi, h⟩ := chk_s h
                refine vv_iald C (q0 := 3) rfl hi dX7_ways_279 280 rfl ?_
                refine vv_istore C [(5, .int (rd r5.1 v5_205)), (0, .ref (M 0)), (1, .int a1), (2, .int a2), (3, .int v3_27)] dX7_ways_280 (by decide) rfl 282 rfl ?_
                refine vv_goto C 205 dX7_ways_282 (by decide) ?_
                refine vv_lv [1, 2, 3, 4, 0] [(0, .ref (M 0)), (1, .int a1), (2, .int a2), (3, .int v3_27), (5, .int (rd r5.1 v5_205))] rfl ?_
                exact ih205 (wr M_used_205 ((24 * v5_205) + (rd r5.1 v5_205)) 0) (rd r5.1 v5_205) _ h kk205
        obtain ⟨r6, hr6, h⟩ := bnd_s h
        refine L205 FU M_used_27 a2 r6 hr6 ?_
        refine vv_iinc C (k := 3) [(3, .int (v3_27 + 1)), (0, .ref (M 0)), (1, .int a1), (2, .int a2)] dX7_ways_285 rfl rfl (by decide) rfl 288 rfl ?_
        refine vv_goto C 27 dX7_ways_288 (by decide) ?_
        refine vv_lv [1, 2, 3, 0] [(0, .ref (M 0)), (1, .int a1), (2, .int a2), (3, .int (v3_27 + 1))] rfl ?_
        exact ih27 r6 r5.1 r5.2 (v3_27 + 1) _ h kk27
      · replace h := ite_t hc h
        refine vv_lv [3] [(3, .int v3_27)] rfl ?_
        obtain rfl := Option.some.inj h
        exact kk27
  obtain ⟨r7, hr7, h⟩ := bnd_s h
  refine L27 FU r1 M_from M_line 0 r7 hr7 ?_
  refine vv_iload_n C dX7_ways_200 rfl 0 rfl 201 rfl ?_
  obtain rfl := Option.some.inj h
  exact ret _ _ dX7_ways_201
abbrev wX7_firm (c : Nat → ClassId) (M : Nat → Nat) (M_thrown : Int32) (M_waters : Int32) (M_windX : Int32) (M_windY : Int32) (M_barrels : Int32) (M_crew : Int32) (M_strength : Nat → Int32) (M_used : Nat → Int32) (M_from : Nat → Int32) (M_line : Nat → Int32) : va_W := [(M 0, .inr (7, [.int M_thrown, .int M_waters, .ref (M 1), .int M_windX, .int M_windY, .int M_barrels, .ref (M 2), .int M_crew, .ref (M 3), .ref (M 4), .ref (M 5), .ref (M 6), .ref (M 7), .ref (M 8), .ref (M 9), .ref (M 10), .ref (M 11), .ref (M 12)])), aI c (M 4) 576 M_strength, aZ c (M 9) 576 M_used, aI c (M 10) 24 M_from, aI c (M 11) 24 M_line]
abbrev rmX7_firm : Room := { frames := 4, cells := 0, slots := 0, locals := 91 }
theorem yd_X7_firm : yX7_firm.cls = RX7 ∧ yX7_firm.cls ≠ "java/lang/invoke/MethodHandle" ∧ yX7_firm.cls ≠ "java/lang/invoke/VarHandle" ∧ (parseMethodDescriptor yX7_firm.desc).map (fun d => d.parameters.length) = some 2 := by decide +kernel
theorem kwX7_firm_1 : Cond.fieldLink RX7 47 "BarrelRaftModel" "thrown" "I" ∈ wsX7_firm := List.mem_of_getElem? (i := 1) rfl
set_option maxRecDepth 20000 in
theorem kinX7_firm_X7 : ∀ w ∈ u_ws RX7 TX7 18, w ∈ wsX7_firm := by decide +kernel
def jX7_firm (M_thrown : Int32) (M_barrels : Int32) (M_strength : Nat → Int32) (M_used : Nat → Int32) (M_from : Nat → Int32) (M_line : Nat → Int32) (a1 : Int32) (a2 : Int32) : Option (Int32 × Int32 × (Nat → Int32) × (Nat → Int32) × (Nat → Int32)) :=
  bnd (jX7_isBarrel M_barrels a1) (fun r1 => (if r1 = 0 then bnd (jX7_fail 0 1) (fun r2 => some (r2.1, r2.2, M_used, M_from, M_line)) else bnd (jX7_isBarrel M_barrels a2) (fun r3 => (if r3 = 0 then bnd (jX7_fail 0 1) (fun r5 => some (r5.1, r5.2, M_used, M_from, M_line)) else (if a1 = a2 then some ((-1), 0, M_used, M_from, M_line) else bnd (jX7_ways M_barrels M_strength M_used M_from M_line a1 a2) (fun r4 => some (r4.1, 0, r4.2.1, r4.2.2.1, r4.2.2.2)))))))
set_option maxHeartbeats 4000000 in
set_option maxRecDepth 100000 in
theorem mt_X7_firm (l : Launch) (D : va_G) (c : Nat → ClassId) (M : Nat → Nat) (M_thrown : Int32) (M_waters : Int32) (M_windX : Int32) (M_windY : Int32) (M_barrels : Int32) (M_crew : Int32) (M_strength : Nat → Int32) (M_used : Nat → Int32) (M_from : Nat → Int32) (M_line : Nat → Int32) (a1 : Int32) (a2 : Int32) (q0 : Int32 × Int32 × (Nat → Int32) × (Nat → Int32) × (Nat → Int32)) (h : jX7_firm M_thrown M_barrels M_strength M_used M_from M_line a1 a2 = some q0) : DTi l yX7_firm wsX7_firm rmX7_firm D c (wX7_firm c M M_thrown M_waters M_windX M_windY M_barrels M_crew M_strength M_used M_from M_line) [.ref (M 0), .int a1, .int a2] q0.1 (wX7_firm c M q0.2.1 M_waters M_windX M_windY M_barrels M_crew M_strength q0.2.2.1 q0.2.2.2.1 q0.2.2.2.2) 0 0 := by
  refine DTi_of (cc := cX7_firm) (nL := 3) RX7 rfl (by decide) rfl (Nat.le_of_ble_eq_true rfl) (fun g C ret => ?_)
  unfold jX7_firm at h
  refine vv_lv [0, 1, 2] [(0, .ref (M 0)), (1, .int a1), (2, .int a2)] rfl ?_
  refine vv_aload_n C dX7_firm_0 rfl 0 rfl 1 rfl ?_
  refine vv_iconst C (v := 0) dX7_firm_1 (by decide) 2 rfl ?_
  refine vv_put C (q0 := 0) (ci := 7) (k := 0) (ty := .int) (wX7_firm c M 0 M_waters M_windX M_windY M_barrels M_crew M_strength M_used M_from M_line) tyX7 tyX7_ok nmX7 kinX7_firm_X7 rfl rfl (by decide) kwX7_firm_1 rfl rfl rfl rfl rfl (Nat.le_of_ble_eq_true rfl) rfl dX7_firm_2 5 rfl ?_
  refine vv_aload_n C dX7_firm_5 rfl 0 rfl 6 rfl ?_
  refine vv_iload_n C dX7_firm_6 rfl 1 rfl 7 rfl ?_
  obtain ⟨r1, hr1, h⟩ := bnd_s h
  refine vv_callVi C (fun l => mt_X7_isBarrel l D c M 0 M_waters M_windX M_windY M_barrels M_crew a1 r1 hr1) gX7_firm_X7_isBarrel rfl rfl rfl yd_X7_isBarrel ⟨Nat.le_of_ble_eq_true rfl, Nat.le_of_ble_eq_true rfl⟩ [0] rfl (by decide) 0 rfl rfl (wX7_firm c M 0 M_waters M_windX M_windY M_barrels M_crew M_strength M_used M_from M_line) [(true, 0), (false, 1), (false, 2), (false, 3), (false, 4)] rfl (by decide) rfl rfl [] rfl (Nat.le_of_ble_eq_true rfl) ⟨Nat.le_of_ble_eq_true rfl, Nat.le_of_ble_eq_true rfl⟩ dX7_firm_7 10 0 0 rfl ⟨rfl, rfl⟩ ?_
  refine vv_if_eq C 21 13 dX7_firm_10 (by decide) rfl (fun hc => ?_) (fun hc => ?_)
  · replace h := ite_t hc h
    refine vv_aload_n C dX7_firm_21 rfl 0 rfl 22 rfl ?_
    refine vv_iconst C (v := 1) dX7_firm_22 (by decide) 23 rfl ?_
    obtain ⟨r2, hr2, h⟩ := bnd_s h
    refine vv_callVi C (fun l => mt_X7_fail l D c M 0 M_waters M_windX M_windY M_barrels M_crew 1 r2 hr2) gX7_firm_X7_fail rfl rfl rfl yd_X7_fail ⟨Nat.le_of_ble_eq_true rfl, Nat.le_of_ble_eq_true rfl⟩ [0] rfl (by decide) 0 rfl rfl (wX7_firm c M r2.2 M_waters M_windX M_windY M_barrels M_crew M_strength M_used M_from M_line) [(true, 0), (false, 1), (false, 2), (false, 3), (false, 4)] rfl (by decide) rfl rfl [] rfl (Nat.le_of_ble_eq_true rfl) ⟨Nat.le_of_ble_eq_true rfl, Nat.le_of_ble_eq_true rfl⟩ dX7_firm_23 26 0 0 rfl ⟨rfl, rfl⟩ ?_
    obtain rfl := Option.some.inj h
    exact ret _ _ dX7_firm_26
  · replace h := ite_f hc h
    refine vv_aload_n C dX7_firm_13 rfl 0 rfl 14 rfl ?_
    refine vv_iload_n C dX7_firm_14 rfl 2 rfl 15 rfl ?_
    obtain ⟨r3, hr3, h⟩ := bnd_s h
    refine vv_callVi C (fun l => mt_X7_isBarrel l D c M 0 M_waters M_windX M_windY M_barrels M_crew a2 r3 hr3) gX7_firm_X7_isBarrel rfl rfl rfl yd_X7_isBarrel ⟨Nat.le_of_ble_eq_true rfl, Nat.le_of_ble_eq_true rfl⟩ [0] rfl (by decide) 0 rfl rfl (wX7_firm c M 0 M_waters M_windX M_windY M_barrels M_crew M_strength M_used M_from M_line) [(true, 0), (false, 1), (false, 2), (false, 3), (false, 4)] rfl (by decide) rfl rfl [] rfl (Nat.le_of_ble_eq_true rfl) ⟨Nat.le_of_ble_eq_true rfl, Nat.le_of_ble_eq_true rfl⟩ dX7_firm_15 18 0 0 rfl ⟨rfl, rfl⟩ ?_
    refine vv_if_ne C 27 21 dX7_firm_18 (by decide) rfl (fun hc => ?_) (fun hc => ?_)
    · replace h := ite_f hc h
      refine vv_iload_n C dX7_firm_27 rfl 1 rfl 28 rfl ?_
      refine vv_iload_n C dX7_firm_28 rfl 2 rfl 29 rfl ?_
      refine vv_icmp_ne C 36 32 dX7_firm_29 (by decide) rfl (fun hc => ?_) (fun hc => ?_)
      · replace h := ite_f hc h
        refine vv_aload_n C dX7_firm_36 rfl 0 rfl 37 rfl ?_
        refine vv_iload_n C dX7_firm_37 rfl 1 rfl 38 rfl ?_
        refine vv_iload_n C dX7_firm_38 rfl 2 rfl 39 rfl ?_
        obtain ⟨r4, hr4, h⟩ := bnd_s h
        refine vv_callVi C (fun l => mt_X7_ways l D c M 0 M_waters M_windX M_windY M_barrels M_crew M_strength M_used M_from M_line a1 a2 r4 hr4) gX7_firm_X7_ways rfl rfl rfl yd_X7_ways ⟨Nat.le_of_ble_eq_true rfl, Nat.le_of_ble_eq_true rfl⟩ [0, 1, 2, 3, 4] rfl (by decide) 0 rfl rfl (wX7_firm c M 0 M_waters M_windX M_windY M_barrels M_crew M_strength r4.2.1 r4.2.2.1 r4.2.2.2) [(true, 0), (true, 1), (true, 2), (true, 3), (true, 4)] rfl (by decide) rfl rfl [] rfl (Nat.le_of_ble_eq_true rfl) ⟨Nat.le_of_ble_eq_true rfl, Nat.le_of_ble_eq_true rfl⟩ dX7_firm_39 42 0 0 rfl ⟨rfl, rfl⟩ ?_
        obtain rfl := Option.some.inj h
        exact ret _ _ dX7_firm_42
      · replace h := ite_t hc h
        refine vv_iconst C (v := (-1)) dX7_firm_32 (by decide) 33 rfl ?_
        refine vv_goto C 42 dX7_firm_33 (by decide) ?_
        obtain rfl := Option.some.inj h
        exact ret _ _ dX7_firm_42
    · replace h := ite_t hc h
      refine vv_aload_n C dX7_firm_21 rfl 0 rfl 22 rfl ?_
      refine vv_iconst C (v := 1) dX7_firm_22 (by decide) 23 rfl ?_
      obtain ⟨r5, hr5, h⟩ := bnd_s h
      refine vv_callVi C (fun l => mt_X7_fail l D c M 0 M_waters M_windX M_windY M_barrels M_crew 1 r5 hr5) gX7_firm_X7_fail rfl rfl rfl yd_X7_fail ⟨Nat.le_of_ble_eq_true rfl, Nat.le_of_ble_eq_true rfl⟩ [0] rfl (by decide) 0 rfl rfl (wX7_firm c M r5.2 M_waters M_windX M_windY M_barrels M_crew M_strength M_used M_from M_line) [(true, 0), (false, 1), (false, 2), (false, 3), (false, 4)] rfl (by decide) rfl rfl [] rfl (Nat.le_of_ble_eq_true rfl) ⟨Nat.le_of_ble_eq_true rfl, Nat.le_of_ble_eq_true rfl⟩ dX7_firm_23 26 0 0 rfl ⟨rfl, rfl⟩ ?_
      obtain rfl := Option.some.inj h
      exact ret _ _ dX7_firm_26
abbrev wX7_go (c : Nat → ClassId) (M : Nat → Nat) (M_thrown : Int32) (M_waters : Int32) (M_windX : Int32) (M_windY : Int32) (M_barrels : Int32) (M_crew : Int32) (M_strength : Nat → Int32) (M_people : Nat → Int32) : va_W := [(M 0, .inr (7, [.int M_thrown, .int M_waters, .ref (M 1), .int M_windX, .int M_windY, .int M_barrels, .ref (M 2), .int M_crew, .ref (M 3), .ref (M 4), .ref (M 5), .ref (M 6), .ref (M 7), .ref (M 8), .ref (M 9), .ref (M 10), .ref (M 11), .ref (M 12)])), aI c (M 4) 576 M_strength, aI c (M 6) 16 M_people]
abbrev rmX7_go : Room := { frames := 3, cells := 0, slots := 0, locals := 64 }
theorem yd_X7_go : yX7_go.cls = RX7 ∧ yX7_go.cls ≠ "java/lang/invoke/MethodHandle" ∧ yX7_go.cls ≠ "java/lang/invoke/VarHandle" ∧ (parseMethodDescriptor yX7_go.desc).map (fun d => d.parameters.length) = some 2 := by decide +kernel
theorem kwX7_go_1 : Cond.fieldLink RX7 47 "BarrelRaftModel" "thrown" "I" ∈ wsX7_go := List.mem_of_getElem? (i := 1) rfl
set_option maxRecDepth 20000 in
theorem kinX7_go_X7 : ∀ w ∈ u_ws RX7 TX7 18, w ∈ wsX7_go := by decide +kernel
theorem kwX7_go_2 : Cond.fieldLink RX7 25 "BarrelRaftModel" "people" "[I" ∈ wsX7_go := List.mem_of_getElem? (i := 2) rfl
def jX7_go (M_thrown : Int32) (M_barrels : Int32) (M_crew : Int32) (M_strength : Nat → Int32) (M_people : Nat → Int32) (a1 : Int32) (a2 : Int32) : Option (Int32 × Int32 × (Nat → Int32)) :=
  bnd (jX7_isPerson M_crew a1) (fun r1 => (if r1 = 0 then bnd (jX7_fail 0 1) (fun r2 => some (r2.1, r2.2, M_people)) else bnd (jX7_isBarrel M_barrels a2) (fun r3 => (if r3 = 0 then bnd (jX7_fail 0 1) (fun r9 => some (r9.1, r9.2, M_people)) else chk 16 (2 * a1) ((if rd M_people (2 * a1) = (-1) then bnd (jX7_fail 0 2) (fun r4 => some (r4.1, r4.2, M_people)) else (if rd M_people (2 * a1) = a2 then bnd (jX7_fail 0 2) (fun r5 => some (r5.1, r5.2, M_people)) else bnd (jX7_isTied M_strength (rd M_people (2 * a1)) a2) (fun r6 => (if r6 = 0 then bnd (jX7_fail 0 2) (fun r8 => some (r8.1, r8.2, M_people)) else chk 16 (2 * a1) (bnd (jX7_crewOn M_crew (wr M_people (2 * a1) a2) a2) (fun r7 => some (r7, 0, wr M_people (2 * a1) a2))))))))))))
set_option maxHeartbeats 4000000 in
set_option maxRecDepth 100000 in
theorem mt_X7_go (l : Launch) (D : va_G) (c : Nat → ClassId) (M : Nat → Nat) (M_thrown : Int32) (M_waters : Int32) (M_windX : Int32) (M_windY : Int32) (M_barrels : Int32) (M_crew : Int32) (M_strength : Nat → Int32) (M_people : Nat → Int32) (a1 : Int32) (a2 : Int32) (q0 : Int32 × Int32 × (Nat → Int32)) (h : jX7_go M_thrown M_barrels M_crew M_strength M_people a1 a2 = some q0) : DTi l yX7_go wsX7_go rmX7_go D c (wX7_go c M M_thrown M_waters M_windX M_windY M_barrels M_crew M_strength M_people) [.ref (M 0), .int a1, .int a2] q0.1 (wX7_go c M q0.2.1 M_waters M_windX M_windY M_barrels M_crew M_strength q0.2.2) 0 0 := by
  refine DTi_of (cc := cX7_go) (nL := 4) RX7 rfl (by decide) rfl (Nat.le_of_ble_eq_true rfl) (fun g C ret => ?_)
  unfold jX7_go at h
  refine vv_lv [0, 1, 2] [(0, .ref (M 0)), (1, .int a1), (2, .int a2)] rfl ?_
  refine vv_aload_n C dX7_go_0 rfl 0 rfl 1 rfl ?_
  refine vv_iconst C (v := 0) dX7_go_1 (by decide) 2 rfl ?_
  refine vv_put C (q0 := 0) (ci := 7) (k := 0) (ty := .int) (wX7_go c M 0 M_waters M_windX M_windY M_barrels M_crew M_strength M_people) tyX7 tyX7_ok nmX7 kinX7_go_X7 rfl rfl (by decide) kwX7_go_1 rfl rfl rfl rfl rfl (Nat.le_of_ble_eq_true rfl) rfl dX7_go_2 5 rfl ?_
  refine vv_aload_n C dX7_go_5 rfl 0 rfl 6 rfl ?_
  refine vv_iload_n C dX7_go_6 rfl 1 rfl 7 rfl ?_
  obtain ⟨r1, hr1, h⟩ := bnd_s h
  refine vv_callVi C (fun l => mt_X7_isPerson l D c M 0 M_waters M_windX M_windY M_barrels M_crew a1 r1 hr1) gX7_go_X7_isPerson rfl rfl rfl yd_X7_isPerson ⟨Nat.le_of_ble_eq_true rfl, Nat.le_of_ble_eq_true rfl⟩ [0] rfl (by decide) 0 rfl rfl (wX7_go c M 0 M_waters M_windX M_windY M_barrels M_crew M_strength M_people) [(true, 0), (false, 1), (false, 2)] rfl (by decide) rfl rfl [] rfl (Nat.le_of_ble_eq_true rfl) ⟨Nat.le_of_ble_eq_true rfl, Nat.le_of_ble_eq_true rfl⟩ dX7_go_7 10 0 0 rfl ⟨rfl, rfl⟩ ?_
  refine vv_if_eq C 21 13 dX7_go_10 (by decide) rfl (fun hc => ?_) (fun hc => ?_)
  · replace h := ite_t hc h
    refine vv_aload_n C dX7_go_21 rfl 0 rfl 22 rfl ?_
    refine vv_iconst C (v := 1) dX7_go_22 (by decide) 23 rfl ?_
    obtain ⟨r2, hr2, h⟩ := bnd_s h
    refine vv_callVi C (fun l => mt_X7_fail l D c M 0 M_waters M_windX M_windY M_barrels M_crew 1 r2 hr2) gX7_go_X7_fail rfl rfl rfl yd_X7_fail ⟨Nat.le_of_ble_eq_true rfl, Nat.le_of_ble_eq_true rfl⟩ [0] rfl (by decide) 0 rfl rfl (wX7_go c M r2.2 M_waters M_windX M_windY M_barrels M_crew M_strength M_people) [(true, 0), (false, 1), (false, 2)] rfl (by decide) rfl rfl [] rfl (Nat.le_of_ble_eq_true rfl) ⟨Nat.le_of_ble_eq_true rfl, Nat.le_of_ble_eq_true rfl⟩ dX7_go_23 26 0 0 rfl ⟨rfl, rfl⟩ ?_
    obtain rfl := Option.some.inj h
    exact ret _ _ dX7_go_26
  · replace h := ite_f hc h
    refine vv_aload_n C dX7_go_13 rfl 0 rfl 14 rfl ?_
    refine vv_iload_n C dX7_go_14 rfl 2 rfl 15 rfl ?_
    obtain ⟨r3, hr3, h⟩ := bnd_s h
    refine vv_callVi C (fun l => mt_X7_isBarrel l D c M 0 M_waters M_windX M_windY M_barrels M_crew a2 r3 hr3) gX7_go_X7_isBarrel rfl rfl rfl yd_X7_isBarrel ⟨Nat.le_of_ble_eq_true rfl, Nat.le_of_ble_eq_true rfl⟩ [0] rfl (by decide) 0 rfl rfl (wX7_go c M 0 M_waters M_windX M_windY M_barrels M_crew M_strength M_people) [(true, 0), (false, 1), (false, 2)] rfl (by decide) rfl rfl [] rfl (Nat.le_of_ble_eq_true rfl) ⟨Nat.le_of_ble_eq_true rfl, Nat.le_of_ble_eq_true rfl⟩ dX7_go_15 18 0 0 rfl ⟨rfl, rfl⟩ ?_
    refine vv_if_ne C 27 21 dX7_go_18 (by decide) rfl (fun hc => ?_) (fun hc => ?_)
    · replace h := ite_f hc h
      refine vv_aload_n C dX7_go_27 rfl 0 rfl 28 rfl ?_
      refine vv_get C (q0 := 0) (ci := 7) (k := 11) kinX7_go_X7 rfl rfl (by decide) kwX7_go_2 rfl rfl dX7_go_28 31 rfl ?_
      refine vv_iconst C (v := 2) dX7_go_31 (by decide) 32 rfl ?_
      refine vv_iload_n C dX7_go_32 rfl 1 rfl 33 rfl ?_
      refine vv_imul C dX7_go_33 34 rfl ?_
      obtain ⟨hi, h⟩ := chk_s h
      refine vv_iald C (q0 := 2) rfl hi dX7_go_34 35 rfl ?_
      refine vv_istore_n C [(3, .int (rd M_people (2 * a1))), (0, .ref (M 0)), (1, .int a1), (2, .int a2)] dX7_go_35 rfl (by decide) rfl 36 rfl ?_
      refine vv_iload_n C dX7_go_36 rfl 0 rfl 37 rfl ?_
      refine vv_iconst C (v := (-1)) dX7_go_37 (by decide) 38 rfl ?_
      refine vv_icmp_eq C 55 41 dX7_go_38 (by decide) rfl (fun hc => ?_) (fun hc => ?_)
      · replace h := ite_t hc h
        refine vv_aload_n C dX7_go_55 rfl 1 rfl 56 rfl ?_
        refine vv_iconst C (v := 2) dX7_go_56 (by decide) 57 rfl ?_
        obtain ⟨r4, hr4, h⟩ := bnd_s h
        refine vv_callVi C (fun l => mt_X7_fail l D c M 0 M_waters M_windX M_windY M_barrels M_crew 2 r4 hr4) gX7_go_X7_fail rfl rfl rfl yd_X7_fail ⟨Nat.le_of_ble_eq_true rfl, Nat.le_of_ble_eq_true rfl⟩ [0] rfl (by decide) 0 rfl rfl (wX7_go c M r4.2 M_waters M_windX M_windY M_barrels M_crew M_strength M_people) [(true, 0), (false, 1), (false, 2)] rfl (by decide) rfl rfl [] rfl (Nat.le_of_ble_eq_true rfl) ⟨Nat.le_of_ble_eq_true rfl, Nat.le_of_ble_eq_true rfl⟩ dX7_go_57 60 0 0 rfl ⟨rfl, rfl⟩ ?_
        obtain rfl := Option.some.inj h
        exact ret _ _ dX7_go_60
      · replace h := ite_f hc h
        refine vv_iload_n C dX7_go_41 rfl 0 rfl 42 rfl ?_
        refine vv_iload_n C dX7_go_42 rfl 3 rfl 43 rfl ?_
        refine vv_icmp_eq C 55 46 dX7_go_43 (by decide) rfl (fun hc => ?_) (fun hc => ?_)
        · replace h := ite_t hc h
          refine vv_aload_n C dX7_go_55 rfl 1 rfl 56 rfl ?_
          refine vv_iconst C (v := 2) dX7_go_56 (by decide) 57 rfl ?_
          obtain ⟨r5, hr5, h⟩ := bnd_s h
          refine vv_callVi C (fun l => mt_X7_fail l D c M 0 M_waters M_windX M_windY M_barrels M_crew 2 r5 hr5) gX7_go_X7_fail rfl rfl rfl yd_X7_fail ⟨Nat.le_of_ble_eq_true rfl, Nat.le_of_ble_eq_true rfl⟩ [0] rfl (by decide) 0 rfl rfl (wX7_go c M r5.2 M_waters M_windX M_windY M_barrels M_crew M_strength M_people) [(true, 0), (false, 1), (false, 2)] rfl (by decide) rfl rfl [] rfl (Nat.le_of_ble_eq_true rfl) ⟨Nat.le_of_ble_eq_true rfl, Nat.le_of_ble_eq_true rfl⟩ dX7_go_57 60 0 0 rfl ⟨rfl, rfl⟩ ?_
          obtain rfl := Option.some.inj h
          exact ret _ _ dX7_go_60
        · replace h := ite_f hc h
          refine vv_aload_n C dX7_go_46 rfl 1 rfl 47 rfl ?_
          refine vv_iload_n C dX7_go_47 rfl 0 rfl 48 rfl ?_
          refine vv_iload_n C dX7_go_48 rfl 3 rfl 49 rfl ?_
          obtain ⟨r6, hr6, h⟩ := bnd_s h
          refine vv_callVi C (fun l => mt_X7_isTied l D c M 0 M_waters M_windX M_windY M_barrels M_crew M_strength (rd M_people (2 * a1)) a2 r6 hr6) gX7_go_X7_isTied rfl rfl rfl yd_X7_isTied ⟨Nat.le_of_ble_eq_true rfl, Nat.le_of_ble_eq_true rfl⟩ [0, 1] rfl (by decide) 0 rfl rfl (wX7_go c M 0 M_waters M_windX M_windY M_barrels M_crew M_strength M_people) [(true, 0), (true, 1), (false, 2)] rfl (by decide) rfl rfl [] rfl (Nat.le_of_ble_eq_true rfl) ⟨Nat.le_of_ble_eq_true rfl, Nat.le_of_ble_eq_true rfl⟩ dX7_go_49 52 0 0 rfl ⟨rfl, rfl⟩ ?_
          refine vv_if_ne C 61 55 dX7_go_52 (by decide) rfl (fun hc => ?_) (fun hc => ?_)
          · replace h := ite_f hc h
            refine vv_aload_n C dX7_go_61 rfl 1 rfl 62 rfl ?_
            refine vv_get C (q0 := 0) (ci := 7) (k := 11) kinX7_go_X7 rfl rfl (by decide) kwX7_go_2 rfl rfl dX7_go_62 65 rfl ?_
            refine vv_iconst C (v := 2) dX7_go_65 (by decide) 66 rfl ?_
            refine vv_iload_n C dX7_go_66 rfl 2 rfl 67 rfl ?_
            refine vv_imul C dX7_go_67 68 rfl ?_
            refine vv_iload_n C dX7_go_68 rfl 3 rfl 69 rfl ?_
            obtain ⟨hi, h⟩ := chk_s h
            refine vv_iast C (q0 := 2) (wX7_go c M 0 M_waters M_windX M_windY M_barrels M_crew M_strength (wr M_people (2 * a1) a2)) rfl hi rfl dX7_go_69 70 rfl ?_
            refine vv_aload_n C dX7_go_70 rfl 1 rfl 71 rfl ?_
            refine vv_iload_n C dX7_go_71 rfl 3 rfl 72 rfl ?_
            obtain ⟨r7, hr7, h⟩ := bnd_s h
            refine vv_callVi C (fun l => mt_X7_crewOn l D c M 0 M_waters M_windX M_windY M_barrels M_crew (wr M_people (2 * a1) a2) a2 r7 hr7) gX7_go_X7_crewOn rfl rfl rfl yd_X7_crewOn ⟨Nat.le_of_ble_eq_true rfl, Nat.le_of_ble_eq_true rfl⟩ [0, 2] rfl (by decide) 0 rfl rfl (wX7_go c M 0 M_waters M_windX M_windY M_barrels M_crew M_strength (wr M_people (2 * a1) a2)) [(true, 0), (false, 1), (true, 1)] rfl (by decide) rfl rfl [] rfl (Nat.le_of_ble_eq_true rfl) ⟨Nat.le_of_ble_eq_true rfl, Nat.le_of_ble_eq_true rfl⟩ dX7_go_72 75 0 0 rfl ⟨rfl, rfl⟩ ?_
            obtain rfl := Option.some.inj h
            exact ret _ _ dX7_go_75
          · replace h := ite_t hc h
            refine vv_aload_n C dX7_go_55 rfl 1 rfl 56 rfl ?_
            refine vv_iconst C (v := 2) dX7_go_56 (by decide) 57 rfl ?_
            obtain ⟨r8, hr8, h⟩ := bnd_s h
            refine vv_callVi C (fun l => mt_X7_fail l D c M 0 M_waters M_windX M_windY M_barrels M_crew 2 r8 hr8) gX7_go_X7_fail rfl rfl rfl yd_X7_fail ⟨Nat.le_of_ble_eq_true rfl, Nat.le_of_ble_eq_true rfl⟩ [0] rfl (by decide) 0 rfl rfl (wX7_go c M r8.2 M_waters M_windX M_windY M_barrels M_crew M_strength M_people) [(true, 0), (false, 1), (false, 2)] rfl (by decide) rfl rfl [] rfl (Nat.le_of_ble_eq_true rfl) ⟨Nat.le_of_ble_eq_true rfl, Nat.le_of_ble_eq_true rfl⟩ dX7_go_57 60 0 0 rfl ⟨rfl, rfl⟩ ?_
            obtain rfl := Option.some.inj h
            exact ret _ _ dX7_go_60
    · replace h := ite_t hc h
      refine vv_aload_n C dX7_go_21 rfl 0 rfl 22 rfl ?_
      refine vv_iconst C (v := 1) dX7_go_22 (by decide) 23 rfl ?_
      obtain ⟨r9, hr9, h⟩ := bnd_s h
      refine vv_callVi C (fun l => mt_X7_fail l D c M 0 M_waters M_windX M_windY M_barrels M_crew 1 r9 hr9) gX7_go_X7_fail rfl rfl rfl yd_X7_fail ⟨Nat.le_of_ble_eq_true rfl, Nat.le_of_ble_eq_true rfl⟩ [0] rfl (by decide) 0 rfl rfl (wX7_go c M r9.2 M_waters M_windX M_windY M_barrels M_crew M_strength M_people) [(true, 0), (false, 1), (false, 2)] rfl (by decide) rfl rfl [] rfl (Nat.le_of_ble_eq_true rfl) ⟨Nat.le_of_ble_eq_true rfl, Nat.le_of_ble_eq_true rfl⟩ dX7_go_23 26 0 0 rfl ⟨rfl, rfl⟩ ?_
      obtain rfl := Option.some.inj h
      exact ret _ _ dX7_go_26
abbrev wX7_isReached (c : Nat → ClassId) (M : Nat → Nat) (M_thrown : Int32) (M_waters : Int32) (M_windX : Int32) (M_windY : Int32) (M_barrels : Int32) (M_crew : Int32) (M_strength : Nat → Int32) (M_wear : Nat → Int32) (M_is : Nat → Int32) : va_W := [(M 0, .inr (7, [.int M_thrown, .int M_waters, .ref (M 1), .int M_windX, .int M_windY, .int M_barrels, .ref (M 2), .int M_crew, .ref (M 3), .ref (M 4), .ref (M 5), .ref (M 6), .ref (M 7), .ref (M 8), .ref (M 9), .ref (M 10), .ref (M 11), .ref (M 12)])), aI c (M 4) 576 M_strength, aI c (M 5) 576 M_wear, aZ c (M 12) 24 M_is]
abbrev rmX7_isReached : Room := { frames := 3, cells := 0, slots := 0, locals := 64 }
theorem yd_X7_isReached : yX7_isReached.cls = RX7 ∧ yX7_isReached.cls ≠ "java/lang/invoke/MethodHandle" ∧ yX7_isReached.cls ≠ "java/lang/invoke/VarHandle" ∧ (parseMethodDescriptor yX7_isReached.desc).map (fun d => d.parameters.length) = some 4 := by decide +kernel
theorem kwX7_isReached_1 : Cond.fieldLink RX7 44 "BarrelRaftModel" "is" "[Z" ∈ wsX7_isReached := List.mem_of_getElem? (i := 1) rfl
set_option maxRecDepth 20000 in
theorem kinX7_isReached_X7 : ∀ w ∈ u_ws RX7 TX7 18, w ∈ wsX7_isReached := by decide +kernel
theorem kwX7_isReached_2 : Cond.fieldLink RX7 51 "BarrelRaftModel" "barrels" "I" ∈ wsX7_isReached := List.mem_of_getElem? (i := 2) rfl
theorem kwX7_isReached_3 : Cond.fieldLink RX7 19 "BarrelRaftModel" "strength" "[I" ∈ wsX7_isReached := List.mem_of_getElem? (i := 3) rfl
theorem kwX7_isReached_4 : Cond.fieldLink RX7 22 "BarrelRaftModel" "wear" "[I" ∈ wsX7_isReached := List.mem_of_getElem? (i := 4) rfl
def jX7_isReached_L3 (u1 : Int32) (n : Nat) (M_is_3 : Nat → Int32) (v5_3 : Int32) : Option ((Nat → Int32)) :=
  match n with
  | 0 => none
  | n + 1 => (if 24 ≤ v5_3 then some M_is_3 else (if v5_3 = u1 then chk 24 v5_3 (chkZ 1 (jX7_isReached_L3 u1 n (wr M_is_3 v5_3 1) (v5_3 + 1))) else chk 24 v5_3 (chkZ 0 (jX7_isReached_L3 u1 n (wr M_is_3 v5_3 0) (v5_3 + 1)))))
def jX7_isReached_L60 (M_barrels : Int32) (M_strength : Nat → Int32) (M_wear : Nat → Int32) (u3 : Int32) (u4 : Int32) (u6 : Int32) (n : Nat) (M_is_60 : Nat → Int32) (v5_60 : Int32) (v7_60 : Int32) : Option ((Nat → Int32) × Int32) :=
  match n with
  | 0 => none
  | n + 1 => (if M_barrels ≤ v7_60 then some (M_is_60, v5_60) else chk 24 u6 ((if rd M_is_60 u6 = 0 then some (M_is_60, v5_60) else bnd (jX7_pair u6 v7_60) (fun r2 => (if v7_60 = u6 then jX7_isReached_L60 M_barrels M_strength M_wear u3 u4 u6 n M_is_60 v5_60 (v7_60 + 1) else chk 24 v7_60 ((if rd M_is_60 v7_60 = 0 then bnd (jX7_isTied M_strength u6 v7_60) (fun r3 => (if r3 = 0 then jX7_isReached_L60 M_barrels M_strength M_wear u3 u4 u6 n M_is_60 v5_60 (v7_60 + 1) else (if r2 = u4 then jX7_isReached_L60 M_barrels M_strength M_wear u3 u4 u6 n M_is_60 v5_60 (v7_60 + 1) else chk 576 r2 (chk 576 r2 ((if u3 ≤ (rd M_strength r2) - (rd M_wear r2) then chk 24 v7_60 (chkZ 1 (jX7_isReached_L60 M_barrels M_strength M_wear u3 u4 u6 n (wr M_is_60 v7_60 1) 1 (v7_60 + 1))) else jX7_isReached_L60 M_barrels M_strength M_wear u3 u4 u6 n M_is_60 v5_60 (v7_60 + 1))))))) else jX7_isReached_L60 M_barrels M_strength M_wear u3 u4 u6 n M_is_60 v5_60 (v7_60 + 1))))))))
def jX7_isReached_L48 (M_barrels : Int32) (M_strength : Nat → Int32) (M_wear : Nat → Int32) (u3 : Int32) (u4 : Int32) (n : Nat) (M_is_48 : Nat → Int32) (v5_48 : Int32) (v6_48 : Int32) : Option ((Nat → Int32) × Int32) :=
  match n with
  | 0 => none
  | n + 1 => (if M_barrels ≤ v6_48 then some (M_is_48, v5_48) else bnd (jX7_isReached_L60 M_barrels M_strength M_wear u3 u4 v6_48 FU M_is_48 v5_48 0) (fun r4 => jX7_isReached_L48 M_barrels M_strength M_wear u3 u4 n r4.1 r4.2 (v6_48 + 1)))
def jX7_isReached_L37 (M_barrels : Int32) (M_strength : Nat → Int32) (M_wear : Nat → Int32) (u3 : Int32) (u4 : Int32) (n : Nat) (M_is_37 : Nat → Int32) (v5_37 : Int32) : Option ((Nat → Int32)) :=
  match n with
  | 0 => none
  | n + 1 => (if v5_37 = 0 then some M_is_37 else bnd (jX7_isReached_L48 M_barrels M_strength M_wear u3 u4 FU M_is_37 0 0) (fun r5 => jX7_isReached_L37 M_barrels M_strength M_wear u3 u4 n r5.1 r5.2))
def jX7_isReached (M_barrels : Int32) (M_strength : Nat → Int32) (M_wear : Nat → Int32) (M_is : Nat → Int32) (a1 : Int32) (a2 : Int32) (a3 : Int32) (a4 : Int32) : Option (Int32 × (Nat → Int32)) :=
  bnd (jX7_isReached_L3 a1 FU M_is 0) (fun r1 => bnd (jX7_isReached_L37 M_barrels M_strength M_wear a3 a4 FU r1 1) (fun r6 => chk 24 a2 (chkZ (rd r6 a2) (some (rd r6 a2, r6)))))
set_option maxHeartbeats 4000000 in
set_option maxRecDepth 100000 in
theorem mt_X7_isReached (l : Launch) (D : va_G) (c : Nat → ClassId) (M : Nat → Nat) (M_thrown : Int32) (M_waters : Int32) (M_windX : Int32) (M_windY : Int32) (M_barrels : Int32) (M_crew : Int32) (M_strength : Nat → Int32) (M_wear : Nat → Int32) (M_is : Nat → Int32) (a1 : Int32) (a2 : Int32) (a3 : Int32) (a4 : Int32) (q0 : Int32 × (Nat → Int32)) (h : jX7_isReached M_barrels M_strength M_wear M_is a1 a2 a3 a4 = some q0) : DTi l yX7_isReached wsX7_isReached rmX7_isReached D c (wX7_isReached c M M_thrown M_waters M_windX M_windY M_barrels M_crew M_strength M_wear M_is) [.ref (M 0), .int a1, .int a2, .int a3, .int a4] q0.1 (wX7_isReached c M M_thrown M_waters M_windX M_windY M_barrels M_crew M_strength M_wear q0.2) 0 0 := by
  refine DTz_of (cc := cX7_isReached) (nL := 9) RX7 rfl (by decide) rfl (Nat.le_of_ble_eq_true rfl) (fun g C ret => ?_)
  unfold jX7_isReached at h
  refine vv_lv [0, 1, 2, 3, 4] [(0, .ref (M 0)), (1, .int a1), (2, .int a2), (3, .int a3), (4, .int a4)] rfl ?_
  refine vv_iconst C (v := 0) dX7_isReached_0 (by decide) 1 rfl ?_
  refine vv_istore C [(5, .int 0), (0, .ref (M 0)), (1, .int a1), (2, .int a2), (3, .int a3), (4, .int a4)] dX7_isReached_1 (by decide) rfl 3 rfl ?_
  refine vv_lv [1, 2, 3, 4, 5, 0] [(0, .ref (M 0)), (1, .int a1), (2, .int a2), (3, .int a3), (4, .int a4), (5, .int 0)] rfl ?_
  have L3 : ∀ (n : Nat) (M_is_3 : Nat → Int32) (v5_3 : Int32) (q3 : (Nat → Int32)), jX7_isReached_L3 a1 n M_is_3 v5_3 = some q3 → (VV g D 9 0 0 (wX7_isReached c M M_thrown M_waters M_windX M_windY M_barrels M_crew M_strength M_wear q3) [(0, .ref (M 0)), (2, .int a2), (3, .int a3), (4, .int a4)] 34 []) → VV g D 9 0 0 (wX7_isReached c M M_thrown M_waters M_windX M_windY M_barrels M_crew M_strength M_wear M_is_3) [(0, .ref (M 0)), (1, .int a1), (2, .int a2), (3, .int a3), (4, .int a4), (5, .int v5_3)] 3 [] := by
    intro n
    induction n with
    | zero =>
      intro M_is_3 v5_3 q3 h _
      rw [jX7_isReached_L3] at h
      cases h
    | succ n ih3 =>
      intro M_is_3 v5_3 q3 h kk3
      rw [jX7_isReached_L3] at h
      refine vv_iload C dX7_isReached_3 5 rfl 5 rfl ?_
      refine vv_bipush C (v := 24) dX7_isReached_5 (by decide) 7 rfl ?_
      refine vv_icmp_ge C 34 10 dX7_isReached_7 (by decide) rfl (fun hc => ?_) (fun hc => ?_)
      · replace h := ite_t hc h
        refine vv_lv [0, 2, 3, 4] [(0, .ref (M 0)), (2, .int a2), (3, .int a3), (4, .int a4)] rfl ?_
        obtain rfl := Option.some.inj h
        exact kk3
      · replace h := ite_f hc h
        refine vv_aload_n C dX7_isReached_10 rfl 0 rfl 11 rfl ?_
        refine vv_get C (q0 := 0) (ci := 7) (k := 17) kinX7_isReached_X7 rfl rfl (by decide) kwX7_isReached_1 rfl rfl dX7_isReached_11 14 rfl ?_
        refine vv_iload C dX7_isReached_14 5 rfl 16 rfl ?_
        refine vv_iload C dX7_isReached_16 5 rfl 18 rfl ?_
        refine vv_iload_n C dX7_isReached_18 rfl 1 rfl 19 rfl ?_
        refine vv_icmp_ne C 26 22 dX7_isReached_19 (by decide) rfl (fun hc => ?_) (fun hc => ?_)
        · replace h := ite_f hc h
          refine vv_iconst C (v := 0) dX7_isReached_26 (by decide) 27 rfl ?_
          obtain ⟨hi, h⟩ := chk_s h
          obtain ⟨hz, h⟩ := chkZ_s h
          refine vv_zast C (q0 := 3) (wX7_isReached c M M_thrown M_waters M_windX M_windY M_barrels M_crew M_strength M_wear (wr M_is_3 v5_3 0)) rfl hi hz rfl dX7_isReached_27 28 rfl ?_
          refine vv_iinc C (k := 5) [(5, .int (v5_3 + 1)), (0, .ref (M 0)), (1, .int a1), (2, .int a2), (3, .int a3), (4, .int a4)] dX7_isReached_28 rfl rfl (by decide) rfl 31 rfl ?_
          refine vv_goto C 3 dX7_isReached_31 (by decide) ?_
          refine vv_lv [1, 2, 3, 4, 5, 0] [(0, .ref (M 0)), (1, .int a1), (2, .int a2), (3, .int a3), (4, .int a4), (5, .int (v5_3 + 1))] rfl ?_
          exact ih3 (wr M_is_3 v5_3 0) (v5_3 + 1) _ h kk3
        · replace h := ite_t hc h
          refine vv_iconst C (v := 1) dX7_isReached_22 (by decide) 23 rfl ?_
          refine vv_goto C 27 dX7_isReached_23 (by decide) ?_
          obtain ⟨hi, h⟩ := chk_s h
          obtain ⟨hz, h⟩ := chkZ_s h
          refine vv_zast C (q0 := 3) (wX7_isReached c M M_thrown M_waters M_windX M_windY M_barrels M_crew M_strength M_wear (wr M_is_3 v5_3 1)) rfl hi hz rfl dX7_isReached_27 28 rfl ?_
          refine vv_iinc C (k := 5) [(5, .int (v5_3 + 1)), (0, .ref (M 0)), (1, .int a1), (2, .int a2), (3, .int a3), (4, .int a4)] dX7_isReached_28 rfl rfl (by decide) rfl 31 rfl ?_
          refine vv_goto C 3 dX7_isReached_31 (by decide) ?_
          refine vv_lv [1, 2, 3, 4, 5, 0] [(0, .ref (M 0)), (1, .int a1), (2, .int a2), (3, .int a3), (4, .int a4), (5, .int (v5_3 + 1))] rfl ?_
          exact ih3 (wr M_is_3 v5_3 1) (v5_3 + 1) _ h kk3
  obtain ⟨r1, hr1, h⟩ := bnd_s h
  refine L3 FU M_is 0 r1 hr1 ?_
  refine vv_iconst C (v := 1) dX7_isReached_34 (by decide) 35 rfl ?_
  refine vv_istore C [(5, .int 1), (0, .ref (M 0)), (2, .int a2), (3, .int a3), (4, .int a4)] dX7_isReached_35 (by decide) rfl 37 rfl ?_
  refine vv_lv [1, 2, 3, 4, 0] [(0, .ref (M 0)), (2, .int a2), (3, .int a3), (4, .int a4), (5, .int 1)] rfl ?_
  have L37 : ∀ (n : Nat) (M_is_37 : Nat → Int32) (v5_37 : Int32) (q37 : (Nat → Int32)), jX7_isReached_L37 M_barrels M_strength M_wear a3 a4 n M_is_37 v5_37 = some q37 → (VV g D 9 0 0 (wX7_isReached c M M_thrown M_waters M_windX M_windY M_barrels M_crew M_strength M_wear q37) [(0, .ref (M 0)), (2, .int a2)] 171 []) → VV g D 9 0 0 (wX7_isReached c M M_thrown M_waters M_windX M_windY M_barrels M_crew M_strength M_wear M_is_37) [(0, .ref (M 0)), (2, .int a2), (3, .int a3), (4, .int a4), (5, .int v5_37)] 37 [] := by
    intro n
    induction n with
    | zero =>
      intro M_is_37 v5_37 q37 h _
      rw [jX7_isReached_L37] at h
      cases h
    | succ n ih37 =>
      intro M_is_37 v5_37 q37 h kk37
      rw [jX7_isReached_L37] at h
      refine vv_iload C dX7_isReached_37 4 rfl 39 rfl ?_
      refine vv_if_eq C 171 42 dX7_isReached_39 (by decide) rfl (fun hc => ?_) (fun hc => ?_)
      · replace h := ite_t hc h
        refine vv_lv [0, 1] [(0, .ref (M 0)), (2, .int a2)] rfl ?_
        obtain rfl := Option.some.inj h
        exact kk37
      · replace h := ite_f hc h
        refine vv_iconst C (v := 0) dX7_isReached_42 (by decide) 43 rfl ?_
        refine vv_istore C [(5, .int 0), (0, .ref (M 0)), (2, .int a2), (3, .int a3), (4, .int a4)] dX7_isReached_43 (by decide) rfl 45 rfl ?_
        refine vv_iconst C (v := 0) dX7_isReached_45 (by decide) 46 rfl ?_
        refine vv_istore C [(6, .int 0), (5, .int 0), (0, .ref (M 0)), (2, .int a2), (3, .int a3), (4, .int a4)] dX7_isReached_46 (by decide) rfl 48 rfl ?_
        refine vv_lv [2, 3, 4, 5, 1, 0] [(0, .ref (M 0)), (2, .int a2), (3, .int a3), (4, .int a4), (5, .int 0), (6, .int 0)] rfl ?_
        have L48 : ∀ (n : Nat) (M_is_48 : Nat → Int32) (v5_48 : Int32) (v6_48 : Int32) (q48 : (Nat → Int32) × Int32), jX7_isReached_L48 M_barrels M_strength M_wear a3 a4 n M_is_48 v5_48 v6_48 = some q48 → (VV g D 9 0 0 (wX7_isReached c M M_thrown M_waters M_windX M_windY M_barrels M_crew M_strength M_wear q48.1) [(0, .ref (M 0)), (2, .int a2), (3, .int a3), (4, .int a4), (5, .int q48.2)] 168 []) → VV g D 9 0 0 (wX7_isReached c M M_thrown M_waters M_windX M_windY M_barrels M_crew M_strength M_wear M_is_48) [(0, .ref (M 0)), (2, .int a2), (3, .int a3), (4, .int a4), (5, .int v5_48), (6, .int v6_48)] 48 [] := by
          intro n
          induction n with
          | zero =>
            intro M_is_48 v5_48 v6_48 q48 h _
            rw [jX7_isReached_L48] at h
            cases h
          | succ n ih48 =>
            intro M_is_48 v5_48 v6_48 q48 h kk48
            rw [jX7_isReached_L48] at h
            refine vv_iload C dX7_isReached_48 5 rfl 50 rfl ?_
            refine vv_aload_n C dX7_isReached_50 rfl 0 rfl 51 rfl ?_
            refine vv_get C (q0 := 0) (ci := 7) (k := 5) kinX7_isReached_X7 rfl rfl (by decide) kwX7_isReached_2 rfl rfl dX7_isReached_51 54 rfl ?_
            refine vv_icmp_ge C 168 57 dX7_isReached_54 (by decide) rfl (fun hc => ?_) (fun hc => ?_)
            · replace h := ite_t hc h
              refine vv_lv [0, 1, 2, 3, 4] [(0, .ref (M 0)), (2, .int a2), (3, .int a3), (4, .int a4), (5, .int v5_48)] rfl ?_
              obtain rfl := Option.some.inj h
              exact kk48
            · replace h := ite_f hc h
              refine vv_iconst C (v := 0) dX7_isReached_57 (by decide) 58 rfl ?_
              refine vv_istore C [(7, .int 0), (0, .ref (M 0)), (2, .int a2), (3, .int a3), (4, .int a4), (5, .int v5_48), (6, .int v6_48)] dX7_isReached_58 (by decide) rfl 60 rfl ?_
              refine vv_lv [1, 2, 3, 4, 5, 6, 0] [(0, .ref (M 0)), (2, .int a2), (3, .int a3), (4, .int a4), (5, .int v5_48), (6, .int v6_48), (7, .int 0)] rfl ?_
              have L60 : ∀ (n : Nat) (M_is_60 : Nat → Int32) (v5_60 : Int32) (v7_60 : Int32) (q60 : (Nat → Int32) × Int32), jX7_isReached_L60 M_barrels M_strength M_wear a3 a4 v6_48 n M_is_60 v5_60 v7_60 = some q60 → (VV g D 9 0 0 (wX7_isReached c M M_thrown M_waters M_windX M_windY M_barrels M_crew M_strength M_wear q60.1) [(0, .ref (M 0)), (2, .int a2), (3, .int a3), (4, .int a4), (5, .int q60.2), (6, .int v6_48)] 162 []) → VV g D 9 0 0 (wX7_isReached c M M_thrown M_waters M_windX M_windY M_barrels M_crew M_strength M_wear M_is_60) [(0, .ref (M 0)), (2, .int a2), (3, .int a3), (4, .int a4), (5, .int v5_60), (6, .int v6_48), (7, .int v7_60)] 60 [] := by
                intro n
                induction n with
                | zero =>
                  intro M_is_60 v5_60 v7_60 q60 h _
                  rw [jX7_isReached_L60] at h
                  cases h
                | succ n ih60 =>
                  intro M_is_60 v5_60 v7_60 q60 h kk60
                  rw [jX7_isReached_L60] at h
                  refine vv_iload C dX7_isReached_60 6 rfl 62 rfl ?_
                  refine vv_aload_n C dX7_isReached_62 rfl 0 rfl 63 rfl ?_
                  refine vv_get C (q0 := 0) (ci := 7) (k := 5) kinX7_isReached_X7 rfl rfl (by decide) kwX7_isReached_2 rfl rfl dX7_isReached_63 66 rfl ?_
                  refine vv_icmp_ge C 162 69 dX7_isReached_66 (by decide) rfl (fun hc => ?_) (fun hc => ?_)
                  · replace h := ite_t hc h
                    refine vv_lv [0, 1, 2, 3, 4, 5] [(0, .ref (M 0)), (2, .int a2), (3, .int a3), (4, .int a4), (5, .int v5_60), (6, .int v6_48)] rfl ?_
                    obtain rfl := Option.some.inj h
                    exact kk60
                  · replace h := ite_f hc h
                    refine vv_aload_n C dX7_isReached_69 rfl 0 rfl 70 rfl ?_
                    refine vv_get C (q0 := 0) (ci := 7) (k := 17) kinX7_isReached_X7 rfl rfl (by decide) kwX7_isReached_1 rfl rfl dX7_isReached_70 73 rfl ?_
                    refine vv_iload C dX7_isReached_73 5 rfl 75 rfl ?_
                    obtain ⟨hi, h⟩ := chk_s h
                    refine vv_zald C (q0 := 3) rfl hi dX7_isReached_75 76 rfl ?_
                    refine vv_if_eq C 162 79 dX7_isReached_76 (by decide) rfl (fun hc => ?_) (fun hc => ?_)
                    · replace h := ite_t hc h
                      refine vv_lv [0, 1, 2, 3, 4, 5] [(0, .ref (M 0)), (2, .int a2), (3, .int a3), (4, .int a4), (5, .int v5_60), (6, .int v6_48)] rfl ?_
                      obtain rfl := Option.some.inj h
                      exact kk60
                    · replace h := ite_f hc h
                      refine vv_iload C dX7_isReached_79 5 rfl 81 rfl ?_
                      refine vv_iload C dX7_isReached_81 6 rfl 83 rfl ?_
                      obtain ⟨r2, hr2, h⟩ := bnd_s h
                      refine vv_callSi C (fun l => mt_X7_pair l D c v6_48 v7_60 r2 hr2) gX7_isReached_X7_pair rfl rfl rfl yd_X7_pair ⟨Nat.le_of_ble_eq_true rfl, Nat.le_of_ble_eq_true rfl⟩ [] rfl (by decide) (wX7_isReached c M M_thrown M_waters M_windX M_windY M_barrels M_crew M_strength M_wear M_is_60) [(false, 0), (false, 1), (false, 2), (false, 3)] rfl (by decide) rfl rfl [] rfl (Nat.le_of_ble_eq_true rfl) ⟨Nat.le_of_ble_eq_true rfl, Nat.le_of_ble_eq_true rfl⟩ dX7_isReached_83 86 0 0 rfl ⟨rfl, rfl⟩ ?_
                      refine vv_istore C [(8, .int r2), (0, .ref (M 0)), (2, .int a2), (3, .int a3), (4, .int a4), (5, .int v5_60), (6, .int v6_48), (7, .int v7_60)] dX7_isReached_86 (by decide) rfl 88 rfl ?_
                      refine vv_iload C dX7_isReached_88 7 rfl 90 rfl ?_
                      refine vv_iload C dX7_isReached_90 6 rfl 92 rfl ?_
                      refine vv_icmp_eq C 156 95 dX7_isReached_92 (by decide) rfl (fun hc => ?_) (fun hc => ?_)
                      · replace h := ite_t hc h
                        refine vv_iinc C (k := 7) [(7, .int (v7_60 + 1)), (8, .int r2), (0, .ref (M 0)), (2, .int a2), (3, .int a3), (4, .int a4), (5, .int v5_60), (6, .int v6_48)] dX7_isReached_156 rfl rfl (by decide) rfl 159 rfl ?_
                        refine vv_goto C 60 dX7_isReached_159 (by decide) ?_
                        refine vv_lv [2, 3, 4, 5, 6, 7, 0] [(0, .ref (M 0)), (2, .int a2), (3, .int a3), (4, .int a4), (5, .int v5_60), (6, .int v6_48), (7, .int (v7_60 + 1))] rfl ?_
                        exact ih60 M_is_60 v5_60 (v7_60 + 1) _ h kk60
                      · replace h := ite_f hc h
                        refine vv_aload_n C dX7_isReached_95 rfl 1 rfl 96 rfl ?_
                        refine vv_get C (q0 := 0) (ci := 7) (k := 17) kinX7_isReached_X7 rfl rfl (by decide) kwX7_isReached_1 rfl rfl dX7_isReached_96 99 rfl ?_
                        refine vv_iload C dX7_isReached_99 7 rfl 101 rfl ?_
                        obtain ⟨hi, h⟩ := chk_s h
                        refine vv_zald C (q0 := 3) rfl hi dX7_isReached_101 102 rfl ?_
                        refine vv_if_ne C 156 105 dX7_isReached_102 (by decide) rfl (fun hc => ?_) (fun hc => ?_)
                        · replace h := ite_f hc h
                          refine vv_iinc C (k := 7) [(7, .int (v7_60 + 1)), (8, .int r2), (0, .ref (M 0)), (2, .int a2), (3, .int a3), (4, .int a4), (5, .int v5_60), (6, .int v6_48)] dX7_isReached_156 rfl rfl (by decide) rfl 159 rfl ?_
                          refine vv_goto C 60 dX7_isReached_159 (by decide) ?_
                          refine vv_lv [2, 3, 4, 5, 6, 7, 0] [(0, .ref (M 0)), (2, .int a2), (3, .int a3), (4, .int a4), (5, .int v5_60), (6, .int v6_48), (7, .int (v7_60 + 1))] rfl ?_
                          exact ih60 M_is_60 v5_60 (v7_60 + 1) _ h kk60
                        · replace h := ite_t hc h
                          refine vv_aload_n C dX7_isReached_105 rfl 1 rfl 106 rfl ?_
                          refine vv_iload C dX7_isReached_106 6 rfl 108 rfl ?_
                          refine vv_iload C dX7_isReached_108 7 rfl 110 rfl ?_
                          obtain ⟨r3, hr3, h⟩ := bnd_s h
                          refine vv_callVi C (fun l => mt_X7_isTied l D c M M_thrown M_waters M_windX M_windY M_barrels M_crew M_strength v6_48 v7_60 r3 hr3) gX7_isReached_X7_isTied rfl rfl rfl yd_X7_isTied ⟨Nat.le_of_ble_eq_true rfl, Nat.le_of_ble_eq_true rfl⟩ [0, 1] rfl (by decide) 0 rfl rfl (wX7_isReached c M M_thrown M_waters M_windX M_windY M_barrels M_crew M_strength M_wear M_is_60) [(true, 0), (true, 1), (false, 2), (false, 3)] rfl (by decide) rfl rfl [] rfl (Nat.le_of_ble_eq_true rfl) ⟨Nat.le_of_ble_eq_true rfl, Nat.le_of_ble_eq_true rfl⟩ dX7_isReached_110 113 0 0 rfl ⟨rfl, rfl⟩ ?_
                          refine vv_if_eq C 156 116 dX7_isReached_113 (by decide) rfl (fun hc => ?_) (fun hc => ?_)
                          · replace h := ite_t hc h
                            refine vv_iinc C (k := 7) [(7, .int (v7_60 + 1)), (8, .int r2), (0, .ref (M 0)), (2, .int a2), (3, .int a3), (4, .int a4), (5, .int v5_60), (6, .int v6_48)] dX7_isReached_156 rfl rfl (by decide) rfl 159 rfl ?_
                            refine vv_goto C 60 dX7_isReached_159 (by decide) ?_
                            refine vv_lv [2, 3, 4, 5, 6, 7, 0] [(0, .ref (M 0)), (2, .int a2), (3, .int a3), (4, .int a4), (5, .int v5_60), (6, .int v6_48), (7, .int (v7_60 + 1))] rfl ?_
                            exact ih60 M_is_60 v5_60 (v7_60 + 1) _ h kk60
                          · replace h := ite_f hc h
                            refine vv_iload C dX7_isReached_116 0 rfl 118 rfl ?_
                            refine vv_iload C dX7_isReached_118 4 rfl 120 rfl ?_
                            refine vv_icmp_eq C 156 123 dX7_isReached_120 (by decide) rfl (fun hc => ?_) (fun hc => ?_)
                            · replace h := ite_t hc h
                              refine vv_iinc C (k := 7) [(7, .int (v7_60 + 1)), (8, .int r2), (0, .ref (M 0)), (2, .int a2), (3, .int a3), (4, .int a4), (5, .int v5_60), (6, .int v6_48)] dX7_isReached_156 rfl rfl (by decide) rfl 159 rfl ?_
                              refine vv_goto C 60 dX7_isReached_159 (by decide) ?_
                              refine vv_lv [2, 3, 4, 5, 6, 7, 0] [(0, .ref (M 0)), (2, .int a2), (3, .int a3), (4, .int a4), (5, .int v5_60), (6, .int v6_48), (7, .int (v7_60 + 1))] rfl ?_
                              exact ih60 M_is_60 v5_60 (v7_60 + 1) _ h kk60
                            · replace h := ite_f hc h
                              refine vv_aload_n C dX7_isReached_123 rfl 1 rfl 124 rfl ?_
                              refine vv_get C (q0 := 0) (ci := 7) (k := 9) kinX7_isReached_X7 rfl rfl (by decide) kwX7_isReached_3 rfl rfl dX7_isReached_124 127 rfl ?_
                              refine vv_iload C dX7_isReached_127 0 rfl 129 rfl ?_
                              obtain ⟨hi, h⟩ := chk_s h
                              refine vv_iald C (q0 := 1) rfl hi dX7_isReached_129 130 rfl ?_
                              refine vv_aload_n C dX7_isReached_130 rfl 1 rfl 131 rfl ?_
                              refine vv_get C (q0 := 0) (ci := 7) (k := 10) kinX7_isReached_X7 rfl rfl (by decide) kwX7_isReached_4 rfl rfl dX7_isReached_131 134 rfl ?_
                              refine vv_iload C dX7_isReached_134 0 rfl 136 rfl ?_
                              obtain ⟨hi, h⟩ := chk_s h
                              refine vv_iald C (q0 := 2) rfl hi dX7_isReached_136 137 rfl ?_
                              refine vv_isub C dX7_isReached_137 138 rfl ?_
                              refine vv_iload_n C dX7_isReached_138 rfl 3 rfl 139 rfl ?_
                              refine vv_icmp_ge C 145 142 dX7_isReached_139 (by decide) rfl (fun hc => ?_) (fun hc => ?_)
                              · replace h := ite_t hc h
                                refine vv_aload_n C dX7_isReached_145 rfl 1 rfl 146 rfl ?_
                                refine vv_get C (q0 := 0) (ci := 7) (k := 17) kinX7_isReached_X7 rfl rfl (by decide) kwX7_isReached_1 rfl rfl dX7_isReached_146 149 rfl ?_
                                refine vv_iload C dX7_isReached_149 7 rfl 151 rfl ?_
                                refine vv_iconst C (v := 1) dX7_isReached_151 (by decide) 152 rfl ?_
                                obtain ⟨hi, h⟩ := chk_s h
                                obtain ⟨hz, h⟩ := chkZ_s h
                                refine vv_zast C (q0 := 3) (wX7_isReached c M M_thrown M_waters M_windX M_windY M_barrels M_crew M_strength M_wear (wr M_is_60 v7_60 1)) rfl hi hz rfl dX7_isReached_152 153 rfl ?_
                                refine vv_iconst C (v := 1) dX7_isReached_153 (by decide) 154 rfl ?_
                                refine vv_istore C [(5, .int 1), (8, .int r2), (0, .ref (M 0)), (2, .int a2), (3, .int a3), (4, .int a4), (6, .int v6_48), (7, .int v7_60)] dX7_isReached_154 (by decide) rfl 156 rfl ?_
                                refine vv_iinc C (k := 7) [(7, .int (v7_60 + 1)), (5, .int 1), (8, .int r2), (0, .ref (M 0)), (2, .int a2), (3, .int a3), (4, .int a4), (6, .int v6_48)] dX7_isReached_156 rfl rfl (by decide) rfl 159 rfl ?_
                                refine vv_goto C 60 dX7_isReached_159 (by decide) ?_
                                refine vv_lv [3, 4, 5, 6, 1, 7, 0] [(0, .ref (M 0)), (2, .int a2), (3, .int a3), (4, .int a4), (5, .int 1), (6, .int v6_48), (7, .int (v7_60 + 1))] rfl ?_
                                exact ih60 (wr M_is_60 v7_60 1) 1 (v7_60 + 1) _ h kk60
                              · replace h := ite_f hc h
                                refine vv_goto C 156 dX7_isReached_142 (by decide) ?_
                                refine vv_iinc C (k := 7) [(7, .int (v7_60 + 1)), (8, .int r2), (0, .ref (M 0)), (2, .int a2), (3, .int a3), (4, .int a4), (5, .int v5_60), (6, .int v6_48)] dX7_isReached_156 rfl rfl (by decide) rfl 159 rfl ?_
                                refine vv_goto C 60 dX7_isReached_159 (by decide) ?_
                                refine vv_lv [2, 3, 4, 5, 6, 7, 0] [(0, .ref (M 0)), (2, .int a2), (3, .int a3), (4, .int a4), (5, .int v5_60), (6, .int v6_48), (7, .int (v7_60 + 1))] rfl ?_
                                exact ih60 M_is_60 v5_60 (v7_60 + 1) _ h kk60
              obtain ⟨r4, hr4, h⟩ := bnd_s h
              refine L60 FU M_is_48 v5_48 0 r4 hr4 ?_
              refine vv_iinc C (k := 5) [(6, .int (v6_48 + 1)), (0, .ref (M 0)), (2, .int a2), (3, .int a3), (4, .int a4), (5, .int r4.2)] dX7_isReached_162 rfl rfl (by decide) rfl 165 rfl ?_
              refine vv_goto C 48 dX7_isReached_165 (by decide) ?_
              refine vv_lv [1, 2, 3, 4, 5, 0] [(0, .ref (M 0)), (2, .int a2), (3, .int a3), (4, .int a4), (5, .int r4.2), (6, .int (v6_48 + 1))] rfl ?_
              exact ih48 r4.1 r4.2 (v6_48 + 1) _ h kk48
        obtain ⟨r5, hr5, h⟩ := bnd_s h
        refine L48 FU M_is_37 0 0 r5 hr5 ?_
        refine vv_goto C 37 dX7_isReached_168 (by decide) ?_
        exact ih37 r5.1 r5.2 _ h kk37
  obtain ⟨r6, hr6, h⟩ := bnd_s h
  refine L37 FU r1 1 r6 hr6 ?_
  refine vv_aload_n C dX7_isReached_171 rfl 0 rfl 172 rfl ?_
  refine vv_get C (q0 := 0) (ci := 7) (k := 17) kinX7_isReached_X7 rfl rfl (by decide) kwX7_isReached_1 rfl rfl dX7_isReached_172 175 rfl ?_
  refine vv_iload_n C dX7_isReached_175 rfl 1 rfl 176 rfl ?_
  obtain ⟨hi, h⟩ := chk_s h
  refine vv_zald C (q0 := 3) rfl hi dX7_isReached_176 177 rfl ?_
  obtain ⟨hz, h⟩ := chkZ_s h
  obtain rfl := Option.some.inj h
  exact ret _ _ hz dX7_isReached_177
abbrev wX7_hold (c : Nat → ClassId) (M : Nat → Nat) (M_thrown : Int32) (M_waters : Int32) (M_windX : Int32) (M_windY : Int32) (M_barrels : Int32) (M_crew : Int32) (M_strength : Nat → Int32) (M_wear : Nat → Int32) (M_is : Nat → Int32) : va_W := [(M 0, .inr (7, [.int M_thrown, .int M_waters, .ref (M 1), .int M_windX, .int M_windY, .int M_barrels, .ref (M 2), .int M_crew, .ref (M 3), .ref (M 4), .ref (M 5), .ref (M 6), .ref (M 7), .ref (M 8), .ref (M 9), .ref (M 10), .ref (M 11), .ref (M 12)])), aI c (M 4) 576 M_strength, aI c (M 5) 576 M_wear, aZ c (M 12) 24 M_is]
abbrev rmX7_hold : Room := { frames := 4, cells := 0, slots := 0, locals := 92 }
theorem yd_X7_hold : yX7_hold.cls = RX7 ∧ yX7_hold.cls ≠ "java/lang/invoke/MethodHandle" ∧ yX7_hold.cls ≠ "java/lang/invoke/VarHandle" ∧ (parseMethodDescriptor yX7_hold.desc).map (fun d => d.parameters.length) = some 2 := by decide +kernel
theorem kwX7_hold_1 : Cond.fieldLink RX7 47 "BarrelRaftModel" "thrown" "I" ∈ wsX7_hold := List.mem_of_getElem? (i := 1) rfl
set_option maxRecDepth 20000 in
theorem kinX7_hold_X7 : ∀ w ∈ u_ws RX7 TX7 18, w ∈ wsX7_hold := by decide +kernel
def jX7_hold_L29 (M_barrels : Int32) (M_strength : Nat → Int32) (M_wear : Nat → Int32) (u1 : Int32) (u2 : Int32) (n : Nat) (M_is_29 : Nat → Int32) (v3_29 : Int32) : Option ((Nat → Int32) × Int32) :=
  match n with
  | 0 => none
  | n + 1 => (if u1 = u2 then some (M_is_29, v3_29) else (if 50 ≤ v3_29 then some (M_is_29, v3_29) else bnd (jX7_isReached M_barrels M_strength M_wear M_is_29 u1 u2 (v3_29 + 1) (-1)) (fun r4 => (if r4.1 = 0 then some (r4.2, v3_29) else jX7_hold_L29 M_barrels M_strength M_wear u1 u2 n r4.2 (v3_29 + 1)))))
def jX7_hold (M_thrown : Int32) (M_barrels : Int32) (M_strength : Nat → Int32) (M_wear : Nat → Int32) (M_is : Nat → Int32) (a1 : Int32) (a2 : Int32) : Option (Int32 × Int32 × (Nat → Int32)) :=
  bnd (jX7_isBarrel M_barrels a1) (fun r1 => (if r1 = 0 then bnd (jX7_fail 0 1) (fun r2 => some (r2.1, r2.2, M_is)) else bnd (jX7_isBarrel M_barrels a2) (fun r3 => (if r3 = 0 then bnd (jX7_fail 0 1) (fun r6 => some (r6.1, r6.2, M_is)) else bnd (jX7_hold_L29 M_barrels M_strength M_wear a1 a2 FU M_is 0) (fun r5 => some (r5.2, 0, r5.1))))))
set_option maxHeartbeats 4000000 in
set_option maxRecDepth 100000 in
theorem mt_X7_hold (l : Launch) (D : va_G) (c : Nat → ClassId) (M : Nat → Nat) (M_thrown : Int32) (M_waters : Int32) (M_windX : Int32) (M_windY : Int32) (M_barrels : Int32) (M_crew : Int32) (M_strength : Nat → Int32) (M_wear : Nat → Int32) (M_is : Nat → Int32) (a1 : Int32) (a2 : Int32) (q0 : Int32 × Int32 × (Nat → Int32)) (h : jX7_hold M_thrown M_barrels M_strength M_wear M_is a1 a2 = some q0) : DTi l yX7_hold wsX7_hold rmX7_hold D c (wX7_hold c M M_thrown M_waters M_windX M_windY M_barrels M_crew M_strength M_wear M_is) [.ref (M 0), .int a1, .int a2] q0.1 (wX7_hold c M q0.2.1 M_waters M_windX M_windY M_barrels M_crew M_strength M_wear q0.2.2) 0 0 := by
  refine DTi_of (cc := cX7_hold) (nL := 4) RX7 rfl (by decide) rfl (Nat.le_of_ble_eq_true rfl) (fun g C ret => ?_)
  unfold jX7_hold at h
  refine vv_lv [0, 1, 2] [(0, .ref (M 0)), (1, .int a1), (2, .int a2)] rfl ?_
  refine vv_aload_n C dX7_hold_0 rfl 0 rfl 1 rfl ?_
  refine vv_iconst C (v := 0) dX7_hold_1 (by decide) 2 rfl ?_
  refine vv_put C (q0 := 0) (ci := 7) (k := 0) (ty := .int) (wX7_hold c M 0 M_waters M_windX M_windY M_barrels M_crew M_strength M_wear M_is) tyX7 tyX7_ok nmX7 kinX7_hold_X7 rfl rfl (by decide) kwX7_hold_1 rfl rfl rfl rfl rfl (Nat.le_of_ble_eq_true rfl) rfl dX7_hold_2 5 rfl ?_
  refine vv_aload_n C dX7_hold_5 rfl 0 rfl 6 rfl ?_
  refine vv_iload_n C dX7_hold_6 rfl 1 rfl 7 rfl ?_
  obtain ⟨r1, hr1, h⟩ := bnd_s h
  refine vv_callVi C (fun l => mt_X7_isBarrel l D c M 0 M_waters M_windX M_windY M_barrels M_crew a1 r1 hr1) gX7_hold_X7_isBarrel rfl rfl rfl yd_X7_isBarrel ⟨Nat.le_of_ble_eq_true rfl, Nat.le_of_ble_eq_true rfl⟩ [0] rfl (by decide) 0 rfl rfl (wX7_hold c M 0 M_waters M_windX M_windY M_barrels M_crew M_strength M_wear M_is) [(true, 0), (false, 1), (false, 2), (false, 3)] rfl (by decide) rfl rfl [] rfl (Nat.le_of_ble_eq_true rfl) ⟨Nat.le_of_ble_eq_true rfl, Nat.le_of_ble_eq_true rfl⟩ dX7_hold_7 10 0 0 rfl ⟨rfl, rfl⟩ ?_
  refine vv_if_eq C 21 13 dX7_hold_10 (by decide) rfl (fun hc => ?_) (fun hc => ?_)
  · replace h := ite_t hc h
    refine vv_aload_n C dX7_hold_21 rfl 0 rfl 22 rfl ?_
    refine vv_iconst C (v := 1) dX7_hold_22 (by decide) 23 rfl ?_
    obtain ⟨r2, hr2, h⟩ := bnd_s h
    refine vv_callVi C (fun l => mt_X7_fail l D c M 0 M_waters M_windX M_windY M_barrels M_crew 1 r2 hr2) gX7_hold_X7_fail rfl rfl rfl yd_X7_fail ⟨Nat.le_of_ble_eq_true rfl, Nat.le_of_ble_eq_true rfl⟩ [0] rfl (by decide) 0 rfl rfl (wX7_hold c M r2.2 M_waters M_windX M_windY M_barrels M_crew M_strength M_wear M_is) [(true, 0), (false, 1), (false, 2), (false, 3)] rfl (by decide) rfl rfl [] rfl (Nat.le_of_ble_eq_true rfl) ⟨Nat.le_of_ble_eq_true rfl, Nat.le_of_ble_eq_true rfl⟩ dX7_hold_23 26 0 0 rfl ⟨rfl, rfl⟩ ?_
    obtain rfl := Option.some.inj h
    exact ret _ _ dX7_hold_26
  · replace h := ite_f hc h
    refine vv_aload_n C dX7_hold_13 rfl 0 rfl 14 rfl ?_
    refine vv_iload_n C dX7_hold_14 rfl 2 rfl 15 rfl ?_
    obtain ⟨r3, hr3, h⟩ := bnd_s h
    refine vv_callVi C (fun l => mt_X7_isBarrel l D c M 0 M_waters M_windX M_windY M_barrels M_crew a2 r3 hr3) gX7_hold_X7_isBarrel rfl rfl rfl yd_X7_isBarrel ⟨Nat.le_of_ble_eq_true rfl, Nat.le_of_ble_eq_true rfl⟩ [0] rfl (by decide) 0 rfl rfl (wX7_hold c M 0 M_waters M_windX M_windY M_barrels M_crew M_strength M_wear M_is) [(true, 0), (false, 1), (false, 2), (false, 3)] rfl (by decide) rfl rfl [] rfl (Nat.le_of_ble_eq_true rfl) ⟨Nat.le_of_ble_eq_true rfl, Nat.le_of_ble_eq_true rfl⟩ dX7_hold_15 18 0 0 rfl ⟨rfl, rfl⟩ ?_
    refine vv_if_ne C 27 21 dX7_hold_18 (by decide) rfl (fun hc => ?_) (fun hc => ?_)
    · replace h := ite_f hc h
      refine vv_iconst C (v := 0) dX7_hold_27 (by decide) 28 rfl ?_
      refine vv_istore_n C [(3, .int 0), (0, .ref (M 0)), (1, .int a1), (2, .int a2)] dX7_hold_28 rfl (by decide) rfl 29 rfl ?_
      refine vv_lv [1, 2, 3, 0] [(0, .ref (M 0)), (1, .int a1), (2, .int a2), (3, .int 0)] rfl ?_
      have L29 : ∀ (n : Nat) (M_is_29 : Nat → Int32) (v3_29 : Int32) (q29 : (Nat → Int32) × Int32), jX7_hold_L29 M_barrels M_strength M_wear a1 a2 n M_is_29 v3_29 = some q29 → (VV g D 4 0 0 (wX7_hold c M 0 M_waters M_windX M_windY M_barrels M_crew M_strength M_wear q29.1) [(3, .int q29.2)] 59 []) → VV g D 4 0 0 (wX7_hold c M 0 M_waters M_windX M_windY M_barrels M_crew M_strength M_wear M_is_29) [(0, .ref (M 0)), (1, .int a1), (2, .int a2), (3, .int v3_29)] 29 [] := by
        intro n
        induction n with
        | zero =>
          intro M_is_29 v3_29 q29 h _
          rw [jX7_hold_L29] at h
          cases h
        | succ n ih29 =>
          intro M_is_29 v3_29 q29 h kk29
          rw [jX7_hold_L29] at h
          refine vv_iload_n C dX7_hold_29 rfl 1 rfl 30 rfl ?_
          refine vv_iload_n C dX7_hold_30 rfl 2 rfl 31 rfl ?_
          refine vv_icmp_eq C 59 34 dX7_hold_31 (by decide) rfl (fun hc => ?_) (fun hc => ?_)
          · replace h := ite_t hc h
            refine vv_lv [3] [(3, .int v3_29)] rfl ?_
            obtain rfl := Option.some.inj h
            exact kk29
          · replace h := ite_f hc h
            refine vv_iload_n C dX7_hold_34 rfl 3 rfl 35 rfl ?_
            refine vv_bipush C (v := 50) dX7_hold_35 (by decide) 37 rfl ?_
            refine vv_icmp_ge C 59 40 dX7_hold_37 (by decide) rfl (fun hc => ?_) (fun hc => ?_)
            · replace h := ite_t hc h
              refine vv_lv [3] [(3, .int v3_29)] rfl ?_
              obtain rfl := Option.some.inj h
              exact kk29
            · replace h := ite_f hc h
              refine vv_aload_n C dX7_hold_40 rfl 0 rfl 41 rfl ?_
              refine vv_iload_n C dX7_hold_41 rfl 1 rfl 42 rfl ?_
              refine vv_iload_n C dX7_hold_42 rfl 2 rfl 43 rfl ?_
              refine vv_iload_n C dX7_hold_43 rfl 3 rfl 44 rfl ?_
              refine vv_iconst C (v := 1) dX7_hold_44 (by decide) 45 rfl ?_
              refine vv_iadd C dX7_hold_45 46 rfl ?_
              refine vv_iconst C (v := (-1)) dX7_hold_46 (by decide) 47 rfl ?_
              obtain ⟨r4, hr4, h⟩ := bnd_s h
              refine vv_callVi C (fun l => mt_X7_isReached l D c M 0 M_waters M_windX M_windY M_barrels M_crew M_strength M_wear M_is_29 a1 a2 (v3_29 + 1) (-1) r4 hr4) gX7_hold_X7_isReached rfl rfl rfl yd_X7_isReached ⟨Nat.le_of_ble_eq_true rfl, Nat.le_of_ble_eq_true rfl⟩ [0, 1, 2, 3] rfl (by decide) 0 rfl rfl (wX7_hold c M 0 M_waters M_windX M_windY M_barrels M_crew M_strength M_wear r4.2) [(true, 0), (true, 1), (true, 2), (true, 3)] rfl (by decide) rfl rfl [] rfl (Nat.le_of_ble_eq_true rfl) ⟨Nat.le_of_ble_eq_true rfl, Nat.le_of_ble_eq_true rfl⟩ dX7_hold_47 50 0 0 rfl ⟨rfl, rfl⟩ ?_
              refine vv_if_eq C 59 53 dX7_hold_50 (by decide) rfl (fun hc => ?_) (fun hc => ?_)
              · replace h := ite_t hc h
                refine vv_lv [3] [(3, .int v3_29)] rfl ?_
                obtain rfl := Option.some.inj h
                exact kk29
              · replace h := ite_f hc h
                refine vv_iinc C (k := 3) [(3, .int (v3_29 + 1)), (0, .ref (M 0)), (1, .int a1), (2, .int a2)] dX7_hold_53 rfl rfl (by decide) rfl 56 rfl ?_
                refine vv_goto C 29 dX7_hold_56 (by decide) ?_
                refine vv_lv [1, 2, 3, 0] [(0, .ref (M 0)), (1, .int a1), (2, .int a2), (3, .int (v3_29 + 1))] rfl ?_
                exact ih29 r4.2 (v3_29 + 1) _ h kk29
      obtain ⟨r5, hr5, h⟩ := bnd_s h
      refine L29 FU M_is 0 r5 hr5 ?_
      refine vv_iload_n C dX7_hold_59 rfl 0 rfl 60 rfl ?_
      obtain rfl := Option.some.inj h
      exact ret _ _ dX7_hold_60
    · replace h := ite_t hc h
      refine vv_aload_n C dX7_hold_21 rfl 0 rfl 22 rfl ?_
      refine vv_iconst C (v := 1) dX7_hold_22 (by decide) 23 rfl ?_
      obtain ⟨r6, hr6, h⟩ := bnd_s h
      refine vv_callVi C (fun l => mt_X7_fail l D c M 0 M_waters M_windX M_windY M_barrels M_crew 1 r6 hr6) gX7_hold_X7_fail rfl rfl rfl yd_X7_fail ⟨Nat.le_of_ble_eq_true rfl, Nat.le_of_ble_eq_true rfl⟩ [0] rfl (by decide) 0 rfl rfl (wX7_hold c M r6.2 M_waters M_windX M_windY M_barrels M_crew M_strength M_wear M_is) [(true, 0), (false, 1), (false, 2), (false, 3)] rfl (by decide) rfl rfl [] rfl (Nat.le_of_ble_eq_true rfl) ⟨Nat.le_of_ble_eq_true rfl, Nat.le_of_ble_eq_true rfl⟩ dX7_hold_23 26 0 0 rfl ⟨rfl, rfl⟩ ?_
      obtain rfl := Option.some.inj h
      exact ret _ _ dX7_hold_26
abbrev wX7_sumIn (c : Nat → ClassId) (M : Nat → Nat) (M_thrown : Int32) (M_waters : Int32) (M_windX : Int32) (M_windY : Int32) (M_barrels : Int32) (M_crew : Int32) (M_fixed : Nat → Int32) (M_table : Nat → Int32) (M_people : Nat → Int32) (M_pieces : Nat → Int32) : va_W := [(M 0, .inr (7, [.int M_thrown, .int M_waters, .ref (M 1), .int M_windX, .int M_windY, .int M_barrels, .ref (M 2), .int M_crew, .ref (M 3), .ref (M 4), .ref (M 5), .ref (M 6), .ref (M 7), .ref (M 8), .ref (M 9), .ref (M 10), .ref (M 11), .ref (M 12)])), aI c (M 2) 72 M_fixed, aI c (M 3) 120 M_table, aI c (M 6) 16 M_people, aI c (M 8) 24 M_pieces]
abbrev rmX7_sumIn : Room := { frames := 2, cells := 0, slots := 0, locals := 44 }
theorem yd_X7_sumIn : yX7_sumIn.cls = RX7 ∧ yX7_sumIn.cls ≠ "java/lang/invoke/MethodHandle" ∧ yX7_sumIn.cls ≠ "java/lang/invoke/VarHandle" ∧ (parseMethodDescriptor yX7_sumIn.desc).map (fun d => d.parameters.length) = some 2 := by decide +kernel
theorem kwX7_sumIn_1 : Cond.fieldLink RX7 51 "BarrelRaftModel" "barrels" "I" ∈ wsX7_sumIn := List.mem_of_getElem? (i := 1) rfl
set_option maxRecDepth 20000 in
theorem kinX7_sumIn_X7 : ∀ w ∈ u_ws RX7 TX7 18, w ∈ wsX7_sumIn := by decide +kernel
theorem kwX7_sumIn_2 : Cond.fieldLink RX7 31 "BarrelRaftModel" "pieces" "[I" ∈ wsX7_sumIn := List.mem_of_getElem? (i := 2) rfl
def jX7_sumIn_L5 (M_barrels : Int32) (M_crew : Int32) (M_fixed : Nat → Int32) (M_table : Nat → Int32) (M_people : Nat → Int32) (M_pieces : Nat → Int32) (u1 : Int32) (u2 : Int32) (n : Nat) (v3_5 : Int32) (v4_5 : Int32) : Option (Int32) :=
  match n with
  | 0 => none
  | n + 1 => (if M_barrels ≤ v4_5 then some v3_5 else chk 24 v4_5 ((if rd M_pieces v4_5 = u1 then (if u2 = 0 then jX7_sumIn_L5 M_barrels M_crew M_fixed M_table M_people M_pieces u1 u2 n (v3_5 + 1) (v4_5 + 1) else (if u2 = 1 then bnd (jX7_lifts M_fixed M_table v4_5) (fun r3 => jX7_sumIn_L5 M_barrels M_crew M_fixed M_table M_people M_pieces u1 u2 n (v3_5 + r3) (v4_5 + 1)) else (if u2 = 2 then bnd (jX7_loadOf M_crew M_table M_people v4_5) (fun r2 => jX7_sumIn_L5 M_barrels M_crew M_fixed M_table M_people M_pieces u1 u2 n (v3_5 + r2) (v4_5 + 1)) else bnd (jX7_crewOn M_crew M_people v4_5) (fun r1 => jX7_sumIn_L5 M_barrels M_crew M_fixed M_table M_people M_pieces u1 u2 n (v3_5 + r1) (v4_5 + 1))))) else jX7_sumIn_L5 M_barrels M_crew M_fixed M_table M_people M_pieces u1 u2 n v3_5 (v4_5 + 1))))
def jX7_sumIn (M_barrels : Int32) (M_crew : Int32) (M_fixed : Nat → Int32) (M_table : Nat → Int32) (M_people : Nat → Int32) (M_pieces : Nat → Int32) (a1 : Int32) (a2 : Int32) : Option (Int32) :=
  bnd (jX7_sumIn_L5 M_barrels M_crew M_fixed M_table M_people M_pieces a1 a2 FU 0 0) (fun r4 => some r4)
set_option maxHeartbeats 4000000 in
set_option maxRecDepth 100000 in
theorem mt_X7_sumIn (l : Launch) (D : va_G) (c : Nat → ClassId) (M : Nat → Nat) (M_thrown : Int32) (M_waters : Int32) (M_windX : Int32) (M_windY : Int32) (M_barrels : Int32) (M_crew : Int32) (M_fixed : Nat → Int32) (M_table : Nat → Int32) (M_people : Nat → Int32) (M_pieces : Nat → Int32) (a1 : Int32) (a2 : Int32) (q0 : Int32) (h : jX7_sumIn M_barrels M_crew M_fixed M_table M_people M_pieces a1 a2 = some q0) : DTi l yX7_sumIn wsX7_sumIn rmX7_sumIn D c (wX7_sumIn c M M_thrown M_waters M_windX M_windY M_barrels M_crew M_fixed M_table M_people M_pieces) [.ref (M 0), .int a1, .int a2] q0 (wX7_sumIn c M M_thrown M_waters M_windX M_windY M_barrels M_crew M_fixed M_table M_people M_pieces) 0 0 := by
  refine DTi_of (cc := cX7_sumIn) (nL := 5) RX7 rfl (by decide) rfl (Nat.le_of_ble_eq_true rfl) (fun g C ret => ?_)
  unfold jX7_sumIn at h
  refine vv_lv [0, 1, 2] [(0, .ref (M 0)), (1, .int a1), (2, .int a2)] rfl ?_
  refine vv_iconst C (v := 0) dX7_sumIn_0 (by decide) 1 rfl ?_
  refine vv_istore_n C [(3, .int 0), (0, .ref (M 0)), (1, .int a1), (2, .int a2)] dX7_sumIn_1 rfl (by decide) rfl 2 rfl ?_
  refine vv_iconst C (v := 0) dX7_sumIn_2 (by decide) 3 rfl ?_
  refine vv_istore C [(4, .int 0), (3, .int 0), (0, .ref (M 0)), (1, .int a1), (2, .int a2)] dX7_sumIn_3 (by decide) rfl 5 rfl ?_
  refine vv_lv [2, 3, 4, 1, 0] [(0, .ref (M 0)), (1, .int a1), (2, .int a2), (3, .int 0), (4, .int 0)] rfl ?_
  have L5 : ∀ (n : Nat) (v3_5 : Int32) (v4_5 : Int32) (q5 : Int32), jX7_sumIn_L5 M_barrels M_crew M_fixed M_table M_people M_pieces a1 a2 n v3_5 v4_5 = some q5 → (VV g D 5 0 0 (wX7_sumIn c M M_thrown M_waters M_windX M_windY M_barrels M_crew M_fixed M_table M_people M_pieces) [(3, .int q5)] 76 []) → VV g D 5 0 0 (wX7_sumIn c M M_thrown M_waters M_windX M_windY M_barrels M_crew M_fixed M_table M_people M_pieces) [(0, .ref (M 0)), (1, .int a1), (2, .int a2), (3, .int v3_5), (4, .int v4_5)] 5 [] := by
    intro n
    induction n with
    | zero =>
      intro v3_5 v4_5 q5 h _
      rw [jX7_sumIn_L5] at h
      cases h
    | succ n ih5 =>
      intro v3_5 v4_5 q5 h kk5
      rw [jX7_sumIn_L5] at h
      refine vv_iload C dX7_sumIn_5 4 rfl 7 rfl ?_
      refine vv_aload_n C dX7_sumIn_7 rfl 0 rfl 8 rfl ?_
      refine vv_get C (q0 := 0) (ci := 7) (k := 5) kinX7_sumIn_X7 rfl rfl (by decide) kwX7_sumIn_1 rfl rfl dX7_sumIn_8 11 rfl ?_
      refine vv_icmp_ge C 76 14 dX7_sumIn_11 (by decide) rfl (fun hc => ?_) (fun hc => ?_)
      · replace h := ite_t hc h
        refine vv_lv [3] [(3, .int v3_5)] rfl ?_
        obtain rfl := Option.some.inj h
        exact kk5
      · replace h := ite_f hc h
        refine vv_aload_n C dX7_sumIn_14 rfl 0 rfl 15 rfl ?_
        refine vv_get C (q0 := 0) (ci := 7) (k := 13) kinX7_sumIn_X7 rfl rfl (by decide) kwX7_sumIn_2 rfl rfl dX7_sumIn_15 18 rfl ?_
        refine vv_iload C dX7_sumIn_18 4 rfl 20 rfl ?_
        obtain ⟨hi, h⟩ := chk_s h
        refine vv_iald C (q0 := 4) rfl hi dX7_sumIn_20 21 rfl ?_
        refine vv_iload_n C dX7_sumIn_21 rfl 1 rfl 22 rfl ?_
        refine vv_icmp_ne C 70 25 dX7_sumIn_22 (by decide) rfl (fun hc => ?_) (fun hc => ?_)
        · replace h := ite_f hc h
          refine vv_iinc C (k := 4) [(4, .int (v4_5 + 1)), (0, .ref (M 0)), (1, .int a1), (2, .int a2), (3, .int v3_5)] dX7_sumIn_70 rfl rfl (by decide) rfl 73 rfl ?_
          refine vv_goto C 5 dX7_sumIn_73 (by decide) ?_
          refine vv_lv [1, 2, 3, 4, 0] [(0, .ref (M 0)), (1, .int a1), (2, .int a2), (3, .int v3_5), (4, .int (v4_5 + 1))] rfl ?_
          exact ih5 v3_5 (v4_5 + 1) _ h kk5
        · replace h := ite_t hc h
          refine vv_iload_n C dX7_sumIn_25 rfl 3 rfl 26 rfl ?_
          refine vv_iload_n C dX7_sumIn_26 rfl 2 rfl 27 rfl ?_
          refine vv_if_ne C 34 30 dX7_sumIn_27 (by decide) rfl (fun hc => ?_) (fun hc => ?_)
          · replace h := ite_f hc h
            refine vv_iload_n C dX7_sumIn_34 rfl 2 rfl 35 rfl ?_
            refine vv_iconst C (v := 1) dX7_sumIn_35 (by decide) 36 rfl ?_
            refine vv_icmp_ne C 48 39 dX7_sumIn_36 (by decide) rfl (fun hc => ?_) (fun hc => ?_)
            · replace h := ite_f hc h
              refine vv_iload_n C dX7_sumIn_48 rfl 2 rfl 49 rfl ?_
              refine vv_iconst C (v := 2) dX7_sumIn_49 (by decide) 50 rfl ?_
              refine vv_icmp_ne C 62 53 dX7_sumIn_50 (by decide) rfl (fun hc => ?_) (fun hc => ?_)
              · replace h := ite_f hc h
                refine vv_aload_n C dX7_sumIn_62 rfl 0 rfl 63 rfl ?_
                refine vv_iload C dX7_sumIn_63 4 rfl 65 rfl ?_
                obtain ⟨r1, hr1, h⟩ := bnd_s h
                refine vv_callVi C (fun l => mt_X7_crewOn l D c M M_thrown M_waters M_windX M_windY M_barrels M_crew M_people v4_5 r1 hr1) gX7_sumIn_X7_crewOn rfl rfl rfl yd_X7_crewOn ⟨Nat.le_of_ble_eq_true rfl, Nat.le_of_ble_eq_true rfl⟩ [0, 3] rfl (by decide) 0 rfl rfl (wX7_sumIn c M M_thrown M_waters M_windX M_windY M_barrels M_crew M_fixed M_table M_people M_pieces) [(true, 0), (false, 1), (false, 2), (true, 1), (false, 4)] rfl (by decide) rfl rfl [.int v3_5] rfl (Nat.le_of_ble_eq_true rfl) ⟨Nat.le_of_ble_eq_true rfl, Nat.le_of_ble_eq_true rfl⟩ dX7_sumIn_65 68 0 0 rfl ⟨rfl, rfl⟩ ?_
                refine vv_iadd C dX7_sumIn_68 69 rfl ?_
                refine vv_istore_n C [(3, .int (v3_5 + r1)), (0, .ref (M 0)), (1, .int a1), (2, .int a2), (4, .int v4_5)] dX7_sumIn_69 rfl (by decide) rfl 70 rfl ?_
                refine vv_iinc C (k := 4) [(4, .int (v4_5 + 1)), (3, .int (v3_5 + r1)), (0, .ref (M 0)), (1, .int a1), (2, .int a2)] dX7_sumIn_70 rfl rfl (by decide) rfl 73 rfl ?_
                refine vv_goto C 5 dX7_sumIn_73 (by decide) ?_
                refine vv_lv [2, 3, 4, 1, 0] [(0, .ref (M 0)), (1, .int a1), (2, .int a2), (3, .int (v3_5 + r1)), (4, .int (v4_5 + 1))] rfl ?_
                exact ih5 (v3_5 + r1) (v4_5 + 1) _ h kk5
              · replace h := ite_t hc h
                refine vv_aload_n C dX7_sumIn_53 rfl 0 rfl 54 rfl ?_
                refine vv_iload C dX7_sumIn_54 4 rfl 56 rfl ?_
                obtain ⟨r2, hr2, h⟩ := bnd_s h
                refine vv_callVi C (fun l => mt_X7_loadOf l D c M M_thrown M_waters M_windX M_windY M_barrels M_crew M_table M_people v4_5 r2 hr2) gX7_sumIn_X7_loadOf rfl rfl rfl yd_X7_loadOf ⟨Nat.le_of_ble_eq_true rfl, Nat.le_of_ble_eq_true rfl⟩ [0, 2, 3] rfl (by decide) 0 rfl rfl (wX7_sumIn c M M_thrown M_waters M_windX M_windY M_barrels M_crew M_fixed M_table M_people M_pieces) [(true, 0), (false, 1), (true, 1), (true, 2), (false, 4)] rfl (by decide) rfl rfl [.int v3_5] rfl (Nat.le_of_ble_eq_true rfl) ⟨Nat.le_of_ble_eq_true rfl, Nat.le_of_ble_eq_true rfl⟩ dX7_sumIn_56 59 0 0 rfl ⟨rfl, rfl⟩ ?_
                refine vv_goto C 68 dX7_sumIn_59 (by decide) ?_
                refine vv_iadd C dX7_sumIn_68 69 rfl ?_
                refine vv_istore_n C [(3, .int (v3_5 + r2)), (0, .ref (M 0)), (1, .int a1), (2, .int a2), (4, .int v4_5)] dX7_sumIn_69 rfl (by decide) rfl 70 rfl ?_
                refine vv_iinc C (k := 4) [(4, .int (v4_5 + 1)), (3, .int (v3_5 + r2)), (0, .ref (M 0)), (1, .int a1), (2, .int a2)] dX7_sumIn_70 rfl rfl (by decide) rfl 73 rfl ?_
                refine vv_goto C 5 dX7_sumIn_73 (by decide) ?_
                refine vv_lv [2, 3, 4, 1, 0] [(0, .ref (M 0)), (1, .int a1), (2, .int a2), (3, .int (v3_5 + r2)), (4, .int (v4_5 + 1))] rfl ?_
                exact ih5 (v3_5 + r2) (v4_5 + 1) _ h kk5
            · replace h := ite_t hc h
              refine vv_aload_n C dX7_sumIn_39 rfl 0 rfl 40 rfl ?_
              refine vv_iload C dX7_sumIn_40 4 rfl 42 rfl ?_
              obtain ⟨r3, hr3, h⟩ := bnd_s h
              refine vv_callVi C (fun l => mt_X7_lifts l D c M M_thrown M_waters M_windX M_windY M_barrels M_crew M_fixed M_table v4_5 r3 hr3) gX7_sumIn_X7_lifts rfl rfl rfl yd_X7_lifts ⟨Nat.le_of_ble_eq_true rfl, Nat.le_of_ble_eq_true rfl⟩ [0, 1, 2] rfl (by decide) 0 rfl rfl (wX7_sumIn c M M_thrown M_waters M_windX M_windY M_barrels M_crew M_fixed M_table M_people M_pieces) [(true, 0), (true, 1), (true, 2), (false, 3), (false, 4)] rfl (by decide) rfl rfl [.int v3_5] rfl (Nat.le_of_ble_eq_true rfl) ⟨Nat.le_of_ble_eq_true rfl, Nat.le_of_ble_eq_true rfl⟩ dX7_sumIn_42 45 0 0 rfl ⟨rfl, rfl⟩ ?_
              refine vv_goto C 68 dX7_sumIn_45 (by decide) ?_
              refine vv_iadd C dX7_sumIn_68 69 rfl ?_
              refine vv_istore_n C [(3, .int (v3_5 + r3)), (0, .ref (M 0)), (1, .int a1), (2, .int a2), (4, .int v4_5)] dX7_sumIn_69 rfl (by decide) rfl 70 rfl ?_
              refine vv_iinc C (k := 4) [(4, .int (v4_5 + 1)), (3, .int (v3_5 + r3)), (0, .ref (M 0)), (1, .int a1), (2, .int a2)] dX7_sumIn_70 rfl rfl (by decide) rfl 73 rfl ?_
              refine vv_goto C 5 dX7_sumIn_73 (by decide) ?_
              refine vv_lv [2, 3, 4, 1, 0] [(0, .ref (M 0)), (1, .int a1), (2, .int a2), (3, .int (v3_5 + r3)), (4, .int (v4_5 + 1))] rfl ?_
              exact ih5 (v3_5 + r3) (v4_5 + 1) _ h kk5
          · replace h := ite_t hc h
            refine vv_iconst C (v := 1) dX7_sumIn_30 (by decide) 31 rfl ?_
            refine vv_goto C 68 dX7_sumIn_31 (by decide) ?_
            refine vv_iadd C dX7_sumIn_68 69 rfl ?_
            refine vv_istore_n C [(3, .int (v3_5 + 1)), (0, .ref (M 0)), (1, .int a1), (2, .int a2), (4, .int v4_5)] dX7_sumIn_69 rfl (by decide) rfl 70 rfl ?_
            refine vv_iinc C (k := 4) [(4, .int (v4_5 + 1)), (3, .int (v3_5 + 1)), (0, .ref (M 0)), (1, .int a1), (2, .int a2)] dX7_sumIn_70 rfl rfl (by decide) rfl 73 rfl ?_
            refine vv_goto C 5 dX7_sumIn_73 (by decide) ?_
            refine vv_lv [2, 3, 4, 1, 0] [(0, .ref (M 0)), (1, .int a1), (2, .int a2), (3, .int (v3_5 + 1)), (4, .int (v4_5 + 1))] rfl ?_
            exact ih5 (v3_5 + 1) (v4_5 + 1) _ h kk5
  obtain ⟨r4, hr4, h⟩ := bnd_s h
  refine L5 FU 0 0 r4 hr4 ?_
  refine vv_iload_n C dX7_sumIn_76 rfl 0 rfl 77 rfl ?_
  obtain rfl := Option.some.inj h
  exact ret _ _ dX7_sumIn_77
abbrev wX7_waterAt (c : Nat → ClassId) (M : Nat → Nat) (M_thrown : Int32) (M_waters : Int32) (M_windX : Int32) (M_windY : Int32) (M_barrels : Int32) (M_crew : Int32) (M_waterTable : Nat → Int32) : va_W := [(M 0, .inr (7, [.int M_thrown, .int M_waters, .ref (M 1), .int M_windX, .int M_windY, .int M_barrels, .ref (M 2), .int M_crew, .ref (M 3), .ref (M 4), .ref (M 5), .ref (M 6), .ref (M 7), .ref (M 8), .ref (M 9), .ref (M 10), .ref (M 11), .ref (M 12)])), aI c (M 1) 56 M_waterTable]
abbrev rmX7_waterAt : Room := { frames := 1, cells := 0, slots := 0, locals := 22 }
theorem yd_X7_waterAt : yX7_waterAt.cls = RX7 ∧ yX7_waterAt.cls ≠ "java/lang/invoke/MethodHandle" ∧ yX7_waterAt.cls ≠ "java/lang/invoke/VarHandle" ∧ (parseMethodDescriptor yX7_waterAt.desc).map (fun d => d.parameters.length) = some 2 := by decide +kernel
theorem kwX7_waterAt_1 : Cond.fieldLink RX7 77 "BarrelRaftModel" "waters" "I" ∈ wsX7_waterAt := List.mem_of_getElem? (i := 1) rfl
set_option maxRecDepth 20000 in
theorem kinX7_waterAt_X7 : ∀ w ∈ u_ws RX7 TX7 18, w ∈ wsX7_waterAt := by decide +kernel
theorem kwX7_waterAt_2 : Cond.fieldLink RX7 9 "BarrelRaftModel" "waterTable" "[I" ∈ wsX7_waterAt := List.mem_of_getElem? (i := 2) rfl
def jX7_waterAt_L7 (M_waterTable : Nat → Int32) (u1 : Int32) (u2 : Int32) (n : Nat) (v3_7 : Int32) : Option ((Int32) ⊕ (Unit)) :=
  match n with
  | 0 => none
  | n + 1 => (if v3_7 < 0 then some (Sum.inr ()) else chk 56 (7 * v3_7) (chk 56 ((7 * v3_7) + 2) (bnd (jX7_isIn (u1 - (rd M_waterTable (7 * v3_7))) 0 ((rd M_waterTable ((7 * v3_7) + 2)) - 1)) (fun r1 => (if r1 = 0 then jX7_waterAt_L7 M_waterTable u1 u2 n (v3_7 + (-1)) else chk 56 ((7 * v3_7) + 1) (chk 56 ((7 * v3_7) + 3) (bnd (jX7_isIn (u2 - (rd M_waterTable ((7 * v3_7) + 1))) 0 ((rd M_waterTable ((7 * v3_7) + 3)) - 1)) (fun r2 => (if r2 = 0 then jX7_waterAt_L7 M_waterTable u1 u2 n (v3_7 + (-1)) else some (Sum.inl v3_7))))))))))
def jX7_waterAt (M_waters : Int32) (M_waterTable : Nat → Int32) (a1 : Int32) (a2 : Int32) : Option (Int32) :=
  bnd (jX7_waterAt_L7 M_waterTable a1 a2 FU (M_waters - 1)) (fun r3 => sel r3 (fun r3_0 => some r3_0) (fun r3_1 => some (-1)))
set_option maxHeartbeats 4000000 in
set_option maxRecDepth 100000 in
theorem mt_X7_waterAt (l : Launch) (D : va_G) (c : Nat → ClassId) (M : Nat → Nat) (M_thrown : Int32) (M_waters : Int32) (M_windX : Int32) (M_windY : Int32) (M_barrels : Int32) (M_crew : Int32) (M_waterTable : Nat → Int32) (a1 : Int32) (a2 : Int32) (q0 : Int32) (h : jX7_waterAt M_waters M_waterTable a1 a2 = some q0) : DTi l yX7_waterAt wsX7_waterAt rmX7_waterAt D c (wX7_waterAt c M M_thrown M_waters M_windX M_windY M_barrels M_crew M_waterTable) [.ref (M 0), .int a1, .int a2] q0 (wX7_waterAt c M M_thrown M_waters M_windX M_windY M_barrels M_crew M_waterTable) 0 0 := by
  refine DTi_of (cc := cX7_waterAt) (nL := 5) RX7 rfl (by decide) rfl (Nat.le_of_ble_eq_true rfl) (fun g C ret => ?_)
  unfold jX7_waterAt at h
  refine vv_lv [0, 1, 2] [(0, .ref (M 0)), (1, .int a1), (2, .int a2)] rfl ?_
  refine vv_aload_n C dX7_waterAt_0 rfl 0 rfl 1 rfl ?_
  refine vv_get C (q0 := 0) (ci := 7) (k := 1) kinX7_waterAt_X7 rfl rfl (by decide) kwX7_waterAt_1 rfl rfl dX7_waterAt_1 4 rfl ?_
  refine vv_iconst C (v := 1) dX7_waterAt_4 (by decide) 5 rfl ?_
  refine vv_isub C dX7_waterAt_5 6 rfl ?_
  refine vv_istore_n C [(3, .int (M_waters - 1)), (0, .ref (M 0)), (1, .int a1), (2, .int a2)] dX7_waterAt_6 rfl (by decide) rfl 7 rfl ?_
  refine vv_lv [1, 2, 3, 0] [(0, .ref (M 0)), (1, .int a1), (2, .int a2), (3, .int (M_waters - 1))] rfl ?_
  have L7 : ∀ (n : Nat) (v3_7 : Int32) (q7 : (Int32) ⊕ (Unit)), jX7_waterAt_L7 M_waterTable a1 a2 n v3_7 = some q7 → ((∀ w, q7 = (Sum.inl w) → VV g D 5 0 0 (wX7_waterAt c M M_thrown M_waters M_windX M_windY M_barrels M_crew M_waterTable) [(3, .int w)] 73 []) ∧ (∀ w, q7 = (Sum.inr w) → VV g D 5 0 0 (wX7_waterAt c M M_thrown M_waters M_windX M_windY M_barrels M_crew M_waterTable) [] 81 [])) → VV g D 5 0 0 (wX7_waterAt c M M_thrown M_waters M_windX M_windY M_barrels M_crew M_waterTable) [(0, .ref (M 0)), (1, .int a1), (2, .int a2), (3, .int v3_7)] 7 [] := by
    intro n
    induction n with
    | zero =>
      intro v3_7 q7 h _
      rw [jX7_waterAt_L7] at h
      cases h
    | succ n ih7 =>
      intro v3_7 q7 h kk7
      rw [jX7_waterAt_L7] at h
      refine vv_iload_n C dX7_waterAt_7 rfl 3 rfl 8 rfl ?_
      refine vv_if_lt C 81 11 dX7_waterAt_8 (by decide) rfl (fun hc => ?_) (fun hc => ?_)
      · replace h := ite_t hc h
        refine vv_lv [] [] rfl ?_
        exact kk7.2 _ (Option.some.inj h).symm
      · replace h := ite_f hc h
        refine vv_bipush C (v := 7) dX7_waterAt_11 (by decide) 13 rfl ?_
        refine vv_iload_n C dX7_waterAt_13 rfl 3 rfl 14 rfl ?_
        refine vv_imul C dX7_waterAt_14 15 rfl ?_
        refine vv_istore C [(4, .int (7 * v3_7)), (0, .ref (M 0)), (1, .int a1), (2, .int a2), (3, .int v3_7)] dX7_waterAt_15 (by decide) rfl 17 rfl ?_
        refine vv_iload_n C dX7_waterAt_17 rfl 2 rfl 18 rfl ?_
        refine vv_aload_n C dX7_waterAt_18 rfl 1 rfl 19 rfl ?_
        refine vv_get C (q0 := 0) (ci := 7) (k := 2) kinX7_waterAt_X7 rfl rfl (by decide) kwX7_waterAt_2 rfl rfl dX7_waterAt_19 22 rfl ?_
        refine vv_iload C dX7_waterAt_22 0 rfl 24 rfl ?_
        obtain ⟨hi, h⟩ := chk_s h
        refine vv_iald C (q0 := 1) rfl hi dX7_waterAt_24 25 rfl ?_
        refine vv_isub C dX7_waterAt_25 26 rfl ?_
        refine vv_iconst C (v := 0) dX7_waterAt_26 (by decide) 27 rfl ?_
        refine vv_aload_n C dX7_waterAt_27 rfl 1 rfl 28 rfl ?_
        refine vv_get C (q0 := 0) (ci := 7) (k := 2) kinX7_waterAt_X7 rfl rfl (by decide) kwX7_waterAt_2 rfl rfl dX7_waterAt_28 31 rfl ?_
        refine vv_iload C dX7_waterAt_31 0 rfl 33 rfl ?_
        refine vv_iconst C (v := 2) dX7_waterAt_33 (by decide) 34 rfl ?_
        refine vv_iadd C dX7_waterAt_34 35 rfl ?_
        obtain ⟨hi, h⟩ := chk_s h
        refine vv_iald C (q0 := 1) rfl hi dX7_waterAt_35 36 rfl ?_
        refine vv_iconst C (v := 1) dX7_waterAt_36 (by decide) 37 rfl ?_
        refine vv_isub C dX7_waterAt_37 38 rfl ?_
        obtain ⟨r1, hr1, h⟩ := bnd_s h
        refine vv_callSi C (fun l => mt_X7_isIn l D c (a1 - (rd M_waterTable (7 * v3_7))) 0 ((rd M_waterTable ((7 * v3_7) + 2)) - 1) r1 hr1) gX7_waterAt_X7_isIn rfl rfl rfl yd_X7_isIn ⟨Nat.le_of_ble_eq_true rfl, Nat.le_of_ble_eq_true rfl⟩ [] rfl (by decide) (wX7_waterAt c M M_thrown M_waters M_windX M_windY M_barrels M_crew M_waterTable) [(false, 0), (false, 1)] rfl (by decide) rfl rfl [] rfl (Nat.le_of_ble_eq_true rfl) ⟨Nat.le_of_ble_eq_true rfl, Nat.le_of_ble_eq_true rfl⟩ dX7_waterAt_38 41 0 0 rfl ⟨rfl, rfl⟩ ?_
        refine vv_if_eq C 75 44 dX7_waterAt_41 (by decide) rfl (fun hc => ?_) (fun hc => ?_)
        · replace h := ite_t hc h
          refine vv_iinc C (k := 4) [(3, .int (v3_7 + (-1))), (4, .int (7 * v3_7)), (0, .ref (M 0)), (1, .int a1), (2, .int a2)] dX7_waterAt_75 rfl rfl (by decide) rfl 78 rfl ?_
          refine vv_goto C 7 dX7_waterAt_78 (by decide) ?_
          refine vv_lv [2, 3, 4, 0] [(0, .ref (M 0)), (1, .int a1), (2, .int a2), (3, .int (v3_7 + (-1)))] rfl ?_
          exact ih7 (v3_7 + (-1)) _ h kk7
        · replace h := ite_f hc h
          refine vv_iload_n C dX7_waterAt_44 rfl 3 rfl 45 rfl ?_
          refine vv_aload_n C dX7_waterAt_45 rfl 1 rfl 46 rfl ?_
          refine vv_get C (q0 := 0) (ci := 7) (k := 2) kinX7_waterAt_X7 rfl rfl (by decide) kwX7_waterAt_2 rfl rfl dX7_waterAt_46 49 rfl ?_
          refine vv_iload C dX7_waterAt_49 0 rfl 51 rfl ?_
          refine vv_iconst C (v := 1) dX7_waterAt_51 (by decide) 52 rfl ?_
          refine vv_iadd C dX7_waterAt_52 53 rfl ?_
          obtain ⟨hi, h⟩ := chk_s h
          refine vv_iald C (q0 := 1) rfl hi dX7_waterAt_53 54 rfl ?_
          refine vv_isub C dX7_waterAt_54 55 rfl ?_
          refine vv_iconst C (v := 0) dX7_waterAt_55 (by decide) 56 rfl ?_
          refine vv_aload_n C dX7_waterAt_56 rfl 1 rfl 57 rfl ?_
          refine vv_get C (q0 := 0) (ci := 7) (k := 2) kinX7_waterAt_X7 rfl rfl (by decide) kwX7_waterAt_2 rfl rfl dX7_waterAt_57 60 rfl ?_
          refine vv_iload C dX7_waterAt_60 0 rfl 62 rfl ?_
          refine vv_iconst C (v := 3) dX7_waterAt_62 (by decide) 63 rfl ?_
          refine vv_iadd C dX7_waterAt_63 64 rfl ?_
          obtain ⟨hi, h⟩ := chk_s h
          refine vv_iald C (q0 := 1) rfl hi dX7_waterAt_64 65 rfl ?_
          refine vv_iconst C (v := 1) dX7_waterAt_65 (by decide) 66 rfl ?_
          refine vv_isub C dX7_waterAt_66 67 rfl ?_
          obtain ⟨r2, hr2, h⟩ := bnd_s h
          refine vv_callSi C (fun l => mt_X7_isIn l D c (a2 - (rd M_waterTable ((7 * v3_7) + 1))) 0 ((rd M_waterTable ((7 * v3_7) + 3)) - 1) r2 hr2) gX7_waterAt_X7_isIn rfl rfl rfl yd_X7_isIn ⟨Nat.le_of_ble_eq_true rfl, Nat.le_of_ble_eq_true rfl⟩ [] rfl (by decide) (wX7_waterAt c M M_thrown M_waters M_windX M_windY M_barrels M_crew M_waterTable) [(false, 0), (false, 1)] rfl (by decide) rfl rfl [] rfl (Nat.le_of_ble_eq_true rfl) ⟨Nat.le_of_ble_eq_true rfl, Nat.le_of_ble_eq_true rfl⟩ dX7_waterAt_67 70 0 0 rfl ⟨rfl, rfl⟩ ?_
          refine vv_if_eq C 75 73 dX7_waterAt_70 (by decide) rfl (fun hc => ?_) (fun hc => ?_)
          · replace h := ite_t hc h
            refine vv_iinc C (k := 4) [(3, .int (v3_7 + (-1))), (4, .int (7 * v3_7)), (0, .ref (M 0)), (1, .int a1), (2, .int a2)] dX7_waterAt_75 rfl rfl (by decide) rfl 78 rfl ?_
            refine vv_goto C 7 dX7_waterAt_78 (by decide) ?_
            refine vv_lv [2, 3, 4, 0] [(0, .ref (M 0)), (1, .int a1), (2, .int a2), (3, .int (v3_7 + (-1)))] rfl ?_
            exact ih7 (v3_7 + (-1)) _ h kk7
          · replace h := ite_f hc h
            refine vv_lv [4] [(3, .int v3_7)] rfl ?_
            exact kk7.1 _ (Option.some.inj h).symm
  obtain ⟨r3, hr3, h⟩ := bnd_s h
  refine L7 FU (M_waters - 1) r3 hr3 ⟨fun r3_0 e => ?_, fun r3_1 e => ?_⟩
  · subst e
    replace h := sel_l h
    refine vv_iload_n C dX7_waterAt_73 rfl 0 rfl 74 rfl ?_
    obtain rfl := Option.some.inj h
    exact ret _ _ dX7_waterAt_74
  · subst e
    replace h := sel_r h
    refine vv_iconst C (v := (-1)) dX7_waterAt_81 (by decide) 82 rfl ?_
    obtain rfl := Option.some.inj h
    exact ret _ _ dX7_waterAt_82
abbrev wX7_seaTold (c : Nat → ClassId) (M : Nat → Nat) (M_thrown : Int32) (M_waters : Int32) (M_windX : Int32) (M_windY : Int32) (M_barrels : Int32) (M_crew : Int32) (M_waterTable : Nat → Int32) : va_W := [(M 0, .inr (7, [.int M_thrown, .int M_waters, .ref (M 1), .int M_windX, .int M_windY, .int M_barrels, .ref (M 2), .int M_crew, .ref (M 3), .ref (M 4), .ref (M 5), .ref (M 6), .ref (M 7), .ref (M 8), .ref (M 9), .ref (M 10), .ref (M 11), .ref (M 12)])), aI c (M 1) 56 M_waterTable]
abbrev rmX7_seaTold : Room := { frames := 2, cells := 0, slots := 0, locals := 46 }
theorem yd_X7_seaTold : yX7_seaTold.cls = RX7 ∧ yX7_seaTold.cls ≠ "java/lang/invoke/MethodHandle" ∧ yX7_seaTold.cls ≠ "java/lang/invoke/VarHandle" ∧ (parseMethodDescriptor yX7_seaTold.desc).map (fun d => d.parameters.length) = some 3 := by decide +kernel
theorem kwX7_seaTold_1 : Cond.fieldLink RX7 9 "BarrelRaftModel" "waterTable" "[I" ∈ wsX7_seaTold := List.mem_of_getElem? (i := 1) rfl
set_option maxRecDepth 20000 in
theorem kinX7_seaTold_X7 : ∀ w ∈ u_ws RX7 TX7 18, w ∈ wsX7_seaTold := by decide +kernel
def jX7_seaTold (M_waters : Int32) (M_waterTable : Nat → Int32) (a1 : Int32) (a2 : Int32) (a3 : Int32) : Option (Int32) :=
  bnd (jX7_waterAt M_waters M_waterTable a1 a2) (fun r1 => (if r1 = (-1) then some 0 else bnd (jX7_waterAt M_waters M_waterTable a1 a2) (fun r2 => chk 56 (((7 * r2) + 4) + a3) (some (rd M_waterTable (((7 * r2) + 4) + a3))))))
set_option maxHeartbeats 4000000 in
set_option maxRecDepth 100000 in
theorem mt_X7_seaTold (l : Launch) (D : va_G) (c : Nat → ClassId) (M : Nat → Nat) (M_thrown : Int32) (M_waters : Int32) (M_windX : Int32) (M_windY : Int32) (M_barrels : Int32) (M_crew : Int32) (M_waterTable : Nat → Int32) (a1 : Int32) (a2 : Int32) (a3 : Int32) (q0 : Int32) (h : jX7_seaTold M_waters M_waterTable a1 a2 a3 = some q0) : DTi l yX7_seaTold wsX7_seaTold rmX7_seaTold D c (wX7_seaTold c M M_thrown M_waters M_windX M_windY M_barrels M_crew M_waterTable) [.ref (M 0), .int a1, .int a2, .int a3] q0 (wX7_seaTold c M M_thrown M_waters M_windX M_windY M_barrels M_crew M_waterTable) 0 0 := by
  refine DTi_of (cc := cX7_seaTold) (nL := 4) RX7 rfl (by decide) rfl (Nat.le_of_ble_eq_true rfl) (fun g C ret => ?_)
  unfold jX7_seaTold at h
  refine vv_lv [0, 1, 2, 3] [(0, .ref (M 0)), (1, .int a1), (2, .int a2), (3, .int a3)] rfl ?_
  refine vv_aload_n C dX7_seaTold_0 rfl 0 rfl 1 rfl ?_
  refine vv_iload_n C dX7_seaTold_1 rfl 1 rfl 2 rfl ?_
  refine vv_iload_n C dX7_seaTold_2 rfl 2 rfl 3 rfl ?_
  obtain ⟨r1, hr1, h⟩ := bnd_s h
  refine vv_callVi C (fun l => mt_X7_waterAt l D c M M_thrown M_waters M_windX M_windY M_barrels M_crew M_waterTable a1 a2 r1 hr1) gX7_seaTold_X7_waterAt rfl rfl rfl yd_X7_waterAt ⟨Nat.le_of_ble_eq_true rfl, Nat.le_of_ble_eq_true rfl⟩ [0, 1] rfl (by decide) 0 rfl rfl (wX7_seaTold c M M_thrown M_waters M_windX M_windY M_barrels M_crew M_waterTable) [(true, 0), (true, 1)] rfl (by decide) rfl rfl [] rfl (Nat.le_of_ble_eq_true rfl) ⟨Nat.le_of_ble_eq_true rfl, Nat.le_of_ble_eq_true rfl⟩ dX7_seaTold_3 6 0 0 rfl ⟨rfl, rfl⟩ ?_
  refine vv_iconst C (v := (-1)) dX7_seaTold_6 (by decide) 7 rfl ?_
  refine vv_icmp_ne C 14 10 dX7_seaTold_7 (by decide) rfl (fun hc => ?_) (fun hc => ?_)
  · replace h := ite_f hc h
    refine vv_aload_n C dX7_seaTold_14 rfl 0 rfl 15 rfl ?_
    refine vv_get C (q0 := 0) (ci := 7) (k := 2) kinX7_seaTold_X7 rfl rfl (by decide) kwX7_seaTold_1 rfl rfl dX7_seaTold_15 18 rfl ?_
    refine vv_bipush C (v := 7) dX7_seaTold_18 (by decide) 20 rfl ?_
    refine vv_aload_n C dX7_seaTold_20 rfl 0 rfl 21 rfl ?_
    refine vv_iload_n C dX7_seaTold_21 rfl 1 rfl 22 rfl ?_
    refine vv_iload_n C dX7_seaTold_22 rfl 2 rfl 23 rfl ?_
    obtain ⟨r2, hr2, h⟩ := bnd_s h
    refine vv_callVi C (fun l => mt_X7_waterAt l D c M M_thrown M_waters M_windX M_windY M_barrels M_crew M_waterTable a1 a2 r2 hr2) gX7_seaTold_X7_waterAt rfl rfl rfl yd_X7_waterAt ⟨Nat.le_of_ble_eq_true rfl, Nat.le_of_ble_eq_true rfl⟩ [0, 1] rfl (by decide) 0 rfl rfl (wX7_seaTold c M M_thrown M_waters M_windX M_windY M_barrels M_crew M_waterTable) [(true, 0), (true, 1)] rfl (by decide) rfl rfl [.int 7, .ref (M 1)] rfl (Nat.le_of_ble_eq_true rfl) ⟨Nat.le_of_ble_eq_true rfl, Nat.le_of_ble_eq_true rfl⟩ dX7_seaTold_23 26 0 0 rfl ⟨rfl, rfl⟩ ?_
    refine vv_imul C dX7_seaTold_26 27 rfl ?_
    refine vv_iconst C (v := 4) dX7_seaTold_27 (by decide) 28 rfl ?_
    refine vv_iadd C dX7_seaTold_28 29 rfl ?_
    refine vv_iload_n C dX7_seaTold_29 rfl 3 rfl 30 rfl ?_
    refine vv_iadd C dX7_seaTold_30 31 rfl ?_
    obtain ⟨hi, h⟩ := chk_s h
    refine vv_iald C (q0 := 1) rfl hi dX7_seaTold_31 32 rfl ?_
    obtain rfl := Option.some.inj h
    exact ret _ _ dX7_seaTold_32
  · replace h := ite_t hc h
    refine vv_iconst C (v := 0) dX7_seaTold_10 (by decide) 11 rfl ?_
    refine vv_goto C 32 dX7_seaTold_11 (by decide) ?_
    obtain rfl := Option.some.inj h
    exact ret _ _ dX7_seaTold_32
abbrev wX7_stress (c : Nat → ClassId) (M : Nat → Nat) (M_thrown : Int32) (M_waters : Int32) (M_windX : Int32) (M_windY : Int32) (M_barrels : Int32) (M_crew : Int32) (M_waterTable : Nat → Int32) (M_table : Nat → Int32) (M_people : Nat → Int32) : va_W := [(M 0, .inr (7, [.int M_thrown, .int M_waters, .ref (M 1), .int M_windX, .int M_windY, .int M_barrels, .ref (M 2), .int M_crew, .ref (M 3), .ref (M 4), .ref (M 5), .ref (M 6), .ref (M 7), .ref (M 8), .ref (M 9), .ref (M 10), .ref (M 11), .ref (M 12)])), aI c (M 1) 56 M_waterTable, aI c (M 3) 120 M_table, aI c (M 6) 16 M_people]
abbrev rmX7_stress : Room := { frames := 3, cells := 0, slots := 0, locals := 69 }
theorem yd_X7_stress : yX7_stress.cls = RX7 ∧ yX7_stress.cls ≠ "java/lang/invoke/MethodHandle" ∧ yX7_stress.cls ≠ "java/lang/invoke/VarHandle" ∧ (parseMethodDescriptor yX7_stress.desc).map (fun d => d.parameters.length) = some 2 := by decide +kernel
theorem kwX7_stress_1 : Cond.methodLink RX7 106 Lib.Math.abs.name ∈ wsX7_stress := List.mem_of_getElem? (i := 1) rfl
theorem kwX7_stress_2 : Cond.static Lib.Math.abs.name ∈ wsX7_stress := List.mem_of_getElem? (i := 2) rfl
theorem kwX7_stress_3 : Cond.initialized "java/lang/Math" ∈ wsX7_stress := List.mem_of_getElem? (i := 3) rfl
theorem kwX7_stress_4 : Cond.code Lib.Math.abs.name Lib.Math.abs.code 1 (some .int) ∈ wsX7_stress := List.mem_of_getElem? (i := 4) rfl
def jX7_stress (M_waters : Int32) (M_crew : Int32) (M_waterTable : Nat → Int32) (M_table : Nat → Int32) (M_people : Nat → Int32) (a1 : Int32) (a2 : Int32) : Option (Int32) :=
  bnd (jX7_ba M_table a1 3) (fun r1 => bnd (jX7_ba M_table a1 4) (fun r2 => bnd (jX7_seaTold M_waters M_waterTable r1 r2 2) (fun r3 => bnd (jX7_loadOf M_crew M_table M_people a1) (fun r4 => bnd (jX7_loadOf M_crew M_table M_people a2) (fun r5 => some (r3 + ((mabs (r4 - r5)) / 2)))))))
set_option maxHeartbeats 4000000 in
set_option maxRecDepth 100000 in
theorem mt_X7_stress (l : Launch) (D : va_G) (c : Nat → ClassId) (M : Nat → Nat) (M_thrown : Int32) (M_waters : Int32) (M_windX : Int32) (M_windY : Int32) (M_barrels : Int32) (M_crew : Int32) (M_waterTable : Nat → Int32) (M_table : Nat → Int32) (M_people : Nat → Int32) (a1 : Int32) (a2 : Int32) (q0 : Int32) (h : jX7_stress M_waters M_crew M_waterTable M_table M_people a1 a2 = some q0) : DTi l yX7_stress wsX7_stress rmX7_stress D c (wX7_stress c M M_thrown M_waters M_windX M_windY M_barrels M_crew M_waterTable M_table M_people) [.ref (M 0), .int a1, .int a2] q0 (wX7_stress c M M_thrown M_waters M_windX M_windY M_barrels M_crew M_waterTable M_table M_people) 0 0 := by
  refine DTi_of (cc := cX7_stress) (nL := 3) RX7 rfl (by decide) rfl (Nat.le_of_ble_eq_true rfl) (fun g C ret => ?_)
  unfold jX7_stress at h
  refine vv_lv [0, 1, 2] [(0, .ref (M 0)), (1, .int a1), (2, .int a2)] rfl ?_
  refine vv_aload_n C dX7_stress_0 rfl 0 rfl 1 rfl ?_
  refine vv_aload_n C dX7_stress_1 rfl 0 rfl 2 rfl ?_
  refine vv_iload_n C dX7_stress_2 rfl 1 rfl 3 rfl ?_
  refine vv_iconst C (v := 3) dX7_stress_3 (by decide) 4 rfl ?_
  obtain ⟨r1, hr1, h⟩ := bnd_s h
  refine vv_callVi C (fun l => mt_X7_ba l D c M M_thrown M_waters M_windX M_windY M_barrels M_crew M_table a1 3 r1 hr1) gX7_stress_X7_ba rfl rfl rfl yd_X7_ba ⟨Nat.le_of_ble_eq_true rfl, Nat.le_of_ble_eq_true rfl⟩ [0, 2] rfl (by decide) 0 rfl rfl (wX7_stress c M M_thrown M_waters M_windX M_windY M_barrels M_crew M_waterTable M_table M_people) [(true, 0), (false, 1), (true, 1), (false, 3)] rfl (by decide) rfl rfl [.ref (M 0)] rfl (Nat.le_of_ble_eq_true rfl) ⟨Nat.le_of_ble_eq_true rfl, Nat.le_of_ble_eq_true rfl⟩ dX7_stress_4 7 0 0 rfl ⟨rfl, rfl⟩ ?_
  refine vv_aload_n C dX7_stress_7 rfl 0 rfl 8 rfl ?_
  refine vv_iload_n C dX7_stress_8 rfl 1 rfl 9 rfl ?_
  refine vv_iconst C (v := 4) dX7_stress_9 (by decide) 10 rfl ?_
  obtain ⟨r2, hr2, h⟩ := bnd_s h
  refine vv_callVi C (fun l => mt_X7_ba l D c M M_thrown M_waters M_windX M_windY M_barrels M_crew M_table a1 4 r2 hr2) gX7_stress_X7_ba rfl rfl rfl yd_X7_ba ⟨Nat.le_of_ble_eq_true rfl, Nat.le_of_ble_eq_true rfl⟩ [0, 2] rfl (by decide) 0 rfl rfl (wX7_stress c M M_thrown M_waters M_windX M_windY M_barrels M_crew M_waterTable M_table M_people) [(true, 0), (false, 1), (true, 1), (false, 3)] rfl (by decide) rfl rfl [.int r1, .ref (M 0)] rfl (Nat.le_of_ble_eq_true rfl) ⟨Nat.le_of_ble_eq_true rfl, Nat.le_of_ble_eq_true rfl⟩ dX7_stress_10 13 0 0 rfl ⟨rfl, rfl⟩ ?_
  refine vv_iconst C (v := 2) dX7_stress_13 (by decide) 14 rfl ?_
  obtain ⟨r3, hr3, h⟩ := bnd_s h
  refine vv_callVi C (fun l => mt_X7_seaTold l D c M M_thrown M_waters M_windX M_windY M_barrels M_crew M_waterTable r1 r2 2 r3 hr3) gX7_stress_X7_seaTold rfl rfl rfl yd_X7_seaTold ⟨Nat.le_of_ble_eq_true rfl, Nat.le_of_ble_eq_true rfl⟩ [0, 1] rfl (by decide) 0 rfl rfl (wX7_stress c M M_thrown M_waters M_windX M_windY M_barrels M_crew M_waterTable M_table M_people) [(true, 0), (true, 1), (false, 2), (false, 3)] rfl (by decide) rfl rfl [] rfl (Nat.le_of_ble_eq_true rfl) ⟨Nat.le_of_ble_eq_true rfl, Nat.le_of_ble_eq_true rfl⟩ dX7_stress_14 17 0 0 rfl ⟨rfl, rfl⟩ ?_
  refine vv_aload_n C dX7_stress_17 rfl 0 rfl 18 rfl ?_
  refine vv_iload_n C dX7_stress_18 rfl 1 rfl 19 rfl ?_
  obtain ⟨r4, hr4, h⟩ := bnd_s h
  refine vv_callVi C (fun l => mt_X7_loadOf l D c M M_thrown M_waters M_windX M_windY M_barrels M_crew M_table M_people a1 r4 hr4) gX7_stress_X7_loadOf rfl rfl rfl yd_X7_loadOf ⟨Nat.le_of_ble_eq_true rfl, Nat.le_of_ble_eq_true rfl⟩ [0, 2, 3] rfl (by decide) 0 rfl rfl (wX7_stress c M M_thrown M_waters M_windX M_windY M_barrels M_crew M_waterTable M_table M_people) [(true, 0), (false, 1), (true, 1), (true, 2)] rfl (by decide) rfl rfl [.int r3] rfl (Nat.le_of_ble_eq_true rfl) ⟨Nat.le_of_ble_eq_true rfl, Nat.le_of_ble_eq_true rfl⟩ dX7_stress_19 22 0 0 rfl ⟨rfl, rfl⟩ ?_
  refine vv_aload_n C dX7_stress_22 rfl 0 rfl 23 rfl ?_
  refine vv_iload_n C dX7_stress_23 rfl 2 rfl 24 rfl ?_
  obtain ⟨r5, hr5, h⟩ := bnd_s h
  refine vv_callVi C (fun l => mt_X7_loadOf l D c M M_thrown M_waters M_windX M_windY M_barrels M_crew M_table M_people a2 r5 hr5) gX7_stress_X7_loadOf rfl rfl rfl yd_X7_loadOf ⟨Nat.le_of_ble_eq_true rfl, Nat.le_of_ble_eq_true rfl⟩ [0, 2, 3] rfl (by decide) 0 rfl rfl (wX7_stress c M M_thrown M_waters M_windX M_windY M_barrels M_crew M_waterTable M_table M_people) [(true, 0), (false, 1), (true, 1), (true, 2)] rfl (by decide) rfl rfl [.int r4, .int r3] rfl (Nat.le_of_ble_eq_true rfl) ⟨Nat.le_of_ble_eq_true rfl, Nat.le_of_ble_eq_true rfl⟩ dX7_stress_24 27 0 0 rfl ⟨rfl, rfl⟩ ?_
  refine vv_isub C dX7_stress_27 28 rfl ?_
  refine vv_mabs C kwX7_stress_1 kwX7_stress_2 kwX7_stress_3 kwX7_stress_4 ⟨Nat.le_of_ble_eq_true rfl, Nat.le_of_ble_eq_true rfl⟩ ⟨Nat.le_of_ble_eq_true rfl, Nat.le_of_ble_eq_true rfl⟩ dX7_stress_28 31 rfl ?_
  refine vv_iconst C (v := 2) dX7_stress_31 (by decide) 32 rfl ?_
  refine vv_idiv C dX7_stress_32 (by decide) 33 rfl ?_
  refine vv_iadd C dX7_stress_33 34 rfl ?_
  obtain rfl := Option.some.inj h
  exact ret _ _ dX7_stress_34
abbrev wX7_hourOn (c : Nat → ClassId) (M : Nat → Nat) (M_thrown : Int32) (M_waters : Int32) (M_windX : Int32) (M_windY : Int32) (M_barrels : Int32) (M_crew : Int32) (M_waterTable : Nat → Int32) (M_fixed : Nat → Int32) (M_table : Nat → Int32) (M_strength : Nat → Int32) (M_wear : Nat → Int32) (M_people : Nat → Int32) (M_numbers : Nat → Int32) (M_pieces : Nat → Int32) : va_W := [(M 0, .inr (7, [.int M_thrown, .int M_waters, .ref (M 1), .int M_windX, .int M_windY, .int M_barrels, .ref (M 2), .int M_crew, .ref (M 3), .ref (M 4), .ref (M 5), .ref (M 6), .ref (M 7), .ref (M 8), .ref (M 9), .ref (M 10), .ref (M 11), .ref (M 12)])), aI c (M 1) 56 M_waterTable, aI c (M 2) 72 M_fixed, aI c (M 3) 120 M_table, aI c (M 4) 576 M_strength, aI c (M 5) 576 M_wear, aI c (M 6) 16 M_people, aI c (M 7) 3 M_numbers, aI c (M 8) 24 M_pieces]
abbrev rmX7_hourOn : Room := { frames := 4, cells := 0, slots := 0, locals := 91 }
theorem yd_X7_hourOn : yX7_hourOn.cls = RX7 ∧ yX7_hourOn.cls ≠ "java/lang/invoke/MethodHandle" ∧ yX7_hourOn.cls ≠ "java/lang/invoke/VarHandle" ∧ (parseMethodDescriptor yX7_hourOn.desc).map (fun d => d.parameters.length) = some 0 := by decide +kernel
theorem kwX7_hourOn_1 : Cond.fieldLink RX7 51 "BarrelRaftModel" "barrels" "I" ∈ wsX7_hourOn := List.mem_of_getElem? (i := 1) rfl
set_option maxRecDepth 20000 in
theorem kinX7_hourOn_X7 : ∀ w ∈ u_ws RX7 TX7 18, w ∈ wsX7_hourOn := by decide +kernel
theorem kwX7_hourOn_2 : Cond.methodLink RX7 62 Lib.Math.min.name ∈ wsX7_hourOn := List.mem_of_getElem? (i := 2) rfl
theorem kwX7_hourOn_3 : Cond.static Lib.Math.min.name ∈ wsX7_hourOn := List.mem_of_getElem? (i := 3) rfl
theorem kwX7_hourOn_4 : Cond.initialized "java/lang/Math" ∈ wsX7_hourOn := List.mem_of_getElem? (i := 4) rfl
theorem kwX7_hourOn_5 : Cond.code Lib.Math.min.name Lib.Math.min.code 2 (some .int) ∈ wsX7_hourOn := List.mem_of_getElem? (i := 5) rfl
theorem kwX7_hourOn_6 : Cond.fieldLink RX7 31 "BarrelRaftModel" "pieces" "[I" ∈ wsX7_hourOn := List.mem_of_getElem? (i := 6) rfl
theorem kwX7_hourOn_7 : Cond.fieldLink RX7 19 "BarrelRaftModel" "strength" "[I" ∈ wsX7_hourOn := List.mem_of_getElem? (i := 7) rfl
theorem kwX7_hourOn_8 : Cond.fieldLink RX7 22 "BarrelRaftModel" "wear" "[I" ∈ wsX7_hourOn := List.mem_of_getElem? (i := 8) rfl
theorem kwX7_hourOn_10 : Cond.methodLink RX7 67 Lib.Math.max.name ∈ wsX7_hourOn := List.mem_of_getElem? (i := 10) rfl
theorem kwX7_hourOn_11 : Cond.static Lib.Math.max.name ∈ wsX7_hourOn := List.mem_of_getElem? (i := 11) rfl
theorem kwX7_hourOn_12 : Cond.code Lib.Math.max.name Lib.Math.max.code 2 (some .int) ∈ wsX7_hourOn := List.mem_of_getElem? (i := 12) rfl
theorem kwX7_hourOn_13 : Cond.fieldLink RX7 100 "BarrelRaftModel" "windY" "I" ∈ wsX7_hourOn := List.mem_of_getElem? (i := 13) rfl
theorem kwX7_hourOn_9 : Cond.fieldLink RX7 97 "BarrelRaftModel" "windX" "I" ∈ wsX7_hourOn := List.mem_of_getElem? (i := 9) rfl
theorem kwX7_hourOn_14 : Cond.fieldLink RX7 28 "BarrelRaftModel" "numbers" "[I" ∈ wsX7_hourOn := List.mem_of_getElem? (i := 14) rfl
def jX7_hourOn_L4 (M_barrels : Int32) (M_fixed : Nat → Int32) (n : Nat) (M_table_4 : Nat → Int32) (v2_4 : Int32) : Option ((Nat → Int32)) :=
  match n with
  | 0 => none
  | n + 1 => (if M_barrels ≤ v2_4 then some M_table_4 else bnd (jX7_floats M_table_4 v2_4) (fun r1 => (if r1 = 0 then jX7_hourOn_L4 M_barrels M_fixed n M_table_4 (v2_4 + 1) else bnd (jX7_ba M_table_4 v2_4 0) (fun r2 => bnd (jX7_fx M_fixed v2_4 2) (fun r3 => bnd (jX7_set M_table_4 v2_4 0 (mmin 100 (r2 + r3))) (fun r4 => jX7_hourOn_L4 M_barrels M_fixed n r4 (v2_4 + 1)))))))
def jX7_hourOn_L56 (M_barrels : Int32) (M_crew : Int32) (M_fixed : Nat → Int32) (M_pieces : Nat → Int32) (n : Nat) (M_table_56 : Nat → Int32) (M_strength_56 : Nat → Int32) (M_wear_56 : Nat → Int32) (M_people_56 : Nat → Int32) (v2_56 : Int32) : Option ((Nat → Int32) × (Nat → Int32) × (Nat → Int32) × (Nat → Int32)) :=
  match n with
  | 0 => none
  | n + 1 => (if M_barrels ≤ v2_56 then some (M_table_56, M_strength_56, M_wear_56, M_people_56) else chk 24 v2_56 ((if rd M_pieces v2_56 = v2_56 then bnd (jX7_sumIn M_barrels M_crew M_fixed M_table_56 M_people_56 M_pieces v2_56 2) (fun r7 => bnd (jX7_sumIn M_barrels M_crew M_fixed M_table_56 M_people_56 M_pieces v2_56 1) (fun r8 => (if r7 ≤ r8 then jX7_hourOn_L56 M_barrels M_crew M_fixed M_pieces n M_table_56 M_strength_56 M_wear_56 M_people_56 (v2_56 + 1) else bnd (jX7_end M_barrels M_crew M_table_56 M_strength_56 M_wear_56 M_people_56 M_pieces v2_56 1) (fun r9 => jX7_hourOn_L56 M_barrels M_crew M_fixed M_pieces n r9.1 r9.2.1 r9.2.2.1 r9.2.2.2 (v2_56 + 1))))) else jX7_hourOn_L56 M_barrels M_crew M_fixed M_pieces n M_table_56 M_strength_56 M_wear_56 M_people_56 (v2_56 + 1))))
def jX7_hourOn_L115 (M_waters : Int32) (M_barrels : Int32) (M_crew : Int32) (M_waterTable : Nat → Int32) (M_table : Nat → Int32) (M_people : Nat → Int32) (u2 : Int32) (n : Nat) (M_strength_115 : Nat → Int32) (M_wear_115 : Nat → Int32) (v1_115 : Int32) (v3_115 : Int32) : Option ((Nat → Int32) × (Nat → Int32) × Int32) :=
  match n with
  | 0 => none
  | n + 1 => (if M_barrels ≤ v3_115 then some (M_strength_115, M_wear_115, v1_115) else bnd (jX7_isTied M_strength_115 u2 v3_115) (fun r11 => (if r11 = 0 then jX7_hourOn_L115 M_waters M_barrels M_crew M_waterTable M_table M_people u2 n M_strength_115 M_wear_115 v1_115 (v3_115 + 1) else bnd (jX7_stress M_waters M_crew M_waterTable M_table M_people u2 v3_115) (fun r12 => bnd (jX7_pair u2 v3_115) (fun r13 => chk 576 r13 (bnd (jX7_pair u2 v3_115) (fun r14 => chk 576 r14 ((if r12 ≤ (rd M_strength_115 r13) - (rd M_wear_115 r14) then bnd (jX7_pair u2 v3_115) (fun r15 => chk 576 r15 (chk 576 r15 (jX7_hourOn_L115 M_waters M_barrels M_crew M_waterTable M_table M_people u2 n M_strength_115 (wr M_wear_115 r15 ((rd M_wear_115 r15) + (r12 / 4))) v1_115 (v3_115 + 1)))) else bnd (jX7_untie M_strength_115 M_wear_115 u2 v3_115) (fun r16 => jX7_hourOn_L115 M_waters M_barrels M_crew M_waterTable M_table M_people u2 n r16.1 r16.2 (v1_115 + 1) (v3_115 + 1)))))))))))
def jX7_hourOn_L103 (M_waters : Int32) (M_barrels : Int32) (M_crew : Int32) (M_waterTable : Nat → Int32) (M_table : Nat → Int32) (M_people : Nat → Int32) (n : Nat) (M_strength_103 : Nat → Int32) (M_wear_103 : Nat → Int32) (v1_103 : Int32) (v2_103 : Int32) : Option ((Nat → Int32) × (Nat → Int32) × Int32) :=
  match n with
  | 0 => none
  | n + 1 => (if M_barrels ≤ v2_103 then some (M_strength_103, M_wear_103, v1_103) else bnd (jX7_hourOn_L115 M_waters M_barrels M_crew M_waterTable M_table M_people v2_103 FU M_strength_103 M_wear_103 v1_103 (v2_103 + 1)) (fun r17 => jX7_hourOn_L103 M_waters M_barrels M_crew M_waterTable M_table M_people n r17.1 r17.2.1 r17.2.2 (v2_103 + 1)))
def jX7_hourOn_L351 (M_barrels : Int32) (M_pieces : Nat → Int32) (u2 : Int32) (u6 : Int32) (u7 : Int32) (n : Nat) (M_table_351 : Nat → Int32) (v8_351 : Int32) : Option ((Nat → Int32)) :=
  match n with
  | 0 => none
  | n + 1 => (if M_barrels ≤ v8_351 then some M_table_351 else chk 24 v8_351 ((if rd M_pieces v8_351 = u2 then bnd (jX7_set M_table_351 v8_351 3 u6) (fun r26 => bnd (jX7_set r26 v8_351 4 u7) (fun r27 => jX7_hourOn_L351 M_barrels M_pieces u2 u6 u7 n r27 (v8_351 + 1))) else jX7_hourOn_L351 M_barrels M_pieces u2 u6 u7 n M_table_351 (v8_351 + 1))))
def jX7_hourOn_L216 (M_waters : Int32) (M_windX : Int32) (M_windY : Int32) (M_barrels : Int32) (M_crew : Int32) (M_waterTable : Nat → Int32) (M_fixed : Nat → Int32) (M_people : Nat → Int32) (M_pieces : Nat → Int32) (n : Nat) (M_table_216 : Nat → Int32) (v2_216 : Int32) : Option ((Nat → Int32)) :=
  match n with
  | 0 => none
  | n + 1 => (if M_barrels ≤ v2_216 then some M_table_216 else chk 24 v2_216 ((if rd M_pieces v2_216 = v2_216 then bnd (jX7_sumIn M_barrels M_crew M_fixed M_table_216 M_people M_pieces v2_216 2) (fun r20 => bnd (jX7_sumIn M_barrels M_crew M_fixed M_table_216 M_people M_pieces v2_216 1) (fun r21 => jn (fun (x259 : Int32) => bnd (jX7_ba M_table_216 v2_216 3) (fun r22 => bnd (jX7_ba M_table_216 v2_216 4) (fun r23 => bnd (jX7_seaTold M_waters M_waterTable r22 r23 0) (fun r24 => jn (fun (x303 : Int32) => bnd (jX7_seaTold M_waters M_waterTable r22 r23 1) (fun r25 => jn (fun (x339 : Int32) => bnd (jX7_hourOn_L351 M_barrels M_pieces v2_216 (mmax 0 (mmin 29 ((r22 + r24) + x303))) (mmax 0 (mmin 19 ((r23 + r25) + x339))) FU M_table_216 0) (fun r28 => jX7_hourOn_L216 M_waters M_windX M_windY M_barrels M_crew M_waterTable M_fixed M_people M_pieces n r28 (v2_216 + 1))) (fun k339 => if x259 = 0 then k339 0 else k339 M_windY))) (fun k303 => if x259 = 0 then k303 0 else k303 M_windX))))) (fun k259 => if r21 ≤ 2 * r20 then k259 0 else k259 1))) else jX7_hourOn_L216 M_waters M_windX M_windY M_barrels M_crew M_waterTable M_fixed M_people M_pieces n M_table_216 (v2_216 + 1))))
def jX7_hourOn_L406 (M_barrels : Int32) (M_crew : Int32) (M_pieces : Nat → Int32) (n : Nat) (M_table_406 : Nat → Int32) (M_strength_406 : Nat → Int32) (M_wear_406 : Nat → Int32) (M_people_406 : Nat → Int32) (v2_406 : Int32) : Option ((Nat → Int32) × (Nat → Int32) × (Nat → Int32) × (Nat → Int32)) :=
  match n with
  | 0 => none
  | n + 1 => (if M_barrels ≤ v2_406 then some (M_table_406, M_strength_406, M_wear_406, M_people_406) else chk 24 v2_406 ((if rd M_pieces v2_406 = v2_406 then bnd (jX7_ba M_table_406 v2_406 3) (fun r30 => (if r30 = 29 then bnd (jX7_end M_barrels M_crew M_table_406 M_strength_406 M_wear_406 M_people_406 M_pieces v2_406 2) (fun r31 => jX7_hourOn_L406 M_barrels M_crew M_pieces n r31.1 r31.2.1 r31.2.2.1 r31.2.2.2 (v2_406 + 1)) else jX7_hourOn_L406 M_barrels M_crew M_pieces n M_table_406 M_strength_406 M_wear_406 M_people_406 (v2_406 + 1))) else jX7_hourOn_L406 M_barrels M_crew M_pieces n M_table_406 M_strength_406 M_wear_406 M_people_406 (v2_406 + 1))))
def jX7_hourOn (M_waters : Int32) (M_windX : Int32) (M_windY : Int32) (M_barrels : Int32) (M_crew : Int32) (M_waterTable : Nat → Int32) (M_fixed : Nat → Int32) (M_table : Nat → Int32) (M_strength : Nat → Int32) (M_wear : Nat → Int32) (M_people : Nat → Int32) (M_numbers : Nat → Int32) (M_pieces : Nat → Int32) : Option (Int32 × (Nat → Int32) × (Nat → Int32) × (Nat → Int32) × (Nat → Int32) × (Nat → Int32) × (Nat → Int32)) :=
  bnd (jX7_hourOn_L4 M_barrels M_fixed FU M_table 0) (fun r5 => bnd (jX7_name M_barrels r5 M_strength M_pieces) (fun r6 => bnd (jX7_hourOn_L56 M_barrels M_crew M_fixed r6 FU r5 M_strength M_wear M_people 0) (fun r10 => bnd (jX7_hourOn_L103 M_waters M_barrels M_crew M_waterTable r10.1 r10.2.2.2 FU r10.2.1 r10.2.2.1 0 0) (fun r18 => bnd (jX7_name M_barrels r10.1 r18.1 r6) (fun r19 => bnd (jX7_hourOn_L216 M_waters M_windX M_windY M_barrels M_crew M_waterTable M_fixed r10.2.2.2 r19 FU r10.1 0) (fun r29 => bnd (jX7_hourOn_L406 M_barrels M_crew r19 FU r29 r18.1 r18.2.1 r10.2.2.2 0) (fun r32 => chk 3 0 (chk 3 0 (chk 3 2 (chk 3 2 (some (r18.2.2, r32.1, r32.2.1, r32.2.2.1, r32.2.2.2, wr (wr M_numbers 0 ((rd M_numbers 0) + 1)) 2 ((rd (wr M_numbers 0 ((rd M_numbers 0) + 1)) 2) + r18.2.2), r19))))))))))))
set_option maxHeartbeats 4000000 in
set_option maxRecDepth 100000 in
theorem mt_X7_hourOn (l : Launch) (D : va_G) (c : Nat → ClassId) (M : Nat → Nat) (M_thrown : Int32) (M_waters : Int32) (M_windX : Int32) (M_windY : Int32) (M_barrels : Int32) (M_crew : Int32) (M_waterTable : Nat → Int32) (M_fixed : Nat → Int32) (M_table : Nat → Int32) (M_strength : Nat → Int32) (M_wear : Nat → Int32) (M_people : Nat → Int32) (M_numbers : Nat → Int32) (M_pieces : Nat → Int32) (q0 : Int32 × (Nat → Int32) × (Nat → Int32) × (Nat → Int32) × (Nat → Int32) × (Nat → Int32) × (Nat → Int32)) (h : jX7_hourOn M_waters M_windX M_windY M_barrels M_crew M_waterTable M_fixed M_table M_strength M_wear M_people M_numbers M_pieces = some q0) : DTi l yX7_hourOn wsX7_hourOn rmX7_hourOn D c (wX7_hourOn c M M_thrown M_waters M_windX M_windY M_barrels M_crew M_waterTable M_fixed M_table M_strength M_wear M_people M_numbers M_pieces) [.ref (M 0)] q0.1 (wX7_hourOn c M M_thrown M_waters M_windX M_windY M_barrels M_crew M_waterTable M_fixed q0.2.1 q0.2.2.1 q0.2.2.2.1 q0.2.2.2.2.1 q0.2.2.2.2.2.1 q0.2.2.2.2.2.2) 0 0 := by
  refine DTi_of (cc := cX7_hourOn) (nL := 9) RX7 rfl (by decide) rfl (Nat.le_of_ble_eq_true rfl) (fun g C ret => ?_)
  unfold jX7_hourOn at h
  refine vv_lv [0] [(0, .ref (M 0))] rfl ?_
  refine vv_iconst C (v := 0) dX7_hourOn_0 (by decide) 1 rfl ?_
  refine vv_istore_n C [(1, .int 0), (0, .ref (M 0))] dX7_hourOn_1 rfl (by decide) rfl 2 rfl ?_
  refine vv_iconst C (v := 0) dX7_hourOn_2 (by decide) 3 rfl ?_
  refine vv_istore_n C [(2, .int 0), (1, .int 0), (0, .ref (M 0))] dX7_hourOn_3 rfl (by decide) rfl 4 rfl ?_
  refine vv_lv [2, 1, 0] [(0, .ref (M 0)), (1, .int 0), (2, .int 0)] rfl ?_
  have L4 : ∀ (n : Nat) (M_table_4 : Nat → Int32) (v2_4 : Int32) (q4 : (Nat → Int32)), jX7_hourOn_L4 M_barrels M_fixed n M_table_4 v2_4 = some q4 → (VV g D 9 0 0 (wX7_hourOn c M M_thrown M_waters M_windX M_windY M_barrels M_crew M_waterTable M_fixed q4 M_strength M_wear M_people M_numbers M_pieces) [(0, .ref (M 0)), (1, .int 0)] 50 []) → VV g D 9 0 0 (wX7_hourOn c M M_thrown M_waters M_windX M_windY M_barrels M_crew M_waterTable M_fixed M_table_4 M_strength M_wear M_people M_numbers M_pieces) [(0, .ref (M 0)), (1, .int 0), (2, .int v2_4)] 4 [] := by
    intro n
    induction n with
    | zero =>
      intro M_table_4 v2_4 q4 h _
      rw [jX7_hourOn_L4] at h
      cases h
    | succ n ih4 =>
      intro M_table_4 v2_4 q4 h kk4
      rw [jX7_hourOn_L4] at h
      refine vv_iload_n C dX7_hourOn_4 rfl 2 rfl 5 rfl ?_
      refine vv_aload_n C dX7_hourOn_5 rfl 0 rfl 6 rfl ?_
      refine vv_get C (q0 := 0) (ci := 7) (k := 5) kinX7_hourOn_X7 rfl rfl (by decide) kwX7_hourOn_1 rfl rfl dX7_hourOn_6 9 rfl ?_
      refine vv_icmp_ge C 50 12 dX7_hourOn_9 (by decide) rfl (fun hc => ?_) (fun hc => ?_)
      · replace h := ite_t hc h
        refine vv_lv [0, 1] [(0, .ref (M 0)), (1, .int 0)] rfl ?_
        obtain rfl := Option.some.inj h
        exact kk4
      · replace h := ite_f hc h
        refine vv_aload_n C dX7_hourOn_12 rfl 0 rfl 13 rfl ?_
        refine vv_iload_n C dX7_hourOn_13 rfl 2 rfl 14 rfl ?_
        obtain ⟨r1, hr1, h⟩ := bnd_s h
        refine vv_callVi C (fun l => mt_X7_floats l D c M M_thrown M_waters M_windX M_windY M_barrels M_crew M_table_4 v2_4 r1 hr1) gX7_hourOn_X7_floats rfl rfl rfl yd_X7_floats ⟨Nat.le_of_ble_eq_true rfl, Nat.le_of_ble_eq_true rfl⟩ [0, 3] rfl (by decide) 0 rfl rfl (wX7_hourOn c M M_thrown M_waters M_windX M_windY M_barrels M_crew M_waterTable M_fixed M_table_4 M_strength M_wear M_people M_numbers M_pieces) [(true, 0), (false, 1), (false, 2), (true, 1), (false, 4), (false, 5), (false, 6), (false, 7), (false, 8)] rfl (by decide) rfl rfl [] rfl (Nat.le_of_ble_eq_true rfl) ⟨Nat.le_of_ble_eq_true rfl, Nat.le_of_ble_eq_true rfl⟩ dX7_hourOn_14 17 0 0 rfl ⟨rfl, rfl⟩ ?_
        refine vv_if_eq C 44 20 dX7_hourOn_17 (by decide) rfl (fun hc => ?_) (fun hc => ?_)
        · replace h := ite_t hc h
          refine vv_iinc C (k := 2) [(2, .int (v2_4 + 1)), (0, .ref (M 0)), (1, .int 0)] dX7_hourOn_44 rfl rfl (by decide) rfl 47 rfl ?_
          refine vv_goto C 4 dX7_hourOn_47 (by decide) ?_
          refine vv_lv [1, 2, 0] [(0, .ref (M 0)), (1, .int 0), (2, .int (v2_4 + 1))] rfl ?_
          exact ih4 M_table_4 (v2_4 + 1) _ h kk4
        · replace h := ite_f hc h
          refine vv_aload_n C dX7_hourOn_20 rfl 0 rfl 21 rfl ?_
          refine vv_iload_n C dX7_hourOn_21 rfl 2 rfl 22 rfl ?_
          refine vv_iconst C (v := 0) dX7_hourOn_22 (by decide) 23 rfl ?_
          refine vv_bipush C (v := 100) dX7_hourOn_23 (by decide) 25 rfl ?_
          refine vv_aload_n C dX7_hourOn_25 rfl 0 rfl 26 rfl ?_
          refine vv_iload_n C dX7_hourOn_26 rfl 2 rfl 27 rfl ?_
          refine vv_iconst C (v := 0) dX7_hourOn_27 (by decide) 28 rfl ?_
          obtain ⟨r2, hr2, h⟩ := bnd_s h
          refine vv_callVi C (fun l => mt_X7_ba l D c M M_thrown M_waters M_windX M_windY M_barrels M_crew M_table_4 v2_4 0 r2 hr2) gX7_hourOn_X7_ba rfl rfl rfl yd_X7_ba ⟨Nat.le_of_ble_eq_true rfl, Nat.le_of_ble_eq_true rfl⟩ [0, 3] rfl (by decide) 0 rfl rfl (wX7_hourOn c M M_thrown M_waters M_windX M_windY M_barrels M_crew M_waterTable M_fixed M_table_4 M_strength M_wear M_people M_numbers M_pieces) [(true, 0), (false, 1), (false, 2), (true, 1), (false, 4), (false, 5), (false, 6), (false, 7), (false, 8)] rfl (by decide) rfl rfl [.int 100, .int 0, .int v2_4, .ref (M 0)] rfl (Nat.le_of_ble_eq_true rfl) ⟨Nat.le_of_ble_eq_true rfl, Nat.le_of_ble_eq_true rfl⟩ dX7_hourOn_28 31 0 0 rfl ⟨rfl, rfl⟩ ?_
          refine vv_aload_n C dX7_hourOn_31 rfl 0 rfl 32 rfl ?_
          refine vv_iload_n C dX7_hourOn_32 rfl 2 rfl 33 rfl ?_
          refine vv_iconst C (v := 2) dX7_hourOn_33 (by decide) 34 rfl ?_
          obtain ⟨r3, hr3, h⟩ := bnd_s h
          refine vv_callVi C (fun l => mt_X7_fx l D c M M_thrown M_waters M_windX M_windY M_barrels M_crew M_fixed v2_4 2 r3 hr3) gX7_hourOn_X7_fx rfl rfl rfl yd_X7_fx ⟨Nat.le_of_ble_eq_true rfl, Nat.le_of_ble_eq_true rfl⟩ [0, 2] rfl (by decide) 0 rfl rfl (wX7_hourOn c M M_thrown M_waters M_windX M_windY M_barrels M_crew M_waterTable M_fixed M_table_4 M_strength M_wear M_people M_numbers M_pieces) [(true, 0), (false, 1), (true, 1), (false, 3), (false, 4), (false, 5), (false, 6), (false, 7), (false, 8)] rfl (by decide) rfl rfl [.int r2, .int 100, .int 0, .int v2_4, .ref (M 0)] rfl (Nat.le_of_ble_eq_true rfl) ⟨Nat.le_of_ble_eq_true rfl, Nat.le_of_ble_eq_true rfl⟩ dX7_hourOn_34 37 0 0 rfl ⟨rfl, rfl⟩ ?_
          refine vv_iadd C dX7_hourOn_37 38 rfl ?_
          refine vv_mmin C kwX7_hourOn_2 kwX7_hourOn_3 kwX7_hourOn_4 kwX7_hourOn_5 ⟨Nat.le_of_ble_eq_true rfl, Nat.le_of_ble_eq_true rfl⟩ ⟨Nat.le_of_ble_eq_true rfl, Nat.le_of_ble_eq_true rfl⟩ dX7_hourOn_38 41 rfl ?_
          obtain ⟨r4, hr4, h⟩ := bnd_s h
          refine vv_callVv C (fun l => mt_X7_set l D c M M_thrown M_waters M_windX M_windY M_barrels M_crew M_table_4 v2_4 0 (mmin 100 (r2 + r3)) r4 hr4) gX7_hourOn_X7_set rfl rfl rfl yd_X7_set ⟨Nat.le_of_ble_eq_true rfl, Nat.le_of_ble_eq_true rfl⟩ [0, 3] rfl (by decide) 0 rfl rfl (wX7_hourOn c M M_thrown M_waters M_windX M_windY M_barrels M_crew M_waterTable M_fixed r4 M_strength M_wear M_people M_numbers M_pieces) [(true, 0), (false, 1), (false, 2), (true, 1), (false, 4), (false, 5), (false, 6), (false, 7), (false, 8)] rfl (by decide) rfl rfl [] rfl (Nat.le_of_ble_eq_true rfl) ⟨Nat.le_of_ble_eq_true rfl, Nat.le_of_ble_eq_true rfl⟩ dX7_hourOn_41 44 0 0 rfl ⟨rfl, rfl⟩ ?_
          refine vv_iinc C (k := 2) [(2, .int (v2_4 + 1)), (0, .ref (M 0)), (1, .int 0)] dX7_hourOn_44 rfl rfl (by decide) rfl 47 rfl ?_
          refine vv_goto C 4 dX7_hourOn_47 (by decide) ?_
          refine vv_lv [1, 2, 0] [(0, .ref (M 0)), (1, .int 0), (2, .int (v2_4 + 1))] rfl ?_
          exact ih4 r4 (v2_4 + 1) _ h kk4
  obtain ⟨r5, hr5, h⟩ := bnd_s h
  refine L4 FU M_table 0 r5 hr5 ?_
  refine vv_aload_n C dX7_hourOn_50 rfl 0 rfl 51 rfl ?_
  obtain ⟨r6, hr6, h⟩ := bnd_s h
  refine vv_callVv C (fun l => mt_X7_name l D c M M_thrown M_waters M_windX M_windY M_barrels M_crew r5 M_strength M_pieces r6 hr6) gX7_hourOn_X7_name rfl rfl rfl yd_X7_name ⟨Nat.le_of_ble_eq_true rfl, Nat.le_of_ble_eq_true rfl⟩ [0, 3, 4, 8] rfl (by decide) 0 rfl rfl (wX7_hourOn c M M_thrown M_waters M_windX M_windY M_barrels M_crew M_waterTable M_fixed r5 M_strength M_wear M_people M_numbers r6) [(true, 0), (false, 1), (false, 2), (true, 1), (true, 2), (false, 5), (false, 6), (false, 7), (true, 3)] rfl (by decide) rfl rfl [] rfl (Nat.le_of_ble_eq_true rfl) ⟨Nat.le_of_ble_eq_true rfl, Nat.le_of_ble_eq_true rfl⟩ dX7_hourOn_51 54 0 0 rfl ⟨rfl, rfl⟩ ?_
  refine vv_iconst C (v := 0) dX7_hourOn_54 (by decide) 55 rfl ?_
  refine vv_istore_n C [(2, .int 0), (0, .ref (M 0)), (1, .int 0)] dX7_hourOn_55 rfl (by decide) rfl 56 rfl ?_
  refine vv_lv [1, 2, 0] [(0, .ref (M 0)), (1, .int 0), (2, .int 0)] rfl ?_
  have L56 : ∀ (n : Nat) (M_table_56 : Nat → Int32) (M_strength_56 : Nat → Int32) (M_wear_56 : Nat → Int32) (M_people_56 : Nat → Int32) (v2_56 : Int32) (q56 : (Nat → Int32) × (Nat → Int32) × (Nat → Int32) × (Nat → Int32)), jX7_hourOn_L56 M_barrels M_crew M_fixed r6 n M_table_56 M_strength_56 M_wear_56 M_people_56 v2_56 = some q56 → (VV g D 9 0 0 (wX7_hourOn c M M_thrown M_waters M_windX M_windY M_barrels M_crew M_waterTable M_fixed q56.1 q56.2.1 q56.2.2.1 q56.2.2.2 M_numbers r6) [(0, .ref (M 0)), (1, .int 0)] 101 []) → VV g D 9 0 0 (wX7_hourOn c M M_thrown M_waters M_windX M_windY M_barrels M_crew M_waterTable M_fixed M_table_56 M_strength_56 M_wear_56 M_people_56 M_numbers r6) [(0, .ref (M 0)), (1, .int 0), (2, .int v2_56)] 56 [] := by
    intro n
    induction n with
    | zero =>
      intro M_table_56 M_strength_56 M_wear_56 M_people_56 v2_56 q56 h _
      rw [jX7_hourOn_L56] at h
      cases h
    | succ n ih56 =>
      intro M_table_56 M_strength_56 M_wear_56 M_people_56 v2_56 q56 h kk56
      rw [jX7_hourOn_L56] at h
      refine vv_iload_n C dX7_hourOn_56 rfl 2 rfl 57 rfl ?_
      refine vv_aload_n C dX7_hourOn_57 rfl 0 rfl 58 rfl ?_
      refine vv_get C (q0 := 0) (ci := 7) (k := 5) kinX7_hourOn_X7 rfl rfl (by decide) kwX7_hourOn_1 rfl rfl dX7_hourOn_58 61 rfl ?_
      refine vv_icmp_ge C 101 64 dX7_hourOn_61 (by decide) rfl (fun hc => ?_) (fun hc => ?_)
      · replace h := ite_t hc h
        refine vv_lv [0, 1] [(0, .ref (M 0)), (1, .int 0)] rfl ?_
        obtain rfl := Option.some.inj h
        exact kk56
      · replace h := ite_f hc h
        refine vv_aload_n C dX7_hourOn_64 rfl 0 rfl 65 rfl ?_
        refine vv_get C (q0 := 0) (ci := 7) (k := 13) kinX7_hourOn_X7 rfl rfl (by decide) kwX7_hourOn_6 rfl rfl dX7_hourOn_65 68 rfl ?_
        refine vv_iload_n C dX7_hourOn_68 rfl 2 rfl 69 rfl ?_
        obtain ⟨hi, h⟩ := chk_s h
        refine vv_iald C (q0 := 8) rfl hi dX7_hourOn_69 70 rfl ?_
        refine vv_iload_n C dX7_hourOn_70 rfl 2 rfl 71 rfl ?_
        refine vv_icmp_ne C 95 74 dX7_hourOn_71 (by decide) rfl (fun hc => ?_) (fun hc => ?_)
        · replace h := ite_f hc h
          refine vv_iinc C (k := 2) [(2, .int (v2_56 + 1)), (0, .ref (M 0)), (1, .int 0)] dX7_hourOn_95 rfl rfl (by decide) rfl 98 rfl ?_
          refine vv_goto C 56 dX7_hourOn_98 (by decide) ?_
          refine vv_lv [1, 2, 0] [(0, .ref (M 0)), (1, .int 0), (2, .int (v2_56 + 1))] rfl ?_
          exact ih56 M_table_56 M_strength_56 M_wear_56 M_people_56 (v2_56 + 1) _ h kk56
        · replace h := ite_t hc h
          refine vv_aload_n C dX7_hourOn_74 rfl 0 rfl 75 rfl ?_
          refine vv_iload_n C dX7_hourOn_75 rfl 2 rfl 76 rfl ?_
          refine vv_iconst C (v := 2) dX7_hourOn_76 (by decide) 77 rfl ?_
          obtain ⟨r7, hr7, h⟩ := bnd_s h
          refine vv_callVi C (fun l => mt_X7_sumIn l D c M M_thrown M_waters M_windX M_windY M_barrels M_crew M_fixed M_table_56 M_people_56 r6 v2_56 2 r7 hr7) gX7_hourOn_X7_sumIn rfl rfl rfl yd_X7_sumIn ⟨Nat.le_of_ble_eq_true rfl, Nat.le_of_ble_eq_true rfl⟩ [0, 2, 3, 6, 8] rfl (by decide) 0 rfl rfl (wX7_hourOn c M M_thrown M_waters M_windX M_windY M_barrels M_crew M_waterTable M_fixed M_table_56 M_strength_56 M_wear_56 M_people_56 M_numbers r6) [(true, 0), (false, 1), (true, 1), (true, 2), (false, 4), (false, 5), (true, 3), (false, 7), (true, 4)] rfl (by decide) rfl rfl [] rfl (Nat.le_of_ble_eq_true rfl) ⟨Nat.le_of_ble_eq_true rfl, Nat.le_of_ble_eq_true rfl⟩ dX7_hourOn_77 80 0 0 rfl ⟨rfl, rfl⟩ ?_
          refine vv_aload_n C dX7_hourOn_80 rfl 0 rfl 81 rfl ?_
          refine vv_iload_n C dX7_hourOn_81 rfl 2 rfl 82 rfl ?_
          refine vv_iconst C (v := 1) dX7_hourOn_82 (by decide) 83 rfl ?_
          obtain ⟨r8, hr8, h⟩ := bnd_s h
          refine vv_callVi C (fun l => mt_X7_sumIn l D c M M_thrown M_waters M_windX M_windY M_barrels M_crew M_fixed M_table_56 M_people_56 r6 v2_56 1 r8 hr8) gX7_hourOn_X7_sumIn rfl rfl rfl yd_X7_sumIn ⟨Nat.le_of_ble_eq_true rfl, Nat.le_of_ble_eq_true rfl⟩ [0, 2, 3, 6, 8] rfl (by decide) 0 rfl rfl (wX7_hourOn c M M_thrown M_waters M_windX M_windY M_barrels M_crew M_waterTable M_fixed M_table_56 M_strength_56 M_wear_56 M_people_56 M_numbers r6) [(true, 0), (false, 1), (true, 1), (true, 2), (false, 4), (false, 5), (true, 3), (false, 7), (true, 4)] rfl (by decide) rfl rfl [.int r7] rfl (Nat.le_of_ble_eq_true rfl) ⟨Nat.le_of_ble_eq_true rfl, Nat.le_of_ble_eq_true rfl⟩ dX7_hourOn_83 86 0 0 rfl ⟨rfl, rfl⟩ ?_
          refine vv_icmp_le C 95 89 dX7_hourOn_86 (by decide) rfl (fun hc => ?_) (fun hc => ?_)
          · replace h := ite_t hc h
            refine vv_iinc C (k := 2) [(2, .int (v2_56 + 1)), (0, .ref (M 0)), (1, .int 0)] dX7_hourOn_95 rfl rfl (by decide) rfl 98 rfl ?_
            refine vv_goto C 56 dX7_hourOn_98 (by decide) ?_
            refine vv_lv [1, 2, 0] [(0, .ref (M 0)), (1, .int 0), (2, .int (v2_56 + 1))] rfl ?_
            exact ih56 M_table_56 M_strength_56 M_wear_56 M_people_56 (v2_56 + 1) _ h kk56
          · replace h := ite_f hc h
            refine vv_aload_n C dX7_hourOn_89 rfl 0 rfl 90 rfl ?_
            refine vv_iload_n C dX7_hourOn_90 rfl 2 rfl 91 rfl ?_
            refine vv_iconst C (v := 1) dX7_hourOn_91 (by decide) 92 rfl ?_
            obtain ⟨r9, hr9, h⟩ := bnd_s h
            refine vv_callVv C (fun l => mt_X7_end l D c M M_thrown M_waters M_windX M_windY M_barrels M_crew M_table_56 M_strength_56 M_wear_56 M_people_56 r6 v2_56 1 r9 hr9) gX7_hourOn_X7_end rfl rfl rfl yd_X7_end ⟨Nat.le_of_ble_eq_true rfl, Nat.le_of_ble_eq_true rfl⟩ [0, 3, 4, 5, 6, 8] rfl (by decide) 0 rfl rfl (wX7_hourOn c M M_thrown M_waters M_windX M_windY M_barrels M_crew M_waterTable M_fixed r9.1 r9.2.1 r9.2.2.1 r9.2.2.2 M_numbers r6) [(true, 0), (false, 1), (false, 2), (true, 1), (true, 2), (true, 3), (true, 4), (false, 7), (true, 5)] rfl (by decide) rfl rfl [] rfl (Nat.le_of_ble_eq_true rfl) ⟨Nat.le_of_ble_eq_true rfl, Nat.le_of_ble_eq_true rfl⟩ dX7_hourOn_92 95 0 0 rfl ⟨rfl, rfl⟩ ?_
            refine vv_iinc C (k := 2) [(2, .int (v2_56 + 1)), (0, .ref (M 0)), (1, .int 0)] dX7_hourOn_95 rfl rfl (by decide) rfl 98 rfl ?_
            refine vv_goto C 56 dX7_hourOn_98 (by decide) ?_
            refine vv_lv [1, 2, 0] [(0, .ref (M 0)), (1, .int 0), (2, .int (v2_56 + 1))] rfl ?_
            exact ih56 r9.1 r9.2.1 r9.2.2.1 r9.2.2.2 (v2_56 + 1) _ h kk56
  obtain ⟨r10, hr10, h⟩ := bnd_s h
  refine L56 FU r5 M_strength M_wear M_people 0 r10 hr10 ?_
  refine vv_iconst C (v := 0) dX7_hourOn_101 (by decide) 102 rfl ?_
  refine vv_istore_n C [(2, .int 0), (0, .ref (M 0)), (1, .int 0)] dX7_hourOn_102 rfl (by decide) rfl 103 rfl ?_
  refine vv_lv [1, 2, 0] [(0, .ref (M 0)), (1, .int 0), (2, .int 0)] rfl ?_
  have L103 : ∀ (n : Nat) (M_strength_103 : Nat → Int32) (M_wear_103 : Nat → Int32) (v1_103 : Int32) (v2_103 : Int32) (q103 : (Nat → Int32) × (Nat → Int32) × Int32), jX7_hourOn_L103 M_waters M_barrels M_crew M_waterTable r10.1 r10.2.2.2 n M_strength_103 M_wear_103 v1_103 v2_103 = some q103 → (VV g D 9 0 0 (wX7_hourOn c M M_thrown M_waters M_windX M_windY M_barrels M_crew M_waterTable M_fixed r10.1 q103.1 q103.2.1 r10.2.2.2 M_numbers r6) [(0, .ref (M 0)), (1, .int q103.2.2)] 210 []) → VV g D 9 0 0 (wX7_hourOn c M M_thrown M_waters M_windX M_windY M_barrels M_crew M_waterTable M_fixed r10.1 M_strength_103 M_wear_103 r10.2.2.2 M_numbers r6) [(0, .ref (M 0)), (1, .int v1_103), (2, .int v2_103)] 103 [] := by
    intro n
    induction n with
    | zero =>
      intro M_strength_103 M_wear_103 v1_103 v2_103 q103 h _
      rw [jX7_hourOn_L103] at h
      cases h
    | succ n ih103 =>
      intro M_strength_103 M_wear_103 v1_103 v2_103 q103 h kk103
      rw [jX7_hourOn_L103] at h
      refine vv_iload_n C dX7_hourOn_103 rfl 2 rfl 104 rfl ?_
      refine vv_aload_n C dX7_hourOn_104 rfl 0 rfl 105 rfl ?_
      refine vv_get C (q0 := 0) (ci := 7) (k := 5) kinX7_hourOn_X7 rfl rfl (by decide) kwX7_hourOn_1 rfl rfl dX7_hourOn_105 108 rfl ?_
      refine vv_icmp_ge C 210 111 dX7_hourOn_108 (by decide) rfl (fun hc => ?_) (fun hc => ?_)
      · replace h := ite_t hc h
        refine vv_lv [0, 1] [(0, .ref (M 0)), (1, .int v1_103)] rfl ?_
        obtain rfl := Option.some.inj h
        exact kk103
      · replace h := ite_f hc h
        refine vv_iload_n C dX7_hourOn_111 rfl 2 rfl 112 rfl ?_
        refine vv_iconst C (v := 1) dX7_hourOn_112 (by decide) 113 rfl ?_
        refine vv_iadd C dX7_hourOn_113 114 rfl ?_
        refine vv_istore_n C [(3, .int (v2_103 + 1)), (0, .ref (M 0)), (1, .int v1_103), (2, .int v2_103)] dX7_hourOn_114 rfl (by decide) rfl 115 rfl ?_
        refine vv_lv [1, 2, 3, 0] [(0, .ref (M 0)), (1, .int v1_103), (2, .int v2_103), (3, .int (v2_103 + 1))] rfl ?_
        have L115 : ∀ (n : Nat) (M_strength_115 : Nat → Int32) (M_wear_115 : Nat → Int32) (v1_115 : Int32) (v3_115 : Int32) (q115 : (Nat → Int32) × (Nat → Int32) × Int32), jX7_hourOn_L115 M_waters M_barrels M_crew M_waterTable r10.1 r10.2.2.2 v2_103 n M_strength_115 M_wear_115 v1_115 v3_115 = some q115 → (VV g D 9 0 0 (wX7_hourOn c M M_thrown M_waters M_windX M_windY M_barrels M_crew M_waterTable M_fixed r10.1 q115.1 q115.2.1 r10.2.2.2 M_numbers r6) [(0, .ref (M 0)), (1, .int q115.2.2), (2, .int v2_103)] 204 []) → VV g D 9 0 0 (wX7_hourOn c M M_thrown M_waters M_windX M_windY M_barrels M_crew M_waterTable M_fixed r10.1 M_strength_115 M_wear_115 r10.2.2.2 M_numbers r6) [(0, .ref (M 0)), (1, .int v1_115), (2, .int v2_103), (3, .int v3_115)] 115 [] := by
          intro n
          induction n with
          | zero =>
            intro M_strength_115 M_wear_115 v1_115 v3_115 q115 h _
            rw [jX7_hourOn_L115] at h
            cases h
          | succ n ih115 =>
            intro M_strength_115 M_wear_115 v1_115 v3_115 q115 h kk115
            rw [jX7_hourOn_L115] at h
            refine vv_iload_n C dX7_hourOn_115 rfl 3 rfl 116 rfl ?_
            refine vv_aload_n C dX7_hourOn_116 rfl 0 rfl 117 rfl ?_
            refine vv_get C (q0 := 0) (ci := 7) (k := 5) kinX7_hourOn_X7 rfl rfl (by decide) kwX7_hourOn_1 rfl rfl dX7_hourOn_117 120 rfl ?_
            refine vv_icmp_ge C 204 123 dX7_hourOn_120 (by decide) rfl (fun hc => ?_) (fun hc => ?_)
            · replace h := ite_t hc h
              refine vv_lv [0, 1, 2] [(0, .ref (M 0)), (1, .int v1_115), (2, .int v2_103)] rfl ?_
              obtain rfl := Option.some.inj h
              exact kk115
            · replace h := ite_f hc h
              refine vv_aload_n C dX7_hourOn_123 rfl 0 rfl 124 rfl ?_
              refine vv_iload_n C dX7_hourOn_124 rfl 2 rfl 125 rfl ?_
              refine vv_iload_n C dX7_hourOn_125 rfl 3 rfl 126 rfl ?_
              obtain ⟨r11, hr11, h⟩ := bnd_s h
              refine vv_callVi C (fun l => mt_X7_isTied l D c M M_thrown M_waters M_windX M_windY M_barrels M_crew M_strength_115 v2_103 v3_115 r11 hr11) gX7_hourOn_X7_isTied rfl rfl rfl yd_X7_isTied ⟨Nat.le_of_ble_eq_true rfl, Nat.le_of_ble_eq_true rfl⟩ [0, 4] rfl (by decide) 0 rfl rfl (wX7_hourOn c M M_thrown M_waters M_windX M_windY M_barrels M_crew M_waterTable M_fixed r10.1 M_strength_115 M_wear_115 r10.2.2.2 M_numbers r6) [(true, 0), (false, 1), (false, 2), (false, 3), (true, 1), (false, 5), (false, 6), (false, 7), (false, 8)] rfl (by decide) rfl rfl [] rfl (Nat.le_of_ble_eq_true rfl) ⟨Nat.le_of_ble_eq_true rfl, Nat.le_of_ble_eq_true rfl⟩ dX7_hourOn_126 129 0 0 rfl ⟨rfl, rfl⟩ ?_
              refine vv_if_ne C 135 132 dX7_hourOn_129 (by decide) rfl (fun hc => ?_) (fun hc => ?_)
              · replace h := ite_f hc h
                refine vv_aload_n C dX7_hourOn_135 rfl 0 rfl 136 rfl ?_
                refine vv_iload_n C dX7_hourOn_136 rfl 2 rfl 137 rfl ?_
                refine vv_iload_n C dX7_hourOn_137 rfl 3 rfl 138 rfl ?_
                obtain ⟨r12, hr12, h⟩ := bnd_s h
                refine vv_callVi C (fun l => mt_X7_stress l D c M M_thrown M_waters M_windX M_windY M_barrels M_crew M_waterTable r10.1 r10.2.2.2 v2_103 v3_115 r12 hr12) gX7_hourOn_X7_stress rfl rfl rfl yd_X7_stress ⟨Nat.le_of_ble_eq_true rfl, Nat.le_of_ble_eq_true rfl⟩ [0, 1, 3, 6] rfl (by decide) 0 rfl rfl (wX7_hourOn c M M_thrown M_waters M_windX M_windY M_barrels M_crew M_waterTable M_fixed r10.1 M_strength_115 M_wear_115 r10.2.2.2 M_numbers r6) [(true, 0), (true, 1), (false, 2), (true, 2), (false, 4), (false, 5), (true, 3), (false, 7), (false, 8)] rfl (by decide) rfl rfl [] rfl (Nat.le_of_ble_eq_true rfl) ⟨Nat.le_of_ble_eq_true rfl, Nat.le_of_ble_eq_true rfl⟩ dX7_hourOn_138 141 0 0 rfl ⟨rfl, rfl⟩ ?_
                refine vv_istore C [(4, .int r12), (0, .ref (M 0)), (1, .int v1_115), (2, .int v2_103), (3, .int v3_115)] dX7_hourOn_141 (by decide) rfl 143 rfl ?_
                refine vv_iload C dX7_hourOn_143 0 rfl 145 rfl ?_
                refine vv_aload_n C dX7_hourOn_145 rfl 1 rfl 146 rfl ?_
                refine vv_get C (q0 := 0) (ci := 7) (k := 9) kinX7_hourOn_X7 rfl rfl (by decide) kwX7_hourOn_7 rfl rfl dX7_hourOn_146 149 rfl ?_
                refine vv_iload_n C dX7_hourOn_149 rfl 3 rfl 150 rfl ?_
                refine vv_iload_n C dX7_hourOn_150 rfl 4 rfl 151 rfl ?_
                obtain ⟨r13, hr13, h⟩ := bnd_s h
                refine vv_callSi C (fun l => mt_X7_pair l D c v2_103 v3_115 r13 hr13) gX7_hourOn_X7_pair rfl rfl rfl yd_X7_pair ⟨Nat.le_of_ble_eq_true rfl, Nat.le_of_ble_eq_true rfl⟩ [] rfl (by decide) (wX7_hourOn c M M_thrown M_waters M_windX M_windY M_barrels M_crew M_waterTable M_fixed r10.1 M_strength_115 M_wear_115 r10.2.2.2 M_numbers r6) [(false, 0), (false, 1), (false, 2), (false, 3), (false, 4), (false, 5), (false, 6), (false, 7), (false, 8)] rfl (by decide) rfl rfl [.ref (M 4), .int r12] rfl (Nat.le_of_ble_eq_true rfl) ⟨Nat.le_of_ble_eq_true rfl, Nat.le_of_ble_eq_true rfl⟩ dX7_hourOn_151 154 0 0 rfl ⟨rfl, rfl⟩ ?_
                obtain ⟨hi, h⟩ := chk_s h
                refine vv_iald C (q0 := 4) rfl hi dX7_hourOn_154 155 rfl ?_
                refine vv_aload_n C dX7_hourOn_155 rfl 1 rfl 156 rfl ?_
                refine vv_get C (q0 := 0) (ci := 7) (k := 10) kinX7_hourOn_X7 rfl rfl (by decide) kwX7_hourOn_8 rfl rfl dX7_hourOn_156 159 rfl ?_
                refine vv_iload_n C dX7_hourOn_159 rfl 3 rfl 160 rfl ?_
                refine vv_iload_n C dX7_hourOn_160 rfl 4 rfl 161 rfl ?_
                obtain ⟨r14, hr14, h⟩ := bnd_s h
                refine vv_callSi C (fun l => mt_X7_pair l D c v2_103 v3_115 r14 hr14) gX7_hourOn_X7_pair rfl rfl rfl yd_X7_pair ⟨Nat.le_of_ble_eq_true rfl, Nat.le_of_ble_eq_true rfl⟩ [] rfl (by decide) (wX7_hourOn c M M_thrown M_waters M_windX M_windY M_barrels M_crew M_waterTable M_fixed r10.1 M_strength_115 M_wear_115 r10.2.2.2 M_numbers r6) [(false, 0), (false, 1), (false, 2), (false, 3), (false, 4), (false, 5), (false, 6), (false, 7), (false, 8)] rfl (by decide) rfl rfl [.ref (M 5), .int (rd M_strength_115 r13), .int r12] rfl (Nat.le_of_ble_eq_true rfl) ⟨Nat.le_of_ble_eq_true rfl, Nat.le_of_ble_eq_true rfl⟩ dX7_hourOn_161 164 0 0 rfl ⟨rfl, rfl⟩ ?_
                obtain ⟨hi, h⟩ := chk_s h
                refine vv_iald C (q0 := 5) rfl hi dX7_hourOn_164 165 rfl ?_
                refine vv_isub C dX7_hourOn_165 166 rfl ?_
                refine vv_icmp_le C 181 169 dX7_hourOn_166 (by decide) rfl (fun hc => ?_) (fun hc => ?_)
                · replace h := ite_t hc h
                  refine vv_aload_n C dX7_hourOn_181 rfl 1 rfl 182 rfl ?_
                  refine vv_get C (q0 := 0) (ci := 7) (k := 10) kinX7_hourOn_X7 rfl rfl (by decide) kwX7_hourOn_8 rfl rfl dX7_hourOn_182 185 rfl ?_
                  refine vv_iload_n C dX7_hourOn_185 rfl 3 rfl 186 rfl ?_
                  refine vv_iload_n C dX7_hourOn_186 rfl 4 rfl 187 rfl ?_
                  obtain ⟨r15, hr15, h⟩ := bnd_s h
                  refine vv_callSi C (fun l => mt_X7_pair l D c v2_103 v3_115 r15 hr15) gX7_hourOn_X7_pair rfl rfl rfl yd_X7_pair ⟨Nat.le_of_ble_eq_true rfl, Nat.le_of_ble_eq_true rfl⟩ [] rfl (by decide) (wX7_hourOn c M M_thrown M_waters M_windX M_windY M_barrels M_crew M_waterTable M_fixed r10.1 M_strength_115 M_wear_115 r10.2.2.2 M_numbers r6) [(false, 0), (false, 1), (false, 2), (false, 3), (false, 4), (false, 5), (false, 6), (false, 7), (false, 8)] rfl (by decide) rfl rfl [.ref (M 5)] rfl (Nat.le_of_ble_eq_true rfl) ⟨Nat.le_of_ble_eq_true rfl, Nat.le_of_ble_eq_true rfl⟩ dX7_hourOn_187 190 0 0 rfl ⟨rfl, rfl⟩ ?_
                  refine vv_dup2 C dX7_hourOn_190 rfl rfl 191 rfl ?_
                  obtain ⟨hi, h⟩ := chk_s h
                  refine vv_iald C (q0 := 5) rfl hi dX7_hourOn_191 192 rfl ?_
                  refine vv_iload C dX7_hourOn_192 0 rfl 194 rfl ?_
                  refine vv_iconst C (v := 4) dX7_hourOn_194 (by decide) 195 rfl ?_
                  refine vv_idiv C dX7_hourOn_195 (by decide) 196 rfl ?_
                  refine vv_iadd C dX7_hourOn_196 197 rfl ?_
                  obtain ⟨hi, h⟩ := chk_s h
                  refine vv_iast C (q0 := 5) (wX7_hourOn c M M_thrown M_waters M_windX M_windY M_barrels M_crew M_waterTable M_fixed r10.1 M_strength_115 (wr M_wear_115 r15 ((rd M_wear_115 r15) + (r12 / 4))) r10.2.2.2 M_numbers r6) rfl hi rfl dX7_hourOn_197 198 rfl ?_
                  refine vv_iinc C (k := 4) [(3, .int (v3_115 + 1)), (4, .int r12), (0, .ref (M 0)), (1, .int v1_115), (2, .int v2_103)] dX7_hourOn_198 rfl rfl (by decide) rfl 201 rfl ?_
                  refine vv_goto C 115 dX7_hourOn_201 (by decide) ?_
                  refine vv_lv [2, 3, 4, 0] [(0, .ref (M 0)), (1, .int v1_115), (2, .int v2_103), (3, .int (v3_115 + 1))] rfl ?_
                  exact ih115 M_strength_115 (wr M_wear_115 r15 ((rd M_wear_115 r15) + (r12 / 4))) v1_115 (v3_115 + 1) _ h kk115
                · replace h := ite_f hc h
                  refine vv_aload_n C dX7_hourOn_169 rfl 1 rfl 170 rfl ?_
                  refine vv_iload_n C dX7_hourOn_170 rfl 3 rfl 171 rfl ?_
                  refine vv_iload_n C dX7_hourOn_171 rfl 4 rfl 172 rfl ?_
                  obtain ⟨r16, hr16, h⟩ := bnd_s h
                  refine vv_callVv C (fun l => mt_X7_untie l D c M M_thrown M_waters M_windX M_windY M_barrels M_crew M_strength_115 M_wear_115 v2_103 v3_115 r16 hr16) gX7_hourOn_X7_untie rfl rfl rfl yd_X7_untie ⟨Nat.le_of_ble_eq_true rfl, Nat.le_of_ble_eq_true rfl⟩ [0, 4, 5] rfl (by decide) 0 rfl rfl (wX7_hourOn c M M_thrown M_waters M_windX M_windY M_barrels M_crew M_waterTable M_fixed r10.1 r16.1 r16.2 r10.2.2.2 M_numbers r6) [(true, 0), (false, 1), (false, 2), (false, 3), (true, 1), (true, 2), (false, 6), (false, 7), (false, 8)] rfl (by decide) rfl rfl [] rfl (Nat.le_of_ble_eq_true rfl) ⟨Nat.le_of_ble_eq_true rfl, Nat.le_of_ble_eq_true rfl⟩ dX7_hourOn_172 175 0 0 rfl ⟨rfl, rfl⟩ ?_
                  refine vv_iinc C (k := 2) [(1, .int (v1_115 + 1)), (4, .int r12), (0, .ref (M 0)), (2, .int v2_103), (3, .int v3_115)] dX7_hourOn_175 rfl rfl (by decide) rfl 178 rfl ?_
                  refine vv_goto C 198 dX7_hourOn_178 (by decide) ?_
                  refine vv_iinc C (k := 4) [(3, .int (v3_115 + 1)), (1, .int (v1_115 + 1)), (4, .int r12), (0, .ref (M 0)), (2, .int v2_103)] dX7_hourOn_198 rfl rfl (by decide) rfl 201 rfl ?_
                  refine vv_goto C 115 dX7_hourOn_201 (by decide) ?_
                  refine vv_lv [3, 1, 4, 0] [(0, .ref (M 0)), (1, .int (v1_115 + 1)), (2, .int v2_103), (3, .int (v3_115 + 1))] rfl ?_
                  exact ih115 r16.1 r16.2 (v1_115 + 1) (v3_115 + 1) _ h kk115
              · replace h := ite_t hc h
                refine vv_goto C 198 dX7_hourOn_132 (by decide) ?_
                refine vv_iinc C (k := 3) [(3, .int (v3_115 + 1)), (0, .ref (M 0)), (1, .int v1_115), (2, .int v2_103)] dX7_hourOn_198 rfl rfl (by decide) rfl 201 rfl ?_
                refine vv_goto C 115 dX7_hourOn_201 (by decide) ?_
                refine vv_lv [1, 2, 3, 0] [(0, .ref (M 0)), (1, .int v1_115), (2, .int v2_103), (3, .int (v3_115 + 1))] rfl ?_
                exact ih115 M_strength_115 M_wear_115 v1_115 (v3_115 + 1) _ h kk115
        obtain ⟨r17, hr17, h⟩ := bnd_s h
        refine L115 FU M_strength_103 M_wear_103 v1_103 (v2_103 + 1) r17 hr17 ?_
        refine vv_iinc C (k := 2) [(2, .int (v2_103 + 1)), (0, .ref (M 0)), (1, .int r17.2.2)] dX7_hourOn_204 rfl rfl (by decide) rfl 207 rfl ?_
        refine vv_goto C 103 dX7_hourOn_207 (by decide) ?_
        refine vv_lv [1, 2, 0] [(0, .ref (M 0)), (1, .int r17.2.2), (2, .int (v2_103 + 1))] rfl ?_
        exact ih103 r17.1 r17.2.1 r17.2.2 (v2_103 + 1) _ h kk103
  obtain ⟨r18, hr18, h⟩ := bnd_s h
  refine L103 FU r10.2.1 r10.2.2.1 0 0 r18 hr18 ?_
  refine vv_aload_n C dX7_hourOn_210 rfl 0 rfl 211 rfl ?_
  obtain ⟨r19, hr19, h⟩ := bnd_s h
  refine vv_callVv C (fun l => mt_X7_name l D c M M_thrown M_waters M_windX M_windY M_barrels M_crew r10.1 r18.1 r6 r19 hr19) gX7_hourOn_X7_name rfl rfl rfl yd_X7_name ⟨Nat.le_of_ble_eq_true rfl, Nat.le_of_ble_eq_true rfl⟩ [0, 3, 4, 8] rfl (by decide) 0 rfl rfl (wX7_hourOn c M M_thrown M_waters M_windX M_windY M_barrels M_crew M_waterTable M_fixed r10.1 r18.1 r18.2.1 r10.2.2.2 M_numbers r19) [(true, 0), (false, 1), (false, 2), (true, 1), (true, 2), (false, 5), (false, 6), (false, 7), (true, 3)] rfl (by decide) rfl rfl [] rfl (Nat.le_of_ble_eq_true rfl) ⟨Nat.le_of_ble_eq_true rfl, Nat.le_of_ble_eq_true rfl⟩ dX7_hourOn_211 214 0 0 rfl ⟨rfl, rfl⟩ ?_
  refine vv_iconst C (v := 0) dX7_hourOn_214 (by decide) 215 rfl ?_
  refine vv_istore_n C [(2, .int 0), (0, .ref (M 0)), (1, .int r18.2.2)] dX7_hourOn_215 rfl (by decide) rfl 216 rfl ?_
  refine vv_lv [1, 2, 0] [(0, .ref (M 0)), (1, .int r18.2.2), (2, .int 0)] rfl ?_
  have L216 : ∀ (n : Nat) (M_table_216 : Nat → Int32) (v2_216 : Int32) (q216 : (Nat → Int32)), jX7_hourOn_L216 M_waters M_windX M_windY M_barrels M_crew M_waterTable M_fixed r10.2.2.2 r19 n M_table_216 v2_216 = some q216 → (VV g D 9 0 0 (wX7_hourOn c M M_thrown M_waters M_windX M_windY M_barrels M_crew M_waterTable M_fixed q216 r18.1 r18.2.1 r10.2.2.2 M_numbers r19) [(0, .ref (M 0)), (1, .int r18.2.2)] 404 []) → VV g D 9 0 0 (wX7_hourOn c M M_thrown M_waters M_windX M_windY M_barrels M_crew M_waterTable M_fixed M_table_216 r18.1 r18.2.1 r10.2.2.2 M_numbers r19) [(0, .ref (M 0)), (1, .int r18.2.2), (2, .int v2_216)] 216 [] := by
    intro n
    induction n with
    | zero =>
      intro M_table_216 v2_216 q216 h _
      rw [jX7_hourOn_L216] at h
      cases h
    | succ n ih216 =>
      intro M_table_216 v2_216 q216 h kk216
      rw [jX7_hourOn_L216] at h
      refine vv_iload_n C dX7_hourOn_216 rfl 2 rfl 217 rfl ?_
      refine vv_aload_n C dX7_hourOn_217 rfl 0 rfl 218 rfl ?_
      refine vv_get C (q0 := 0) (ci := 7) (k := 5) kinX7_hourOn_X7 rfl rfl (by decide) kwX7_hourOn_1 rfl rfl dX7_hourOn_218 221 rfl ?_
      refine vv_icmp_ge C 404 224 dX7_hourOn_221 (by decide) rfl (fun hc => ?_) (fun hc => ?_)
      · replace h := ite_t hc h
        refine vv_lv [0, 1] [(0, .ref (M 0)), (1, .int r18.2.2)] rfl ?_
        obtain rfl := Option.some.inj h
        exact kk216
      · replace h := ite_f hc h
        refine vv_aload_n C dX7_hourOn_224 rfl 0 rfl 225 rfl ?_
        refine vv_get C (q0 := 0) (ci := 7) (k := 13) kinX7_hourOn_X7 rfl rfl (by decide) kwX7_hourOn_6 rfl rfl dX7_hourOn_225 228 rfl ?_
        refine vv_iload_n C dX7_hourOn_228 rfl 2 rfl 229 rfl ?_
        obtain ⟨hi, h⟩ := chk_s h
        refine vv_iald C (q0 := 8) rfl hi dX7_hourOn_229 230 rfl ?_
        refine vv_iload_n C dX7_hourOn_230 rfl 2 rfl 231 rfl ?_
        refine vv_icmp_eq C 237 234 dX7_hourOn_231 (by decide) rfl (fun hc => ?_) (fun hc => ?_)
        · replace h := ite_t hc h
          refine vv_iconst C (v := 2) dX7_hourOn_237 (by decide) 238 rfl ?_
          refine vv_aload_n C dX7_hourOn_238 rfl 0 rfl 239 rfl ?_
          refine vv_iload_n C dX7_hourOn_239 rfl 2 rfl 240 rfl ?_
          refine vv_iconst C (v := 2) dX7_hourOn_240 (by decide) 241 rfl ?_
          obtain ⟨r20, hr20, h⟩ := bnd_s h
          refine vv_callVi C (fun l => mt_X7_sumIn l D c M M_thrown M_waters M_windX M_windY M_barrels M_crew M_fixed M_table_216 r10.2.2.2 r19 v2_216 2 r20 hr20) gX7_hourOn_X7_sumIn rfl rfl rfl yd_X7_sumIn ⟨Nat.le_of_ble_eq_true rfl, Nat.le_of_ble_eq_true rfl⟩ [0, 2, 3, 6, 8] rfl (by decide) 0 rfl rfl (wX7_hourOn c M M_thrown M_waters M_windX M_windY M_barrels M_crew M_waterTable M_fixed M_table_216 r18.1 r18.2.1 r10.2.2.2 M_numbers r19) [(true, 0), (false, 1), (true, 1), (true, 2), (false, 4), (false, 5), (true, 3), (false, 7), (true, 4)] rfl (by decide) rfl rfl [.int 2] rfl (Nat.le_of_ble_eq_true rfl) ⟨Nat.le_of_ble_eq_true rfl, Nat.le_of_ble_eq_true rfl⟩ dX7_hourOn_241 244 0 0 rfl ⟨rfl, rfl⟩ ?_
          refine vv_imul C dX7_hourOn_244 245 rfl ?_
          refine vv_aload_n C dX7_hourOn_245 rfl 0 rfl 246 rfl ?_
          refine vv_iload_n C dX7_hourOn_246 rfl 2 rfl 247 rfl ?_
          refine vv_iconst C (v := 1) dX7_hourOn_247 (by decide) 248 rfl ?_
          obtain ⟨r21, hr21, h⟩ := bnd_s h
          refine vv_callVi C (fun l => mt_X7_sumIn l D c M M_thrown M_waters M_windX M_windY M_barrels M_crew M_fixed M_table_216 r10.2.2.2 r19 v2_216 1 r21 hr21) gX7_hourOn_X7_sumIn rfl rfl rfl yd_X7_sumIn ⟨Nat.le_of_ble_eq_true rfl, Nat.le_of_ble_eq_true rfl⟩ [0, 2, 3, 6, 8] rfl (by decide) 0 rfl rfl (wX7_hourOn c M M_thrown M_waters M_windX M_windY M_barrels M_crew M_waterTable M_fixed M_table_216 r18.1 r18.2.1 r10.2.2.2 M_numbers r19) [(true, 0), (false, 1), (true, 1), (true, 2), (false, 4), (false, 5), (true, 3), (false, 7), (true, 4)] rfl (by decide) rfl rfl [.int (2 * r20)] rfl (Nat.le_of_ble_eq_true rfl) ⟨Nat.le_of_ble_eq_true rfl, Nat.le_of_ble_eq_true rfl⟩ dX7_hourOn_248 251 0 0 rfl ⟨rfl, rfl⟩ ?_
          obtain ⟨k259, hk259, h⟩ := jn_s h
          have J259 : ∀ (x259 : Int32), k259 x259 = some q216 → VV g D 9 0 0 (wX7_hourOn c M M_thrown M_waters M_windX M_windY M_barrels M_crew M_waterTable M_fixed M_table_216 r18.1 r18.2.1 r10.2.2.2 M_numbers r19) [(0, .ref (M 0)), (1, .int r18.2.2), (2, .int v2_216)] 259 [.int x259] := by
            intro x259 h
            replace h := jn_u hk259 h
            refine vv_istore_n C [(3, .int x259), (0, .ref (M 0)), (1, .int r18.2.2), (2, .int v2_216)] dX7_hourOn_259 rfl (by decide) rfl 260 rfl ?_
            refine vv_aload_n C dX7_hourOn_260 rfl 1 rfl 261 rfl ?_
            refine vv_iload_n C dX7_hourOn_261 rfl 3 rfl 262 rfl ?_
            refine vv_iconst C (v := 3) dX7_hourOn_262 (by decide) 263 rfl ?_
            obtain ⟨r22, hr22, h⟩ := bnd_s h
            refine vv_callVi C (fun l => mt_X7_ba l D c M M_thrown M_waters M_windX M_windY M_barrels M_crew M_table_216 v2_216 3 r22 hr22) gX7_hourOn_X7_ba rfl rfl rfl yd_X7_ba ⟨Nat.le_of_ble_eq_true rfl, Nat.le_of_ble_eq_true rfl⟩ [0, 3] rfl (by decide) 0 rfl rfl (wX7_hourOn c M M_thrown M_waters M_windX M_windY M_barrels M_crew M_waterTable M_fixed M_table_216 r18.1 r18.2.1 r10.2.2.2 M_numbers r19) [(true, 0), (false, 1), (false, 2), (true, 1), (false, 4), (false, 5), (false, 6), (false, 7), (false, 8)] rfl (by decide) rfl rfl [] rfl (Nat.le_of_ble_eq_true rfl) ⟨Nat.le_of_ble_eq_true rfl, Nat.le_of_ble_eq_true rfl⟩ dX7_hourOn_263 266 0 0 rfl ⟨rfl, rfl⟩ ?_
            refine vv_istore C [(4, .int r22), (3, .int x259), (0, .ref (M 0)), (1, .int r18.2.2), (2, .int v2_216)] dX7_hourOn_266 (by decide) rfl 268 rfl ?_
            refine vv_aload_n C dX7_hourOn_268 rfl 2 rfl 269 rfl ?_
            refine vv_iload_n C dX7_hourOn_269 rfl 4 rfl 270 rfl ?_
            refine vv_iconst C (v := 4) dX7_hourOn_270 (by decide) 271 rfl ?_
            obtain ⟨r23, hr23, h⟩ := bnd_s h
            refine vv_callVi C (fun l => mt_X7_ba l D c M M_thrown M_waters M_windX M_windY M_barrels M_crew M_table_216 v2_216 4 r23 hr23) gX7_hourOn_X7_ba rfl rfl rfl yd_X7_ba ⟨Nat.le_of_ble_eq_true rfl, Nat.le_of_ble_eq_true rfl⟩ [0, 3] rfl (by decide) 0 rfl rfl (wX7_hourOn c M M_thrown M_waters M_windX M_windY M_barrels M_crew M_waterTable M_fixed M_table_216 r18.1 r18.2.1 r10.2.2.2 M_numbers r19) [(true, 0), (false, 1), (false, 2), (true, 1), (false, 4), (false, 5), (false, 6), (false, 7), (false, 8)] rfl (by decide) rfl rfl [] rfl (Nat.le_of_ble_eq_true rfl) ⟨Nat.le_of_ble_eq_true rfl, Nat.le_of_ble_eq_true rfl⟩ dX7_hourOn_271 274 0 0 rfl ⟨rfl, rfl⟩ ?_
            refine vv_istore C [(5, .int r23), (4, .int r22), (3, .int x259), (0, .ref (M 0)), (1, .int r18.2.2), (2, .int v2_216)] dX7_hourOn_274 (by decide) rfl 276 rfl ?_
            refine vv_iconst C (v := 0) dX7_hourOn_276 (by decide) 277 rfl ?_
            refine vv_bipush C (v := 29) dX7_hourOn_277 (by decide) 279 rfl ?_
            refine vv_iload C dX7_hourOn_279 1 rfl 281 rfl ?_
            refine vv_aload_n C dX7_hourOn_281 rfl 3 rfl 282 rfl ?_
            refine vv_iload C dX7_hourOn_282 1 rfl 284 rfl ?_
            refine vv_iload C dX7_hourOn_284 0 rfl 286 rfl ?_
            refine vv_iconst C (v := 0) dX7_hourOn_286 (by decide) 287 rfl ?_
            obtain ⟨r24, hr24, h⟩ := bnd_s h
            refine vv_callVi C (fun l => mt_X7_seaTold l D c M M_thrown M_waters M_windX M_windY M_barrels M_crew M_waterTable r22 r23 0 r24 hr24) gX7_hourOn_X7_seaTold rfl rfl rfl yd_X7_seaTold ⟨Nat.le_of_ble_eq_true rfl, Nat.le_of_ble_eq_true rfl⟩ [0, 1] rfl (by decide) 0 rfl rfl (wX7_hourOn c M M_thrown M_waters M_windX M_windY M_barrels M_crew M_waterTable M_fixed M_table_216 r18.1 r18.2.1 r10.2.2.2 M_numbers r19) [(true, 0), (true, 1), (false, 2), (false, 3), (false, 4), (false, 5), (false, 6), (false, 7), (false, 8)] rfl (by decide) rfl rfl [.int r22, .int 29, .int 0] rfl (Nat.le_of_ble_eq_true rfl) ⟨Nat.le_of_ble_eq_true rfl, Nat.le_of_ble_eq_true rfl⟩ dX7_hourOn_287 290 0 0 rfl ⟨rfl, rfl⟩ ?_
            refine vv_iadd C dX7_hourOn_290 291 rfl ?_
            refine vv_iload_n C dX7_hourOn_291 rfl 2 rfl 292 rfl ?_
            obtain ⟨k303, hk303, h⟩ := jn_s h
            have J303 : ∀ (x303 : Int32), k303 x303 = some q216 → VV g D 9 0 0 (wX7_hourOn c M M_thrown M_waters M_windX M_windY M_barrels M_crew M_waterTable M_fixed M_table_216 r18.1 r18.2.1 r10.2.2.2 M_numbers r19) [(0, .ref (M 0)), (1, .int r18.2.2), (2, .int v2_216), (3, .int x259), (4, .int r22), (5, .int r23)] 303 [.int x303, .int (r22 + r24), .int 29, .int 0] := by
              intro x303 h
              replace h := jn_u hk303 h
              refine vv_iadd C dX7_hourOn_303 304 rfl ?_
              refine vv_mmin C kwX7_hourOn_2 kwX7_hourOn_3 kwX7_hourOn_4 kwX7_hourOn_5 ⟨Nat.le_of_ble_eq_true rfl, Nat.le_of_ble_eq_true rfl⟩ ⟨Nat.le_of_ble_eq_true rfl, Nat.le_of_ble_eq_true rfl⟩ dX7_hourOn_304 307 rfl ?_
              refine vv_mmax C kwX7_hourOn_10 kwX7_hourOn_11 kwX7_hourOn_4 kwX7_hourOn_12 ⟨Nat.le_of_ble_eq_true rfl, Nat.le_of_ble_eq_true rfl⟩ ⟨Nat.le_of_ble_eq_true rfl, Nat.le_of_ble_eq_true rfl⟩ dX7_hourOn_307 310 rfl ?_
              refine vv_istore C [(6, .int (mmax 0 (mmin 29 ((r22 + r24) + x303)))), (0, .ref (M 0)), (1, .int r18.2.2), (2, .int v2_216), (3, .int x259), (4, .int r22), (5, .int r23)] dX7_hourOn_310 (by decide) rfl 312 rfl ?_
              refine vv_iconst C (v := 0) dX7_hourOn_312 (by decide) 313 rfl ?_
              refine vv_bipush C (v := 19) dX7_hourOn_313 (by decide) 315 rfl ?_
              refine vv_iload C dX7_hourOn_315 6 rfl 317 rfl ?_
              refine vv_aload_n C dX7_hourOn_317 rfl 1 rfl 318 rfl ?_
              refine vv_iload C dX7_hourOn_318 5 rfl 320 rfl ?_
              refine vv_iload C dX7_hourOn_320 6 rfl 322 rfl ?_
              refine vv_iconst C (v := 1) dX7_hourOn_322 (by decide) 323 rfl ?_
              obtain ⟨r25, hr25, h⟩ := bnd_s h
              refine vv_callVi C (fun l => mt_X7_seaTold l D c M M_thrown M_waters M_windX M_windY M_barrels M_crew M_waterTable r22 r23 1 r25 hr25) gX7_hourOn_X7_seaTold rfl rfl rfl yd_X7_seaTold ⟨Nat.le_of_ble_eq_true rfl, Nat.le_of_ble_eq_true rfl⟩ [0, 1] rfl (by decide) 0 rfl rfl (wX7_hourOn c M M_thrown M_waters M_windX M_windY M_barrels M_crew M_waterTable M_fixed M_table_216 r18.1 r18.2.1 r10.2.2.2 M_numbers r19) [(true, 0), (true, 1), (false, 2), (false, 3), (false, 4), (false, 5), (false, 6), (false, 7), (false, 8)] rfl (by decide) rfl rfl [.int r23, .int 19, .int 0] rfl (Nat.le_of_ble_eq_true rfl) ⟨Nat.le_of_ble_eq_true rfl, Nat.le_of_ble_eq_true rfl⟩ dX7_hourOn_323 326 0 0 rfl ⟨rfl, rfl⟩ ?_
              refine vv_iadd C dX7_hourOn_326 327 rfl ?_
              refine vv_iload_n C dX7_hourOn_327 rfl 4 rfl 328 rfl ?_
              obtain ⟨k339, hk339, h⟩ := jn_s h
              have J339 : ∀ (x339 : Int32), k339 x339 = some q216 → VV g D 9 0 0 (wX7_hourOn c M M_thrown M_waters M_windX M_windY M_barrels M_crew M_waterTable M_fixed M_table_216 r18.1 r18.2.1 r10.2.2.2 M_numbers r19) [(0, .ref (M 0)), (1, .int r18.2.2), (2, .int v2_216), (6, .int (mmax 0 (mmin 29 ((r22 + r24) + x303))))] 339 [.int x339, .int (r23 + r25), .int 19, .int 0] := by
                intro x339 h
                replace h := jn_u hk339 h
                refine vv_iadd C dX7_hourOn_339 340 rfl ?_
                refine vv_mmin C kwX7_hourOn_2 kwX7_hourOn_3 kwX7_hourOn_4 kwX7_hourOn_5 ⟨Nat.le_of_ble_eq_true rfl, Nat.le_of_ble_eq_true rfl⟩ ⟨Nat.le_of_ble_eq_true rfl, Nat.le_of_ble_eq_true rfl⟩ dX7_hourOn_340 343 rfl ?_
                refine vv_mmax C kwX7_hourOn_10 kwX7_hourOn_11 kwX7_hourOn_4 kwX7_hourOn_12 ⟨Nat.le_of_ble_eq_true rfl, Nat.le_of_ble_eq_true rfl⟩ ⟨Nat.le_of_ble_eq_true rfl, Nat.le_of_ble_eq_true rfl⟩ dX7_hourOn_343 346 rfl ?_
                refine vv_istore C [(7, .int (mmax 0 (mmin 19 ((r23 + r25) + x339)))), (0, .ref (M 0)), (1, .int r18.2.2), (2, .int v2_216), (6, .int (mmax 0 (mmin 29 ((r22 + r24) + x303))))] dX7_hourOn_346 (by decide) rfl 348 rfl ?_
                refine vv_iconst C (v := 0) dX7_hourOn_348 (by decide) 349 rfl ?_
                refine vv_istore C [(8, .int 0), (7, .int (mmax 0 (mmin 19 ((r23 + r25) + x339)))), (0, .ref (M 0)), (1, .int r18.2.2), (2, .int v2_216), (6, .int (mmax 0 (mmin 29 ((r22 + r24) + x303))))] dX7_hourOn_349 (by decide) rfl 351 rfl ?_
                refine vv_lv [2, 3, 4, 5, 1, 0] [(0, .ref (M 0)), (1, .int r18.2.2), (2, .int v2_216), (6, .int (mmax 0 (mmin 29 ((r22 + r24) + x303)))), (7, .int (mmax 0 (mmin 19 ((r23 + r25) + x339)))), (8, .int 0)] rfl ?_
                have L351 : ∀ (n : Nat) (M_table_351 : Nat → Int32) (v8_351 : Int32) (q351 : (Nat → Int32)), jX7_hourOn_L351 M_barrels r19 v2_216 (mmax 0 (mmin 29 ((r22 + r24) + x303))) (mmax 0 (mmin 19 ((r23 + r25) + x339))) n M_table_351 v8_351 = some q351 → (VV g D 9 0 0 (wX7_hourOn c M M_thrown M_waters M_windX M_windY M_barrels M_crew M_waterTable M_fixed q351 r18.1 r18.2.1 r10.2.2.2 M_numbers r19) [(0, .ref (M 0)), (1, .int r18.2.2), (2, .int v2_216)] 398 []) → VV g D 9 0 0 (wX7_hourOn c M M_thrown M_waters M_windX M_windY M_barrels M_crew M_waterTable M_fixed M_table_351 r18.1 r18.2.1 r10.2.2.2 M_numbers r19) [(0, .ref (M 0)), (1, .int r18.2.2), (2, .int v2_216), (6, .int (mmax 0 (mmin 29 ((r22 + r24) + x303)))), (7, .int (mmax 0 (mmin 19 ((r23 + r25) + x339)))), (8, .int v8_351)] 351 [] := by
                  intro n
                  induction n with
                  | zero =>
                    intro M_table_351 v8_351 q351 h _
                    rw [jX7_hourOn_L351] at h
                    cases h
                  | succ n ih351 =>
                    intro M_table_351 v8_351 q351 h kk351
                    rw [jX7_hourOn_L351] at h
                    refine vv_iload C dX7_hourOn_351 5 rfl 353 rfl ?_
                    refine vv_aload_n C dX7_hourOn_353 rfl 0 rfl 354 rfl ?_
                    refine vv_get C (q0 := 0) (ci := 7) (k := 5) kinX7_hourOn_X7 rfl rfl (by decide) kwX7_hourOn_1 rfl rfl dX7_hourOn_354 357 rfl ?_
                    refine vv_icmp_ge C 398 360 dX7_hourOn_357 (by decide) rfl (fun hc => ?_) (fun hc => ?_)
                    · replace h := ite_t hc h
                      refine vv_lv [0, 1, 2] [(0, .ref (M 0)), (1, .int r18.2.2), (2, .int v2_216)] rfl ?_
                      obtain rfl := Option.some.inj h
                      exact kk351
                    · replace h := ite_f hc h
                      refine vv_aload_n C dX7_hourOn_360 rfl 0 rfl 361 rfl ?_
                      refine vv_get C (q0 := 0) (ci := 7) (k := 13) kinX7_hourOn_X7 rfl rfl (by decide) kwX7_hourOn_6 rfl rfl dX7_hourOn_361 364 rfl ?_
                      refine vv_iload C dX7_hourOn_364 5 rfl 366 rfl ?_
                      obtain ⟨hi, h⟩ := chk_s h
                      refine vv_iald C (q0 := 8) rfl hi dX7_hourOn_366 367 rfl ?_
                      refine vv_iload_n C dX7_hourOn_367 rfl 2 rfl 368 rfl ?_
                      refine vv_icmp_eq C 374 371 dX7_hourOn_368 (by decide) rfl (fun hc => ?_) (fun hc => ?_)
                      · replace h := ite_t hc h
                        refine vv_aload_n C dX7_hourOn_374 rfl 0 rfl 375 rfl ?_
                        refine vv_iload C dX7_hourOn_375 5 rfl 377 rfl ?_
                        refine vv_iconst C (v := 3) dX7_hourOn_377 (by decide) 378 rfl ?_
                        refine vv_iload C dX7_hourOn_378 3 rfl 380 rfl ?_
                        obtain ⟨r26, hr26, h⟩ := bnd_s h
                        refine vv_callVv C (fun l => mt_X7_set l D c M M_thrown M_waters M_windX M_windY M_barrels M_crew M_table_351 v8_351 3 (mmax 0 (mmin 29 ((r22 + r24) + x303))) r26 hr26) gX7_hourOn_X7_set rfl rfl rfl yd_X7_set ⟨Nat.le_of_ble_eq_true rfl, Nat.le_of_ble_eq_true rfl⟩ [0, 3] rfl (by decide) 0 rfl rfl (wX7_hourOn c M M_thrown M_waters M_windX M_windY M_barrels M_crew M_waterTable M_fixed r26 r18.1 r18.2.1 r10.2.2.2 M_numbers r19) [(true, 0), (false, 1), (false, 2), (true, 1), (false, 4), (false, 5), (false, 6), (false, 7), (false, 8)] rfl (by decide) rfl rfl [] rfl (Nat.le_of_ble_eq_true rfl) ⟨Nat.le_of_ble_eq_true rfl, Nat.le_of_ble_eq_true rfl⟩ dX7_hourOn_380 383 0 0 rfl ⟨rfl, rfl⟩ ?_
                        refine vv_aload_n C dX7_hourOn_383 rfl 0 rfl 384 rfl ?_
                        refine vv_iload C dX7_hourOn_384 5 rfl 386 rfl ?_
                        refine vv_iconst C (v := 4) dX7_hourOn_386 (by decide) 387 rfl ?_
                        refine vv_iload C dX7_hourOn_387 4 rfl 389 rfl ?_
                        obtain ⟨r27, hr27, h⟩ := bnd_s h
                        refine vv_callVv C (fun l => mt_X7_set l D c M M_thrown M_waters M_windX M_windY M_barrels M_crew r26 v8_351 4 (mmax 0 (mmin 19 ((r23 + r25) + x339))) r27 hr27) gX7_hourOn_X7_set rfl rfl rfl yd_X7_set ⟨Nat.le_of_ble_eq_true rfl, Nat.le_of_ble_eq_true rfl⟩ [0, 3] rfl (by decide) 0 rfl rfl (wX7_hourOn c M M_thrown M_waters M_windX M_windY M_barrels M_crew M_waterTable M_fixed r27 r18.1 r18.2.1 r10.2.2.2 M_numbers r19) [(true, 0), (false, 1), (false, 2), (true, 1), (false, 4), (false, 5), (false, 6), (false, 7), (false, 8)] rfl (by decide) rfl rfl [] rfl (Nat.le_of_ble_eq_true rfl) ⟨Nat.le_of_ble_eq_true rfl, Nat.le_of_ble_eq_true rfl⟩ dX7_hourOn_389 392 0 0 rfl ⟨rfl, rfl⟩ ?_
                        refine vv_iinc C (k := 5) [(8, .int (v8_351 + 1)), (0, .ref (M 0)), (1, .int r18.2.2), (2, .int v2_216), (6, .int (mmax 0 (mmin 29 ((r22 + r24) + x303)))), (7, .int (mmax 0 (mmin 19 ((r23 + r25) + x339))))] dX7_hourOn_392 rfl rfl (by decide) rfl 395 rfl ?_
                        refine vv_goto C 351 dX7_hourOn_395 (by decide) ?_
                        refine vv_lv [1, 2, 3, 4, 5, 0] [(0, .ref (M 0)), (1, .int r18.2.2), (2, .int v2_216), (6, .int (mmax 0 (mmin 29 ((r22 + r24) + x303)))), (7, .int (mmax 0 (mmin 19 ((r23 + r25) + x339)))), (8, .int (v8_351 + 1))] rfl ?_
                        exact ih351 r27 (v8_351 + 1) _ h kk351
                      · replace h := ite_f hc h
                        refine vv_goto C 392 dX7_hourOn_371 (by decide) ?_
                        refine vv_iinc C (k := 5) [(8, .int (v8_351 + 1)), (0, .ref (M 0)), (1, .int r18.2.2), (2, .int v2_216), (6, .int (mmax 0 (mmin 29 ((r22 + r24) + x303)))), (7, .int (mmax 0 (mmin 19 ((r23 + r25) + x339))))] dX7_hourOn_392 rfl rfl (by decide) rfl 395 rfl ?_
                        refine vv_goto C 351 dX7_hourOn_395 (by decide) ?_
                        refine vv_lv [1, 2, 3, 4, 5, 0] [(0, .ref (M 0)), (1, .int r18.2.2), (2, .int v2_216), (6, .int (mmax 0 (mmin 29 ((r22 + r24) + x303)))), (7, .int (mmax 0 (mmin 19 ((r23 + r25) + x339)))), (8, .int (v8_351 + 1))] rfl ?_
                        exact ih351 M_table_351 (v8_351 + 1) _ h kk351
                obtain ⟨r28, hr28, h⟩ := bnd_s h
                refine L351 FU M_table_216 0 r28 hr28 ?_
                refine vv_iinc C (k := 2) [(2, .int (v2_216 + 1)), (0, .ref (M 0)), (1, .int r18.2.2)] dX7_hourOn_398 rfl rfl (by decide) rfl 401 rfl ?_
                refine vv_goto C 216 dX7_hourOn_401 (by decide) ?_
                refine vv_lv [1, 2, 0] [(0, .ref (M 0)), (1, .int r18.2.2), (2, .int (v2_216 + 1))] rfl ?_
                exact ih216 r28 (v2_216 + 1) _ h kk216
              refine vv_if_eq C 338 331 dX7_hourOn_328 (by decide) rfl (fun hc => ?_) (fun hc => ?_)
              · replace h := ite_t hc h
                refine vv_iconst C (v := 0) dX7_hourOn_338 (by decide) 339 rfl ?_
                refine vv_lv [1, 2, 3, 0] [(0, .ref (M 0)), (1, .int r18.2.2), (2, .int v2_216), (6, .int (mmax 0 (mmin 29 ((r22 + r24) + x303))))] rfl ?_
                exact J339 0 h
              · replace h := ite_f hc h
                refine vv_aload_n C dX7_hourOn_331 rfl 1 rfl 332 rfl ?_
                refine vv_get C (q0 := 0) (ci := 7) (k := 4) kinX7_hourOn_X7 rfl rfl (by decide) kwX7_hourOn_13 rfl rfl dX7_hourOn_332 335 rfl ?_
                refine vv_goto C 339 dX7_hourOn_335 (by decide) ?_
                refine vv_lv [1, 2, 3, 0] [(0, .ref (M 0)), (1, .int r18.2.2), (2, .int v2_216), (6, .int (mmax 0 (mmin 29 ((r22 + r24) + x303))))] rfl ?_
                exact J339 M_windY h
            refine vv_if_eq C 302 295 dX7_hourOn_292 (by decide) rfl (fun hc => ?_) (fun hc => ?_)
            · replace h := ite_t hc h
              refine vv_iconst C (v := 0) dX7_hourOn_302 (by decide) 303 rfl ?_
              refine vv_lv [3, 4, 5, 2, 1, 0] [(0, .ref (M 0)), (1, .int r18.2.2), (2, .int v2_216), (3, .int x259), (4, .int r22), (5, .int r23)] rfl ?_
              exact J303 0 h
            · replace h := ite_f hc h
              refine vv_aload_n C dX7_hourOn_295 rfl 3 rfl 296 rfl ?_
              refine vv_get C (q0 := 0) (ci := 7) (k := 3) kinX7_hourOn_X7 rfl rfl (by decide) kwX7_hourOn_9 rfl rfl dX7_hourOn_296 299 rfl ?_
              refine vv_goto C 303 dX7_hourOn_299 (by decide) ?_
              refine vv_lv [3, 4, 5, 2, 1, 0] [(0, .ref (M 0)), (1, .int r18.2.2), (2, .int v2_216), (3, .int x259), (4, .int r22), (5, .int r23)] rfl ?_
              exact J303 M_windX h
          refine vv_icmp_ge C 258 254 dX7_hourOn_251 (by decide) rfl (fun hc => ?_) (fun hc => ?_)
          · replace h := ite_t hc h
            refine vv_iconst C (v := 0) dX7_hourOn_258 (by decide) 259 rfl ?_
            exact J259 0 h
          · replace h := ite_f hc h
            refine vv_iconst C (v := 1) dX7_hourOn_254 (by decide) 255 rfl ?_
            refine vv_goto C 259 dX7_hourOn_255 (by decide) ?_
            exact J259 1 h
        · replace h := ite_f hc h
          refine vv_goto C 398 dX7_hourOn_234 (by decide) ?_
          refine vv_iinc C (k := 2) [(2, .int (v2_216 + 1)), (0, .ref (M 0)), (1, .int r18.2.2)] dX7_hourOn_398 rfl rfl (by decide) rfl 401 rfl ?_
          refine vv_goto C 216 dX7_hourOn_401 (by decide) ?_
          refine vv_lv [1, 2, 0] [(0, .ref (M 0)), (1, .int r18.2.2), (2, .int (v2_216 + 1))] rfl ?_
          exact ih216 M_table_216 (v2_216 + 1) _ h kk216
  obtain ⟨r29, hr29, h⟩ := bnd_s h
  refine L216 FU r10.1 0 r29 hr29 ?_
  refine vv_iconst C (v := 0) dX7_hourOn_404 (by decide) 405 rfl ?_
  refine vv_istore_n C [(2, .int 0), (0, .ref (M 0)), (1, .int r18.2.2)] dX7_hourOn_405 rfl (by decide) rfl 406 rfl ?_
  refine vv_lv [1, 2, 0] [(0, .ref (M 0)), (1, .int r18.2.2), (2, .int 0)] rfl ?_
  have L406 : ∀ (n : Nat) (M_table_406 : Nat → Int32) (M_strength_406 : Nat → Int32) (M_wear_406 : Nat → Int32) (M_people_406 : Nat → Int32) (v2_406 : Int32) (q406 : (Nat → Int32) × (Nat → Int32) × (Nat → Int32) × (Nat → Int32)), jX7_hourOn_L406 M_barrels M_crew r19 n M_table_406 M_strength_406 M_wear_406 M_people_406 v2_406 = some q406 → (VV g D 9 0 0 (wX7_hourOn c M M_thrown M_waters M_windX M_windY M_barrels M_crew M_waterTable M_fixed q406.1 q406.2.1 q406.2.2.1 q406.2.2.2 M_numbers r19) [(0, .ref (M 0)), (1, .int r18.2.2)] 447 []) → VV g D 9 0 0 (wX7_hourOn c M M_thrown M_waters M_windX M_windY M_barrels M_crew M_waterTable M_fixed M_table_406 M_strength_406 M_wear_406 M_people_406 M_numbers r19) [(0, .ref (M 0)), (1, .int r18.2.2), (2, .int v2_406)] 406 [] := by
    intro n
    induction n with
    | zero =>
      intro M_table_406 M_strength_406 M_wear_406 M_people_406 v2_406 q406 h _
      rw [jX7_hourOn_L406] at h
      cases h
    | succ n ih406 =>
      intro M_table_406 M_strength_406 M_wear_406 M_people_406 v2_406 q406 h kk406
      rw [jX7_hourOn_L406] at h
      refine vv_iload_n C dX7_hourOn_406 rfl 2 rfl 407 rfl ?_
      refine vv_aload_n C dX7_hourOn_407 rfl 0 rfl 408 rfl ?_
      refine vv_get C (q0 := 0) (ci := 7) (k := 5) kinX7_hourOn_X7 rfl rfl (by decide) kwX7_hourOn_1 rfl rfl dX7_hourOn_408 411 rfl ?_
      refine vv_icmp_ge C 447 414 dX7_hourOn_411 (by decide) rfl (fun hc => ?_) (fun hc => ?_)
      · replace h := ite_t hc h
        refine vv_lv [0, 1] [(0, .ref (M 0)), (1, .int r18.2.2)] rfl ?_
        obtain rfl := Option.some.inj h
        exact kk406
      · replace h := ite_f hc h
        refine vv_aload_n C dX7_hourOn_414 rfl 0 rfl 415 rfl ?_
        refine vv_get C (q0 := 0) (ci := 7) (k := 13) kinX7_hourOn_X7 rfl rfl (by decide) kwX7_hourOn_6 rfl rfl dX7_hourOn_415 418 rfl ?_
        refine vv_iload_n C dX7_hourOn_418 rfl 2 rfl 419 rfl ?_
        obtain ⟨hi, h⟩ := chk_s h
        refine vv_iald C (q0 := 8) rfl hi dX7_hourOn_419 420 rfl ?_
        refine vv_iload_n C dX7_hourOn_420 rfl 2 rfl 421 rfl ?_
        refine vv_icmp_ne C 441 424 dX7_hourOn_421 (by decide) rfl (fun hc => ?_) (fun hc => ?_)
        · replace h := ite_f hc h
          refine vv_iinc C (k := 2) [(2, .int (v2_406 + 1)), (0, .ref (M 0)), (1, .int r18.2.2)] dX7_hourOn_441 rfl rfl (by decide) rfl 444 rfl ?_
          refine vv_goto C 406 dX7_hourOn_444 (by decide) ?_
          refine vv_lv [1, 2, 0] [(0, .ref (M 0)), (1, .int r18.2.2), (2, .int (v2_406 + 1))] rfl ?_
          exact ih406 M_table_406 M_strength_406 M_wear_406 M_people_406 (v2_406 + 1) _ h kk406
        · replace h := ite_t hc h
          refine vv_aload_n C dX7_hourOn_424 rfl 0 rfl 425 rfl ?_
          refine vv_iload_n C dX7_hourOn_425 rfl 2 rfl 426 rfl ?_
          refine vv_iconst C (v := 3) dX7_hourOn_426 (by decide) 427 rfl ?_
          obtain ⟨r30, hr30, h⟩ := bnd_s h
          refine vv_callVi C (fun l => mt_X7_ba l D c M M_thrown M_waters M_windX M_windY M_barrels M_crew M_table_406 v2_406 3 r30 hr30) gX7_hourOn_X7_ba rfl rfl rfl yd_X7_ba ⟨Nat.le_of_ble_eq_true rfl, Nat.le_of_ble_eq_true rfl⟩ [0, 3] rfl (by decide) 0 rfl rfl (wX7_hourOn c M M_thrown M_waters M_windX M_windY M_barrels M_crew M_waterTable M_fixed M_table_406 M_strength_406 M_wear_406 M_people_406 M_numbers r19) [(true, 0), (false, 1), (false, 2), (true, 1), (false, 4), (false, 5), (false, 6), (false, 7), (false, 8)] rfl (by decide) rfl rfl [] rfl (Nat.le_of_ble_eq_true rfl) ⟨Nat.le_of_ble_eq_true rfl, Nat.le_of_ble_eq_true rfl⟩ dX7_hourOn_427 430 0 0 rfl ⟨rfl, rfl⟩ ?_
          refine vv_bipush C (v := 29) dX7_hourOn_430 (by decide) 432 rfl ?_
          refine vv_icmp_ne C 441 435 dX7_hourOn_432 (by decide) rfl (fun hc => ?_) (fun hc => ?_)
          · replace h := ite_f hc h
            refine vv_iinc C (k := 2) [(2, .int (v2_406 + 1)), (0, .ref (M 0)), (1, .int r18.2.2)] dX7_hourOn_441 rfl rfl (by decide) rfl 444 rfl ?_
            refine vv_goto C 406 dX7_hourOn_444 (by decide) ?_
            refine vv_lv [1, 2, 0] [(0, .ref (M 0)), (1, .int r18.2.2), (2, .int (v2_406 + 1))] rfl ?_
            exact ih406 M_table_406 M_strength_406 M_wear_406 M_people_406 (v2_406 + 1) _ h kk406
          · replace h := ite_t hc h
            refine vv_aload_n C dX7_hourOn_435 rfl 0 rfl 436 rfl ?_
            refine vv_iload_n C dX7_hourOn_436 rfl 2 rfl 437 rfl ?_
            refine vv_iconst C (v := 2) dX7_hourOn_437 (by decide) 438 rfl ?_
            obtain ⟨r31, hr31, h⟩ := bnd_s h
            refine vv_callVv C (fun l => mt_X7_end l D c M M_thrown M_waters M_windX M_windY M_barrels M_crew M_table_406 M_strength_406 M_wear_406 M_people_406 r19 v2_406 2 r31 hr31) gX7_hourOn_X7_end rfl rfl rfl yd_X7_end ⟨Nat.le_of_ble_eq_true rfl, Nat.le_of_ble_eq_true rfl⟩ [0, 3, 4, 5, 6, 8] rfl (by decide) 0 rfl rfl (wX7_hourOn c M M_thrown M_waters M_windX M_windY M_barrels M_crew M_waterTable M_fixed r31.1 r31.2.1 r31.2.2.1 r31.2.2.2 M_numbers r19) [(true, 0), (false, 1), (false, 2), (true, 1), (true, 2), (true, 3), (true, 4), (false, 7), (true, 5)] rfl (by decide) rfl rfl [] rfl (Nat.le_of_ble_eq_true rfl) ⟨Nat.le_of_ble_eq_true rfl, Nat.le_of_ble_eq_true rfl⟩ dX7_hourOn_438 441 0 0 rfl ⟨rfl, rfl⟩ ?_
            refine vv_iinc C (k := 2) [(2, .int (v2_406 + 1)), (0, .ref (M 0)), (1, .int r18.2.2)] dX7_hourOn_441 rfl rfl (by decide) rfl 444 rfl ?_
            refine vv_goto C 406 dX7_hourOn_444 (by decide) ?_
            refine vv_lv [1, 2, 0] [(0, .ref (M 0)), (1, .int r18.2.2), (2, .int (v2_406 + 1))] rfl ?_
            exact ih406 r31.1 r31.2.1 r31.2.2.1 r31.2.2.2 (v2_406 + 1) _ h kk406
  obtain ⟨r32, hr32, h⟩ := bnd_s h
  refine L406 FU r29 r18.1 r18.2.1 r10.2.2.2 0 r32 hr32 ?_
  refine vv_aload_n C dX7_hourOn_447 rfl 0 rfl 448 rfl ?_
  refine vv_get C (q0 := 0) (ci := 7) (k := 12) kinX7_hourOn_X7 rfl rfl (by decide) kwX7_hourOn_14 rfl rfl dX7_hourOn_448 451 rfl ?_
  refine vv_iconst C (v := 0) dX7_hourOn_451 (by decide) 452 rfl ?_
  refine vv_dup2 C dX7_hourOn_452 rfl rfl 453 rfl ?_
  obtain ⟨hi, h⟩ := chk_s h
  refine vv_iald C (q0 := 7) rfl hi dX7_hourOn_453 454 rfl ?_
  refine vv_iconst C (v := 1) dX7_hourOn_454 (by decide) 455 rfl ?_
  refine vv_iadd C dX7_hourOn_455 456 rfl ?_
  obtain ⟨hi, h⟩ := chk_s h
  refine vv_iast C (q0 := 7) (wX7_hourOn c M M_thrown M_waters M_windX M_windY M_barrels M_crew M_waterTable M_fixed r32.1 r32.2.1 r32.2.2.1 r32.2.2.2 (wr M_numbers 0 ((rd M_numbers 0) + 1)) r19) rfl hi rfl dX7_hourOn_456 457 rfl ?_
  refine vv_aload_n C dX7_hourOn_457 rfl 0 rfl 458 rfl ?_
  refine vv_get C (q0 := 0) (ci := 7) (k := 12) kinX7_hourOn_X7 rfl rfl (by decide) kwX7_hourOn_14 rfl rfl dX7_hourOn_458 461 rfl ?_
  refine vv_iconst C (v := 2) dX7_hourOn_461 (by decide) 462 rfl ?_
  refine vv_dup2 C dX7_hourOn_462 rfl rfl 463 rfl ?_
  obtain ⟨hi, h⟩ := chk_s h
  refine vv_iald C (q0 := 7) rfl hi dX7_hourOn_463 464 rfl ?_
  refine vv_iload_n C dX7_hourOn_464 rfl 1 rfl 465 rfl ?_
  refine vv_iadd C dX7_hourOn_465 466 rfl ?_
  obtain ⟨hi, h⟩ := chk_s h
  refine vv_iast C (q0 := 7) (wX7_hourOn c M M_thrown M_waters M_windX M_windY M_barrels M_crew M_waterTable M_fixed r32.1 r32.2.1 r32.2.2.1 r32.2.2.2 (wr (wr M_numbers 0 ((rd M_numbers 0) + 1)) 2 ((rd (wr M_numbers 0 ((rd M_numbers 0) + 1)) 2) + r18.2.2)) r19) rfl hi rfl dX7_hourOn_466 467 rfl ?_
  refine vv_iload_n C dX7_hourOn_467 rfl 1 rfl 468 rfl ?_
  obtain rfl := Option.some.inj h
  exact ret _ _ dX7_hourOn_468
abbrev wX7_lashing (c : Nat → ClassId) (M : Nat → Nat) (M_thrown : Int32) (M_waters : Int32) (M_windX : Int32) (M_windY : Int32) (M_barrels : Int32) (M_crew : Int32) (M_waterTable : Nat → Int32) (M_table : Nat → Int32) (M_strength : Nat → Int32) (M_wear : Nat → Int32) (M_people : Nat → Int32) : va_W := [(M 0, .inr (7, [.int M_thrown, .int M_waters, .ref (M 1), .int M_windX, .int M_windY, .int M_barrels, .ref (M 2), .int M_crew, .ref (M 3), .ref (M 4), .ref (M 5), .ref (M 6), .ref (M 7), .ref (M 8), .ref (M 9), .ref (M 10), .ref (M 11), .ref (M 12)])), aI c (M 1) 56 M_waterTable, aI c (M 3) 120 M_table, aI c (M 4) 576 M_strength, aI c (M 5) 576 M_wear, aI c (M 6) 16 M_people]
abbrev rmX7_lashing : Room := { frames := 4, cells := 0, slots := 0, locals := 91 }
theorem yd_X7_lashing : yX7_lashing.cls = RX7 ∧ yX7_lashing.cls ≠ "java/lang/invoke/MethodHandle" ∧ yX7_lashing.cls ≠ "java/lang/invoke/VarHandle" ∧ (parseMethodDescriptor yX7_lashing.desc).map (fun d => d.parameters.length) = some 3 := by decide +kernel
theorem kwX7_lashing_1 : Cond.fieldLink RX7 47 "BarrelRaftModel" "thrown" "I" ∈ wsX7_lashing := List.mem_of_getElem? (i := 1) rfl
set_option maxRecDepth 20000 in
theorem kinX7_lashing_X7 : ∀ w ∈ u_ws RX7 TX7 18, w ∈ wsX7_lashing := by decide +kernel
theorem kwX7_lashing_3 : Cond.fieldLink RX7 22 "BarrelRaftModel" "wear" "[I" ∈ wsX7_lashing := List.mem_of_getElem? (i := 3) rfl
theorem kwX7_lashing_2 : Cond.fieldLink RX7 19 "BarrelRaftModel" "strength" "[I" ∈ wsX7_lashing := List.mem_of_getElem? (i := 2) rfl
def jX7_lashing (M_thrown : Int32) (M_waters : Int32) (M_barrels : Int32) (M_crew : Int32) (M_waterTable : Nat → Int32) (M_table : Nat → Int32) (M_strength : Nat → Int32) (M_wear : Nat → Int32) (M_people : Nat → Int32) (a1 : Int32) (a2 : Int32) (a3 : Int32) : Option (Int32 × Int32) :=
  bnd (jX7_isBarrel M_barrels a1) (fun r1 => (if r1 = 0 then bnd (jX7_fail 0 1) (fun r2 => some (r2.1, r2.2)) else bnd (jX7_isBarrel M_barrels a2) (fun r3 => (if r3 = 0 then bnd (jX7_fail 0 1) (fun r4 => some (r4.1, r4.2)) else bnd (jX7_isIn a3 0 2) (fun r5 => (if r5 = 0 then bnd (jX7_fail 0 1) (fun r10 => some (r10.1, r10.2)) else bnd (jX7_isTied M_strength a1 a2) (fun r6 => (if r6 = 0 then some (0, 0) else (if a3 = 0 then bnd (jX7_pair a1 a2) (fun r9 => chk 576 r9 (some (rd M_strength r9, 0))) else (if a3 = 1 then bnd (jX7_pair a1 a2) (fun r8 => chk 576 r8 (some (rd M_wear r8, 0))) else bnd (jX7_stress M_waters M_crew M_waterTable M_table M_people a1 a2) (fun r7 => some (r7, 0))))))))))))
set_option maxHeartbeats 4000000 in
set_option maxRecDepth 100000 in
theorem mt_X7_lashing (l : Launch) (D : va_G) (c : Nat → ClassId) (M : Nat → Nat) (M_thrown : Int32) (M_waters : Int32) (M_windX : Int32) (M_windY : Int32) (M_barrels : Int32) (M_crew : Int32) (M_waterTable : Nat → Int32) (M_table : Nat → Int32) (M_strength : Nat → Int32) (M_wear : Nat → Int32) (M_people : Nat → Int32) (a1 : Int32) (a2 : Int32) (a3 : Int32) (q0 : Int32 × Int32) (h : jX7_lashing M_thrown M_waters M_barrels M_crew M_waterTable M_table M_strength M_wear M_people a1 a2 a3 = some q0) : DTi l yX7_lashing wsX7_lashing rmX7_lashing D c (wX7_lashing c M M_thrown M_waters M_windX M_windY M_barrels M_crew M_waterTable M_table M_strength M_wear M_people) [.ref (M 0), .int a1, .int a2, .int a3] q0.1 (wX7_lashing c M q0.2 M_waters M_windX M_windY M_barrels M_crew M_waterTable M_table M_strength M_wear M_people) 0 0 := by
  refine DTi_of (cc := cX7_lashing) (nL := 4) RX7 rfl (by decide) rfl (Nat.le_of_ble_eq_true rfl) (fun g C ret => ?_)
  unfold jX7_lashing at h
  refine vv_lv [0, 1, 2, 3] [(0, .ref (M 0)), (1, .int a1), (2, .int a2), (3, .int a3)] rfl ?_
  refine vv_aload_n C dX7_lashing_0 rfl 0 rfl 1 rfl ?_
  refine vv_iconst C (v := 0) dX7_lashing_1 (by decide) 2 rfl ?_
  refine vv_put C (q0 := 0) (ci := 7) (k := 0) (ty := .int) (wX7_lashing c M 0 M_waters M_windX M_windY M_barrels M_crew M_waterTable M_table M_strength M_wear M_people) tyX7 tyX7_ok nmX7 kinX7_lashing_X7 rfl rfl (by decide) kwX7_lashing_1 rfl rfl rfl rfl rfl (Nat.le_of_ble_eq_true rfl) rfl dX7_lashing_2 5 rfl ?_
  refine vv_aload_n C dX7_lashing_5 rfl 0 rfl 6 rfl ?_
  refine vv_iload_n C dX7_lashing_6 rfl 1 rfl 7 rfl ?_
  obtain ⟨r1, hr1, h⟩ := bnd_s h
  refine vv_callVi C (fun l => mt_X7_isBarrel l D c M 0 M_waters M_windX M_windY M_barrels M_crew a1 r1 hr1) gX7_lashing_X7_isBarrel rfl rfl rfl yd_X7_isBarrel ⟨Nat.le_of_ble_eq_true rfl, Nat.le_of_ble_eq_true rfl⟩ [0] rfl (by decide) 0 rfl rfl (wX7_lashing c M 0 M_waters M_windX M_windY M_barrels M_crew M_waterTable M_table M_strength M_wear M_people) [(true, 0), (false, 1), (false, 2), (false, 3), (false, 4), (false, 5)] rfl (by decide) rfl rfl [] rfl (Nat.le_of_ble_eq_true rfl) ⟨Nat.le_of_ble_eq_true rfl, Nat.le_of_ble_eq_true rfl⟩ dX7_lashing_7 10 0 0 rfl ⟨rfl, rfl⟩ ?_
  refine vv_if_eq C 30 13 dX7_lashing_10 (by decide) rfl (fun hc => ?_) (fun hc => ?_)
  · replace h := ite_t hc h
    refine vv_aload_n C dX7_lashing_30 rfl 0 rfl 31 rfl ?_
    refine vv_iconst C (v := 1) dX7_lashing_31 (by decide) 32 rfl ?_
    obtain ⟨r2, hr2, h⟩ := bnd_s h
    refine vv_callVi C (fun l => mt_X7_fail l D c M 0 M_waters M_windX M_windY M_barrels M_crew 1 r2 hr2) gX7_lashing_X7_fail rfl rfl rfl yd_X7_fail ⟨Nat.le_of_ble_eq_true rfl, Nat.le_of_ble_eq_true rfl⟩ [0] rfl (by decide) 0 rfl rfl (wX7_lashing c M r2.2 M_waters M_windX M_windY M_barrels M_crew M_waterTable M_table M_strength M_wear M_people) [(true, 0), (false, 1), (false, 2), (false, 3), (false, 4), (false, 5)] rfl (by decide) rfl rfl [] rfl (Nat.le_of_ble_eq_true rfl) ⟨Nat.le_of_ble_eq_true rfl, Nat.le_of_ble_eq_true rfl⟩ dX7_lashing_32 35 0 0 rfl ⟨rfl, rfl⟩ ?_
    obtain rfl := Option.some.inj h
    exact ret _ _ dX7_lashing_35
  · replace h := ite_f hc h
    refine vv_aload_n C dX7_lashing_13 rfl 0 rfl 14 rfl ?_
    refine vv_iload_n C dX7_lashing_14 rfl 2 rfl 15 rfl ?_
    obtain ⟨r3, hr3, h⟩ := bnd_s h
    refine vv_callVi C (fun l => mt_X7_isBarrel l D c M 0 M_waters M_windX M_windY M_barrels M_crew a2 r3 hr3) gX7_lashing_X7_isBarrel rfl rfl rfl yd_X7_isBarrel ⟨Nat.le_of_ble_eq_true rfl, Nat.le_of_ble_eq_true rfl⟩ [0] rfl (by decide) 0 rfl rfl (wX7_lashing c M 0 M_waters M_windX M_windY M_barrels M_crew M_waterTable M_table M_strength M_wear M_people) [(true, 0), (false, 1), (false, 2), (false, 3), (false, 4), (false, 5)] rfl (by decide) rfl rfl [] rfl (Nat.le_of_ble_eq_true rfl) ⟨Nat.le_of_ble_eq_true rfl, Nat.le_of_ble_eq_true rfl⟩ dX7_lashing_15 18 0 0 rfl ⟨rfl, rfl⟩ ?_
    refine vv_if_eq C 30 21 dX7_lashing_18 (by decide) rfl (fun hc => ?_) (fun hc => ?_)
    · replace h := ite_t hc h
      refine vv_aload_n C dX7_lashing_30 rfl 0 rfl 31 rfl ?_
      refine vv_iconst C (v := 1) dX7_lashing_31 (by decide) 32 rfl ?_
      obtain ⟨r4, hr4, h⟩ := bnd_s h
      refine vv_callVi C (fun l => mt_X7_fail l D c M 0 M_waters M_windX M_windY M_barrels M_crew 1 r4 hr4) gX7_lashing_X7_fail rfl rfl rfl yd_X7_fail ⟨Nat.le_of_ble_eq_true rfl, Nat.le_of_ble_eq_true rfl⟩ [0] rfl (by decide) 0 rfl rfl (wX7_lashing c M r4.2 M_waters M_windX M_windY M_barrels M_crew M_waterTable M_table M_strength M_wear M_people) [(true, 0), (false, 1), (false, 2), (false, 3), (false, 4), (false, 5)] rfl (by decide) rfl rfl [] rfl (Nat.le_of_ble_eq_true rfl) ⟨Nat.le_of_ble_eq_true rfl, Nat.le_of_ble_eq_true rfl⟩ dX7_lashing_32 35 0 0 rfl ⟨rfl, rfl⟩ ?_
      obtain rfl := Option.some.inj h
      exact ret _ _ dX7_lashing_35
    · replace h := ite_f hc h
      refine vv_iload_n C dX7_lashing_21 rfl 3 rfl 22 rfl ?_
      refine vv_iconst C (v := 0) dX7_lashing_22 (by decide) 23 rfl ?_
      refine vv_iconst C (v := 2) dX7_lashing_23 (by decide) 24 rfl ?_
      obtain ⟨r5, hr5, h⟩ := bnd_s h
      refine vv_callSi C (fun l => mt_X7_isIn l D c a3 0 2 r5 hr5) gX7_lashing_X7_isIn rfl rfl rfl yd_X7_isIn ⟨Nat.le_of_ble_eq_true rfl, Nat.le_of_ble_eq_true rfl⟩ [] rfl (by decide) (wX7_lashing c M 0 M_waters M_windX M_windY M_barrels M_crew M_waterTable M_table M_strength M_wear M_people) [(false, 0), (false, 1), (false, 2), (false, 3), (false, 4), (false, 5)] rfl (by decide) rfl rfl [] rfl (Nat.le_of_ble_eq_true rfl) ⟨Nat.le_of_ble_eq_true rfl, Nat.le_of_ble_eq_true rfl⟩ dX7_lashing_24 27 0 0 rfl ⟨rfl, rfl⟩ ?_
      refine vv_if_ne C 36 30 dX7_lashing_27 (by decide) rfl (fun hc => ?_) (fun hc => ?_)
      · replace h := ite_f hc h
        refine vv_aload_n C dX7_lashing_36 rfl 0 rfl 37 rfl ?_
        refine vv_iload_n C dX7_lashing_37 rfl 1 rfl 38 rfl ?_
        refine vv_iload_n C dX7_lashing_38 rfl 2 rfl 39 rfl ?_
        obtain ⟨r6, hr6, h⟩ := bnd_s h
        refine vv_callVi C (fun l => mt_X7_isTied l D c M 0 M_waters M_windX M_windY M_barrels M_crew M_strength a1 a2 r6 hr6) gX7_lashing_X7_isTied rfl rfl rfl yd_X7_isTied ⟨Nat.le_of_ble_eq_true rfl, Nat.le_of_ble_eq_true rfl⟩ [0, 3] rfl (by decide) 0 rfl rfl (wX7_lashing c M 0 M_waters M_windX M_windY M_barrels M_crew M_waterTable M_table M_strength M_wear M_people) [(true, 0), (false, 1), (false, 2), (true, 1), (false, 4), (false, 5)] rfl (by decide) rfl rfl [] rfl (Nat.le_of_ble_eq_true rfl) ⟨Nat.le_of_ble_eq_true rfl, Nat.le_of_ble_eq_true rfl⟩ dX7_lashing_39 42 0 0 rfl ⟨rfl, rfl⟩ ?_
        refine vv_if_ne C 47 45 dX7_lashing_42 (by decide) rfl (fun hc => ?_) (fun hc => ?_)
        · replace h := ite_f hc h
          refine vv_iload_n C dX7_lashing_47 rfl 3 rfl 48 rfl ?_
          refine vv_if_ne C 64 51 dX7_lashing_48 (by decide) rfl (fun hc => ?_) (fun hc => ?_)
          · replace h := ite_f hc h
            refine vv_iload_n C dX7_lashing_64 rfl 3 rfl 65 rfl ?_
            refine vv_iconst C (v := 1) dX7_lashing_65 (by decide) 66 rfl ?_
            refine vv_icmp_ne C 82 69 dX7_lashing_66 (by decide) rfl (fun hc => ?_) (fun hc => ?_)
            · replace h := ite_f hc h
              refine vv_aload_n C dX7_lashing_82 rfl 0 rfl 83 rfl ?_
              refine vv_iload_n C dX7_lashing_83 rfl 1 rfl 84 rfl ?_
              refine vv_iload_n C dX7_lashing_84 rfl 2 rfl 85 rfl ?_
              obtain ⟨r7, hr7, h⟩ := bnd_s h
              refine vv_callVi C (fun l => mt_X7_stress l D c M 0 M_waters M_windX M_windY M_barrels M_crew M_waterTable M_table M_people a1 a2 r7 hr7) gX7_lashing_X7_stress rfl rfl rfl yd_X7_stress ⟨Nat.le_of_ble_eq_true rfl, Nat.le_of_ble_eq_true rfl⟩ [0, 1, 2, 5] rfl (by decide) 0 rfl rfl (wX7_lashing c M 0 M_waters M_windX M_windY M_barrels M_crew M_waterTable M_table M_strength M_wear M_people) [(true, 0), (true, 1), (true, 2), (false, 3), (false, 4), (true, 3)] rfl (by decide) rfl rfl [] rfl (Nat.le_of_ble_eq_true rfl) ⟨Nat.le_of_ble_eq_true rfl, Nat.le_of_ble_eq_true rfl⟩ dX7_lashing_85 88 0 0 rfl ⟨rfl, rfl⟩ ?_
              obtain rfl := Option.some.inj h
              exact ret _ _ dX7_lashing_88
            · replace h := ite_t hc h
              refine vv_aload_n C dX7_lashing_69 rfl 0 rfl 70 rfl ?_
              refine vv_get C (q0 := 0) (ci := 7) (k := 10) kinX7_lashing_X7 rfl rfl (by decide) kwX7_lashing_3 rfl rfl dX7_lashing_70 73 rfl ?_
              refine vv_iload_n C dX7_lashing_73 rfl 1 rfl 74 rfl ?_
              refine vv_iload_n C dX7_lashing_74 rfl 2 rfl 75 rfl ?_
              obtain ⟨r8, hr8, h⟩ := bnd_s h
              refine vv_callSi C (fun l => mt_X7_pair l D c a1 a2 r8 hr8) gX7_lashing_X7_pair rfl rfl rfl yd_X7_pair ⟨Nat.le_of_ble_eq_true rfl, Nat.le_of_ble_eq_true rfl⟩ [] rfl (by decide) (wX7_lashing c M 0 M_waters M_windX M_windY M_barrels M_crew M_waterTable M_table M_strength M_wear M_people) [(false, 0), (false, 1), (false, 2), (false, 3), (false, 4), (false, 5)] rfl (by decide) rfl rfl [.ref (M 5)] rfl (Nat.le_of_ble_eq_true rfl) ⟨Nat.le_of_ble_eq_true rfl, Nat.le_of_ble_eq_true rfl⟩ dX7_lashing_75 78 0 0 rfl ⟨rfl, rfl⟩ ?_
              obtain ⟨hi, h⟩ := chk_s h
              refine vv_iald C (q0 := 4) rfl hi dX7_lashing_78 79 rfl ?_
              refine vv_goto C 88 dX7_lashing_79 (by decide) ?_
              obtain rfl := Option.some.inj h
              exact ret _ _ dX7_lashing_88
          · replace h := ite_t hc h
            refine vv_aload_n C dX7_lashing_51 rfl 0 rfl 52 rfl ?_
            refine vv_get C (q0 := 0) (ci := 7) (k := 9) kinX7_lashing_X7 rfl rfl (by decide) kwX7_lashing_2 rfl rfl dX7_lashing_52 55 rfl ?_
            refine vv_iload_n C dX7_lashing_55 rfl 1 rfl 56 rfl ?_
            refine vv_iload_n C dX7_lashing_56 rfl 2 rfl 57 rfl ?_
            obtain ⟨r9, hr9, h⟩ := bnd_s h
            refine vv_callSi C (fun l => mt_X7_pair l D c a1 a2 r9 hr9) gX7_lashing_X7_pair rfl rfl rfl yd_X7_pair ⟨Nat.le_of_ble_eq_true rfl, Nat.le_of_ble_eq_true rfl⟩ [] rfl (by decide) (wX7_lashing c M 0 M_waters M_windX M_windY M_barrels M_crew M_waterTable M_table M_strength M_wear M_people) [(false, 0), (false, 1), (false, 2), (false, 3), (false, 4), (false, 5)] rfl (by decide) rfl rfl [.ref (M 4)] rfl (Nat.le_of_ble_eq_true rfl) ⟨Nat.le_of_ble_eq_true rfl, Nat.le_of_ble_eq_true rfl⟩ dX7_lashing_57 60 0 0 rfl ⟨rfl, rfl⟩ ?_
            obtain ⟨hi, h⟩ := chk_s h
            refine vv_iald C (q0 := 3) rfl hi dX7_lashing_60 61 rfl ?_
            refine vv_goto C 88 dX7_lashing_61 (by decide) ?_
            obtain rfl := Option.some.inj h
            exact ret _ _ dX7_lashing_88
        · replace h := ite_t hc h
          refine vv_iconst C (v := 0) dX7_lashing_45 (by decide) 46 rfl ?_
          obtain rfl := Option.some.inj h
          exact ret _ _ dX7_lashing_46
      · replace h := ite_t hc h
        refine vv_aload_n C dX7_lashing_30 rfl 0 rfl 31 rfl ?_
        refine vv_iconst C (v := 1) dX7_lashing_31 (by decide) 32 rfl ?_
        obtain ⟨r10, hr10, h⟩ := bnd_s h
        refine vv_callVi C (fun l => mt_X7_fail l D c M 0 M_waters M_windX M_windY M_barrels M_crew 1 r10 hr10) gX7_lashing_X7_fail rfl rfl rfl yd_X7_fail ⟨Nat.le_of_ble_eq_true rfl, Nat.le_of_ble_eq_true rfl⟩ [0] rfl (by decide) 0 rfl rfl (wX7_lashing c M r10.2 M_waters M_windX M_windY M_barrels M_crew M_waterTable M_table M_strength M_wear M_people) [(true, 0), (false, 1), (false, 2), (false, 3), (false, 4), (false, 5)] rfl (by decide) rfl rfl [] rfl (Nat.le_of_ble_eq_true rfl) ⟨Nat.le_of_ble_eq_true rfl, Nat.le_of_ble_eq_true rfl⟩ dX7_lashing_32 35 0 0 rfl ⟨rfl, rfl⟩ ?_
        obtain rfl := Option.some.inj h
        exact ret _ _ dX7_lashing_35
abbrev wX7_load (c : Nat → ClassId) (M : Nat → Nat) (M_thrown : Int32) (M_waters : Int32) (M_windX : Int32) (M_windY : Int32) (M_barrels : Int32) (M_crew : Int32) (M_table : Nat → Int32) : va_W := [(M 0, .inr (7, [.int M_thrown, .int M_waters, .ref (M 1), .int M_windX, .int M_windY, .int M_barrels, .ref (M 2), .int M_crew, .ref (M 3), .ref (M 4), .ref (M 5), .ref (M 6), .ref (M 7), .ref (M 8), .ref (M 9), .ref (M 10), .ref (M 11), .ref (M 12)])), aI c (M 3) 120 M_table]
abbrev rmX7_load : Room := { frames := 2, cells := 0, slots := 0, locals := 43 }
theorem yd_X7_load : yX7_load.cls = RX7 ∧ yX7_load.cls ≠ "java/lang/invoke/MethodHandle" ∧ yX7_load.cls ≠ "java/lang/invoke/VarHandle" ∧ (parseMethodDescriptor yX7_load.desc).map (fun d => d.parameters.length) = some 2 := by decide +kernel
theorem kwX7_load_1 : Cond.fieldLink RX7 47 "BarrelRaftModel" "thrown" "I" ∈ wsX7_load := List.mem_of_getElem? (i := 1) rfl
set_option maxRecDepth 20000 in
theorem kinX7_load_X7 : ∀ w ∈ u_ws RX7 TX7 18, w ∈ wsX7_load := by decide +kernel
def jX7_load (M_thrown : Int32) (M_barrels : Int32) (M_table : Nat → Int32) (a1 : Int32) (a2 : Int32) : Option (Int32 × Int32 × (Nat → Int32)) :=
  bnd (jX7_isBarrel M_barrels a1) (fun r1 => (if r1 = 0 then bnd (jX7_fail 0 1) (fun r8 => some (r8.1, r8.2, M_table)) else bnd (jX7_isIn a2 0 30) (fun r2 => (if r2 = 0 then bnd (jX7_fail 0 2) (fun r7 => some (r7.1, r7.2, M_table)) else bnd (jX7_floats M_table a1) (fun r3 => (if r3 = 0 then bnd (jX7_fail 0 3) (fun r6 => some (r6.1, r6.2, M_table)) else bnd (jX7_ba M_table a1 1) (fun r4 => bnd (jX7_set M_table a1 1 a2) (fun r5 => some (r4, 0, r5)))))))))
set_option maxHeartbeats 4000000 in
set_option maxRecDepth 100000 in
theorem mt_X7_load (l : Launch) (D : va_G) (c : Nat → ClassId) (M : Nat → Nat) (M_thrown : Int32) (M_waters : Int32) (M_windX : Int32) (M_windY : Int32) (M_barrels : Int32) (M_crew : Int32) (M_table : Nat → Int32) (a1 : Int32) (a2 : Int32) (q0 : Int32 × Int32 × (Nat → Int32)) (h : jX7_load M_thrown M_barrels M_table a1 a2 = some q0) : DTi l yX7_load wsX7_load rmX7_load D c (wX7_load c M M_thrown M_waters M_windX M_windY M_barrels M_crew M_table) [.ref (M 0), .int a1, .int a2] q0.1 (wX7_load c M q0.2.1 M_waters M_windX M_windY M_barrels M_crew q0.2.2) 0 0 := by
  refine DTi_of (cc := cX7_load) (nL := 4) RX7 rfl (by decide) rfl (Nat.le_of_ble_eq_true rfl) (fun g C ret => ?_)
  unfold jX7_load at h
  refine vv_lv [0, 1, 2] [(0, .ref (M 0)), (1, .int a1), (2, .int a2)] rfl ?_
  refine vv_aload_n C dX7_load_0 rfl 0 rfl 1 rfl ?_
  refine vv_iconst C (v := 0) dX7_load_1 (by decide) 2 rfl ?_
  refine vv_put C (q0 := 0) (ci := 7) (k := 0) (ty := .int) (wX7_load c M 0 M_waters M_windX M_windY M_barrels M_crew M_table) tyX7 tyX7_ok nmX7 kinX7_load_X7 rfl rfl (by decide) kwX7_load_1 rfl rfl rfl rfl rfl (Nat.le_of_ble_eq_true rfl) rfl dX7_load_2 5 rfl ?_
  refine vv_aload_n C dX7_load_5 rfl 0 rfl 6 rfl ?_
  refine vv_iload_n C dX7_load_6 rfl 1 rfl 7 rfl ?_
  obtain ⟨r1, hr1, h⟩ := bnd_s h
  refine vv_callVi C (fun l => mt_X7_isBarrel l D c M 0 M_waters M_windX M_windY M_barrels M_crew a1 r1 hr1) gX7_load_X7_isBarrel rfl rfl rfl yd_X7_isBarrel ⟨Nat.le_of_ble_eq_true rfl, Nat.le_of_ble_eq_true rfl⟩ [0] rfl (by decide) 0 rfl rfl (wX7_load c M 0 M_waters M_windX M_windY M_barrels M_crew M_table) [(true, 0), (false, 1)] rfl (by decide) rfl rfl [] rfl (Nat.le_of_ble_eq_true rfl) ⟨Nat.le_of_ble_eq_true rfl, Nat.le_of_ble_eq_true rfl⟩ dX7_load_7 10 0 0 rfl ⟨rfl, rfl⟩ ?_
  refine vv_if_ne C 19 13 dX7_load_10 (by decide) rfl (fun hc => ?_) (fun hc => ?_)
  · replace h := ite_f hc h
    refine vv_iload_n C dX7_load_19 rfl 2 rfl 20 rfl ?_
    refine vv_iconst C (v := 0) dX7_load_20 (by decide) 21 rfl ?_
    refine vv_bipush C (v := 30) dX7_load_21 (by decide) 23 rfl ?_
    obtain ⟨r2, hr2, h⟩ := bnd_s h
    refine vv_callSi C (fun l => mt_X7_isIn l D c a2 0 30 r2 hr2) gX7_load_X7_isIn rfl rfl rfl yd_X7_isIn ⟨Nat.le_of_ble_eq_true rfl, Nat.le_of_ble_eq_true rfl⟩ [] rfl (by decide) (wX7_load c M 0 M_waters M_windX M_windY M_barrels M_crew M_table) [(false, 0), (false, 1)] rfl (by decide) rfl rfl [] rfl (Nat.le_of_ble_eq_true rfl) ⟨Nat.le_of_ble_eq_true rfl, Nat.le_of_ble_eq_true rfl⟩ dX7_load_23 26 0 0 rfl ⟨rfl, rfl⟩ ?_
    refine vv_if_ne C 35 29 dX7_load_26 (by decide) rfl (fun hc => ?_) (fun hc => ?_)
    · replace h := ite_f hc h
      refine vv_aload_n C dX7_load_35 rfl 0 rfl 36 rfl ?_
      refine vv_iload_n C dX7_load_36 rfl 1 rfl 37 rfl ?_
      obtain ⟨r3, hr3, h⟩ := bnd_s h
      refine vv_callVi C (fun l => mt_X7_floats l D c M 0 M_waters M_windX M_windY M_barrels M_crew M_table a1 r3 hr3) gX7_load_X7_floats rfl rfl rfl yd_X7_floats ⟨Nat.le_of_ble_eq_true rfl, Nat.le_of_ble_eq_true rfl⟩ [0, 1] rfl (by decide) 0 rfl rfl (wX7_load c M 0 M_waters M_windX M_windY M_barrels M_crew M_table) [(true, 0), (true, 1)] rfl (by decide) rfl rfl [] rfl (Nat.le_of_ble_eq_true rfl) ⟨Nat.le_of_ble_eq_true rfl, Nat.le_of_ble_eq_true rfl⟩ dX7_load_37 40 0 0 rfl ⟨rfl, rfl⟩ ?_
      refine vv_if_ne C 49 43 dX7_load_40 (by decide) rfl (fun hc => ?_) (fun hc => ?_)
      · replace h := ite_f hc h
        refine vv_aload_n C dX7_load_49 rfl 0 rfl 50 rfl ?_
        refine vv_iload_n C dX7_load_50 rfl 1 rfl 51 rfl ?_
        refine vv_iconst C (v := 1) dX7_load_51 (by decide) 52 rfl ?_
        obtain ⟨r4, hr4, h⟩ := bnd_s h
        refine vv_callVi C (fun l => mt_X7_ba l D c M 0 M_waters M_windX M_windY M_barrels M_crew M_table a1 1 r4 hr4) gX7_load_X7_ba rfl rfl rfl yd_X7_ba ⟨Nat.le_of_ble_eq_true rfl, Nat.le_of_ble_eq_true rfl⟩ [0, 1] rfl (by decide) 0 rfl rfl (wX7_load c M 0 M_waters M_windX M_windY M_barrels M_crew M_table) [(true, 0), (true, 1)] rfl (by decide) rfl rfl [] rfl (Nat.le_of_ble_eq_true rfl) ⟨Nat.le_of_ble_eq_true rfl, Nat.le_of_ble_eq_true rfl⟩ dX7_load_52 55 0 0 rfl ⟨rfl, rfl⟩ ?_
        refine vv_istore_n C [(3, .int r4), (0, .ref (M 0)), (1, .int a1), (2, .int a2)] dX7_load_55 rfl (by decide) rfl 56 rfl ?_
        refine vv_aload_n C dX7_load_56 rfl 1 rfl 57 rfl ?_
        refine vv_iload_n C dX7_load_57 rfl 2 rfl 58 rfl ?_
        refine vv_iconst C (v := 1) dX7_load_58 (by decide) 59 rfl ?_
        refine vv_iload_n C dX7_load_59 rfl 3 rfl 60 rfl ?_
        obtain ⟨r5, hr5, h⟩ := bnd_s h
        refine vv_callVv C (fun l => mt_X7_set l D c M 0 M_waters M_windX M_windY M_barrels M_crew M_table a1 1 a2 r5 hr5) gX7_load_X7_set rfl rfl rfl yd_X7_set ⟨Nat.le_of_ble_eq_true rfl, Nat.le_of_ble_eq_true rfl⟩ [0, 1] rfl (by decide) 0 rfl rfl (wX7_load c M 0 M_waters M_windX M_windY M_barrels M_crew r5) [(true, 0), (true, 1)] rfl (by decide) rfl rfl [] rfl (Nat.le_of_ble_eq_true rfl) ⟨Nat.le_of_ble_eq_true rfl, Nat.le_of_ble_eq_true rfl⟩ dX7_load_60 63 0 0 rfl ⟨rfl, rfl⟩ ?_
        refine vv_iload_n C dX7_load_63 rfl 0 rfl 64 rfl ?_
        obtain rfl := Option.some.inj h
        exact ret _ _ dX7_load_64
      · replace h := ite_t hc h
        refine vv_aload_n C dX7_load_43 rfl 0 rfl 44 rfl ?_
        refine vv_iconst C (v := 3) dX7_load_44 (by decide) 45 rfl ?_
        obtain ⟨r6, hr6, h⟩ := bnd_s h
        refine vv_callVi C (fun l => mt_X7_fail l D c M 0 M_waters M_windX M_windY M_barrels M_crew 3 r6 hr6) gX7_load_X7_fail rfl rfl rfl yd_X7_fail ⟨Nat.le_of_ble_eq_true rfl, Nat.le_of_ble_eq_true rfl⟩ [0] rfl (by decide) 0 rfl rfl (wX7_load c M r6.2 M_waters M_windX M_windY M_barrels M_crew M_table) [(true, 0), (false, 1)] rfl (by decide) rfl rfl [] rfl (Nat.le_of_ble_eq_true rfl) ⟨Nat.le_of_ble_eq_true rfl, Nat.le_of_ble_eq_true rfl⟩ dX7_load_45 48 0 0 rfl ⟨rfl, rfl⟩ ?_
        obtain rfl := Option.some.inj h
        exact ret _ _ dX7_load_48
    · replace h := ite_t hc h
      refine vv_aload_n C dX7_load_29 rfl 0 rfl 30 rfl ?_
      refine vv_iconst C (v := 2) dX7_load_30 (by decide) 31 rfl ?_
      obtain ⟨r7, hr7, h⟩ := bnd_s h
      refine vv_callVi C (fun l => mt_X7_fail l D c M 0 M_waters M_windX M_windY M_barrels M_crew 2 r7 hr7) gX7_load_X7_fail rfl rfl rfl yd_X7_fail ⟨Nat.le_of_ble_eq_true rfl, Nat.le_of_ble_eq_true rfl⟩ [0] rfl (by decide) 0 rfl rfl (wX7_load c M r7.2 M_waters M_windX M_windY M_barrels M_crew M_table) [(true, 0), (false, 1)] rfl (by decide) rfl rfl [] rfl (Nat.le_of_ble_eq_true rfl) ⟨Nat.le_of_ble_eq_true rfl, Nat.le_of_ble_eq_true rfl⟩ dX7_load_31 34 0 0 rfl ⟨rfl, rfl⟩ ?_
      obtain rfl := Option.some.inj h
      exact ret _ _ dX7_load_34
  · replace h := ite_t hc h
    refine vv_aload_n C dX7_load_13 rfl 0 rfl 14 rfl ?_
    refine vv_iconst C (v := 1) dX7_load_14 (by decide) 15 rfl ?_
    obtain ⟨r8, hr8, h⟩ := bnd_s h
    refine vv_callVi C (fun l => mt_X7_fail l D c M 0 M_waters M_windX M_windY M_barrels M_crew 1 r8 hr8) gX7_load_X7_fail rfl rfl rfl yd_X7_fail ⟨Nat.le_of_ble_eq_true rfl, Nat.le_of_ble_eq_true rfl⟩ [0] rfl (by decide) 0 rfl rfl (wX7_load c M r8.2 M_waters M_windX M_windY M_barrels M_crew M_table) [(true, 0), (false, 1)] rfl (by decide) rfl rfl [] rfl (Nat.le_of_ble_eq_true rfl) ⟨Nat.le_of_ble_eq_true rfl, Nat.le_of_ble_eq_true rfl⟩ dX7_load_15 18 0 0 rfl ⟨rfl, rfl⟩ ?_
    obtain rfl := Option.some.inj h
    exact ret _ _ dX7_load_18
abbrev wX7_pass (c : Nat → ClassId) (M : Nat → Nat) (M_thrown : Int32) (M_waters : Int32) (M_windX : Int32) (M_windY : Int32) (M_barrels : Int32) (M_crew : Int32) (M_waterTable : Nat → Int32) (M_fixed : Nat → Int32) (M_table : Nat → Int32) (M_strength : Nat → Int32) (M_wear : Nat → Int32) (M_people : Nat → Int32) (M_numbers : Nat → Int32) (M_pieces : Nat → Int32) : va_W := [(M 0, .inr (7, [.int M_thrown, .int M_waters, .ref (M 1), .int M_windX, .int M_windY, .int M_barrels, .ref (M 2), .int M_crew, .ref (M 3), .ref (M 4), .ref (M 5), .ref (M 6), .ref (M 7), .ref (M 8), .ref (M 9), .ref (M 10), .ref (M 11), .ref (M 12)])), aI c (M 1) 56 M_waterTable, aI c (M 2) 72 M_fixed, aI c (M 3) 120 M_table, aI c (M 4) 576 M_strength, aI c (M 5) 576 M_wear, aI c (M 6) 16 M_people, aI c (M 7) 3 M_numbers, aI c (M 8) 24 M_pieces]
abbrev rmX7_pass : Room := { frames := 5, cells := 0, slots := 0, locals := 119 }
theorem yd_X7_pass : yX7_pass.cls = RX7 ∧ yX7_pass.cls ≠ "java/lang/invoke/MethodHandle" ∧ yX7_pass.cls ≠ "java/lang/invoke/VarHandle" ∧ (parseMethodDescriptor yX7_pass.desc).map (fun d => d.parameters.length) = some 1 := by decide +kernel
theorem kwX7_pass_1 : Cond.fieldLink RX7 47 "BarrelRaftModel" "thrown" "I" ∈ wsX7_pass := List.mem_of_getElem? (i := 1) rfl
set_option maxRecDepth 20000 in
theorem kinX7_pass_X7 : ∀ w ∈ u_ws RX7 TX7 18, w ∈ wsX7_pass := by decide +kernel
def jX7_pass_L25 (M_waters : Int32) (M_windX : Int32) (M_windY : Int32) (M_barrels : Int32) (M_crew : Int32) (M_waterTable : Nat → Int32) (M_fixed : Nat → Int32) (u1 : Int32) (n : Nat) (M_table_25 : Nat → Int32) (M_strength_25 : Nat → Int32) (M_wear_25 : Nat → Int32) (M_people_25 : Nat → Int32) (M_numbers_25 : Nat → Int32) (M_pieces_25 : Nat → Int32) (v2_25 : Int32) (v3_25 : Int32) : Option ((Nat → Int32) × (Nat → Int32) × (Nat → Int32) × (Nat → Int32) × (Nat → Int32) × (Nat → Int32) × Int32) :=
  match n with
  | 0 => none
  | n + 1 => (if u1 ≤ v3_25 then some (M_table_25, M_strength_25, M_wear_25, M_people_25, M_numbers_25, M_pieces_25, v2_25) else bnd (jX7_hourOn M_waters M_windX M_windY M_barrels M_crew M_waterTable M_fixed M_table_25 M_strength_25 M_wear_25 M_people_25 M_numbers_25 M_pieces_25) (fun r2 => jX7_pass_L25 M_waters M_windX M_windY M_barrels M_crew M_waterTable M_fixed u1 n r2.2.1 r2.2.2.1 r2.2.2.2.1 r2.2.2.2.2.1 r2.2.2.2.2.2.1 r2.2.2.2.2.2.2 (v2_25 + r2.1) (v3_25 + 1)))
def jX7_pass (M_thrown : Int32) (M_waters : Int32) (M_windX : Int32) (M_windY : Int32) (M_barrels : Int32) (M_crew : Int32) (M_waterTable : Nat → Int32) (M_fixed : Nat → Int32) (M_table : Nat → Int32) (M_strength : Nat → Int32) (M_wear : Nat → Int32) (M_people : Nat → Int32) (M_numbers : Nat → Int32) (M_pieces : Nat → Int32) (a1 : Int32) : Option (Int32 × Int32 × (Nat → Int32) × (Nat → Int32) × (Nat → Int32) × (Nat → Int32) × (Nat → Int32) × (Nat → Int32)) :=
  bnd (jX7_isIn a1 1 100) (fun r1 => (if r1 = 0 then bnd (jX7_fail 0 1) (fun r4 => some (r4.1, r4.2, M_table, M_strength, M_wear, M_people, M_numbers, M_pieces)) else bnd (jX7_pass_L25 M_waters M_windX M_windY M_barrels M_crew M_waterTable M_fixed a1 FU M_table M_strength M_wear M_people M_numbers M_pieces 0 0) (fun r3 => some (r3.2.2.2.2.2.2, 0, r3.1, r3.2.1, r3.2.2.1, r3.2.2.2.1, r3.2.2.2.2.1, r3.2.2.2.2.2.1))))
set_option maxHeartbeats 4000000 in
set_option maxRecDepth 100000 in
theorem mt_X7_pass (l : Launch) (D : va_G) (c : Nat → ClassId) (M : Nat → Nat) (M_thrown : Int32) (M_waters : Int32) (M_windX : Int32) (M_windY : Int32) (M_barrels : Int32) (M_crew : Int32) (M_waterTable : Nat → Int32) (M_fixed : Nat → Int32) (M_table : Nat → Int32) (M_strength : Nat → Int32) (M_wear : Nat → Int32) (M_people : Nat → Int32) (M_numbers : Nat → Int32) (M_pieces : Nat → Int32) (a1 : Int32) (q0 : Int32 × Int32 × (Nat → Int32) × (Nat → Int32) × (Nat → Int32) × (Nat → Int32) × (Nat → Int32) × (Nat → Int32)) (h : jX7_pass M_thrown M_waters M_windX M_windY M_barrels M_crew M_waterTable M_fixed M_table M_strength M_wear M_people M_numbers M_pieces a1 = some q0) : DTi l yX7_pass wsX7_pass rmX7_pass D c (wX7_pass c M M_thrown M_waters M_windX M_windY M_barrels M_crew M_waterTable M_fixed M_table M_strength M_wear M_people M_numbers M_pieces) [.ref (M 0), .int a1] q0.1 (wX7_pass c M q0.2.1 M_waters M_windX M_windY M_barrels M_crew M_waterTable M_fixed q0.2.2.1 q0.2.2.2.1 q0.2.2.2.2.1 q0.2.2.2.2.2.1 q0.2.2.2.2.2.2.1 q0.2.2.2.2.2.2.2) 0 0 := by
  refine DTi_of (cc := cX7_pass) (nL := 4) RX7 rfl (by decide) rfl (Nat.le_of_ble_eq_true rfl) (fun g C ret => ?_)
  unfold jX7_pass at h
  refine vv_lv [0, 1] [(0, .ref (M 0)), (1, .int a1)] rfl ?_
  refine vv_aload_n C dX7_pass_0 rfl 0 rfl 1 rfl ?_
  refine vv_iconst C (v := 0) dX7_pass_1 (by decide) 2 rfl ?_
  refine vv_put C (q0 := 0) (ci := 7) (k := 0) (ty := .int) (wX7_pass c M 0 M_waters M_windX M_windY M_barrels M_crew M_waterTable M_fixed M_table M_strength M_wear M_people M_numbers M_pieces) tyX7 tyX7_ok nmX7 kinX7_pass_X7 rfl rfl (by decide) kwX7_pass_1 rfl rfl rfl rfl rfl (Nat.le_of_ble_eq_true rfl) rfl dX7_pass_2 5 rfl ?_
  refine vv_iload_n C dX7_pass_5 rfl 1 rfl 6 rfl ?_
  refine vv_iconst C (v := 1) dX7_pass_6 (by decide) 7 rfl ?_
  refine vv_bipush C (v := 100) dX7_pass_7 (by decide) 9 rfl ?_
  obtain ⟨r1, hr1, h⟩ := bnd_s h
  refine vv_callSi C (fun l => mt_X7_isIn l D c a1 1 100 r1 hr1) gX7_pass_X7_isIn rfl rfl rfl yd_X7_isIn ⟨Nat.le_of_ble_eq_true rfl, Nat.le_of_ble_eq_true rfl⟩ [] rfl (by decide) (wX7_pass c M 0 M_waters M_windX M_windY M_barrels M_crew M_waterTable M_fixed M_table M_strength M_wear M_people M_numbers M_pieces) [(false, 0), (false, 1), (false, 2), (false, 3), (false, 4), (false, 5), (false, 6), (false, 7), (false, 8)] rfl (by decide) rfl rfl [] rfl (Nat.le_of_ble_eq_true rfl) ⟨Nat.le_of_ble_eq_true rfl, Nat.le_of_ble_eq_true rfl⟩ dX7_pass_9 12 0 0 rfl ⟨rfl, rfl⟩ ?_
  refine vv_if_ne C 21 15 dX7_pass_12 (by decide) rfl (fun hc => ?_) (fun hc => ?_)
  · replace h := ite_f hc h
    refine vv_iconst C (v := 0) dX7_pass_21 (by decide) 22 rfl ?_
    refine vv_istore_n C [(2, .int 0), (0, .ref (M 0)), (1, .int a1)] dX7_pass_22 rfl (by decide) rfl 23 rfl ?_
    refine vv_iconst C (v := 0) dX7_pass_23 (by decide) 24 rfl ?_
    refine vv_istore_n C [(3, .int 0), (2, .int 0), (0, .ref (M 0)), (1, .int a1)] dX7_pass_24 rfl (by decide) rfl 25 rfl ?_
    refine vv_lv [2, 3, 1, 0] [(0, .ref (M 0)), (1, .int a1), (2, .int 0), (3, .int 0)] rfl ?_
    have L25 : ∀ (n : Nat) (M_table_25 : Nat → Int32) (M_strength_25 : Nat → Int32) (M_wear_25 : Nat → Int32) (M_people_25 : Nat → Int32) (M_numbers_25 : Nat → Int32) (M_pieces_25 : Nat → Int32) (v2_25 : Int32) (v3_25 : Int32) (q25 : (Nat → Int32) × (Nat → Int32) × (Nat → Int32) × (Nat → Int32) × (Nat → Int32) × (Nat → Int32) × Int32), jX7_pass_L25 M_waters M_windX M_windY M_barrels M_crew M_waterTable M_fixed a1 n M_table_25 M_strength_25 M_wear_25 M_people_25 M_numbers_25 M_pieces_25 v2_25 v3_25 = some q25 → (VV g D 4 0 0 (wX7_pass c M 0 M_waters M_windX M_windY M_barrels M_crew M_waterTable M_fixed q25.1 q25.2.1 q25.2.2.1 q25.2.2.2.1 q25.2.2.2.2.1 q25.2.2.2.2.2.1) [(2, .int q25.2.2.2.2.2.2)] 43 []) → VV g D 4 0 0 (wX7_pass c M 0 M_waters M_windX M_windY M_barrels M_crew M_waterTable M_fixed M_table_25 M_strength_25 M_wear_25 M_people_25 M_numbers_25 M_pieces_25) [(0, .ref (M 0)), (1, .int a1), (2, .int v2_25), (3, .int v3_25)] 25 [] := by
      intro n
      induction n with
      | zero =>
        intro M_table_25 M_strength_25 M_wear_25 M_people_25 M_numbers_25 M_pieces_25 v2_25 v3_25 q25 h _
        rw [jX7_pass_L25] at h
        cases h
      | succ n ih25 =>
        intro M_table_25 M_strength_25 M_wear_25 M_people_25 M_numbers_25 M_pieces_25 v2_25 v3_25 q25 h kk25
        rw [jX7_pass_L25] at h
        refine vv_iload_n C dX7_pass_25 rfl 3 rfl 26 rfl ?_
        refine vv_iload_n C dX7_pass_26 rfl 1 rfl 27 rfl ?_
        refine vv_icmp_ge C 43 30 dX7_pass_27 (by decide) rfl (fun hc => ?_) (fun hc => ?_)
        · replace h := ite_t hc h
          refine vv_lv [2] [(2, .int v2_25)] rfl ?_
          obtain rfl := Option.some.inj h
          exact kk25
        · replace h := ite_f hc h
          refine vv_iload_n C dX7_pass_30 rfl 2 rfl 31 rfl ?_
          refine vv_aload_n C dX7_pass_31 rfl 0 rfl 32 rfl ?_
          obtain ⟨r2, hr2, h⟩ := bnd_s h
          refine vv_callVi C (fun l => mt_X7_hourOn l D c M 0 M_waters M_windX M_windY M_barrels M_crew M_waterTable M_fixed M_table_25 M_strength_25 M_wear_25 M_people_25 M_numbers_25 M_pieces_25 r2 hr2) gX7_pass_X7_hourOn rfl rfl rfl yd_X7_hourOn ⟨Nat.le_of_ble_eq_true rfl, Nat.le_of_ble_eq_true rfl⟩ [0, 1, 2, 3, 4, 5, 6, 7, 8] rfl (by decide) 0 rfl rfl (wX7_pass c M 0 M_waters M_windX M_windY M_barrels M_crew M_waterTable M_fixed r2.2.1 r2.2.2.1 r2.2.2.2.1 r2.2.2.2.2.1 r2.2.2.2.2.2.1 r2.2.2.2.2.2.2) [(true, 0), (true, 1), (true, 2), (true, 3), (true, 4), (true, 5), (true, 6), (true, 7), (true, 8)] rfl (by decide) rfl rfl [.int v2_25] rfl (Nat.le_of_ble_eq_true rfl) ⟨Nat.le_of_ble_eq_true rfl, Nat.le_of_ble_eq_true rfl⟩ dX7_pass_32 35 0 0 rfl ⟨rfl, rfl⟩ ?_
          refine vv_iadd C dX7_pass_35 36 rfl ?_
          refine vv_istore_n C [(2, .int (v2_25 + r2.1)), (0, .ref (M 0)), (1, .int a1), (3, .int v3_25)] dX7_pass_36 rfl (by decide) rfl 37 rfl ?_
          refine vv_iinc C (k := 3) [(3, .int (v3_25 + 1)), (2, .int (v2_25 + r2.1)), (0, .ref (M 0)), (1, .int a1)] dX7_pass_37 rfl rfl (by decide) rfl 40 rfl ?_
          refine vv_goto C 25 dX7_pass_40 (by decide) ?_
          refine vv_lv [2, 3, 1, 0] [(0, .ref (M 0)), (1, .int a1), (2, .int (v2_25 + r2.1)), (3, .int (v3_25 + 1))] rfl ?_
          exact ih25 r2.2.1 r2.2.2.1 r2.2.2.2.1 r2.2.2.2.2.1 r2.2.2.2.2.2.1 r2.2.2.2.2.2.2 (v2_25 + r2.1) (v3_25 + 1) _ h kk25
    obtain ⟨r3, hr3, h⟩ := bnd_s h
    refine L25 FU M_table M_strength M_wear M_people M_numbers M_pieces 0 0 r3 hr3 ?_
    refine vv_iload_n C dX7_pass_43 rfl 0 rfl 44 rfl ?_
    obtain rfl := Option.some.inj h
    exact ret _ _ dX7_pass_44
  · replace h := ite_t hc h
    refine vv_aload_n C dX7_pass_15 rfl 0 rfl 16 rfl ?_
    refine vv_iconst C (v := 1) dX7_pass_16 (by decide) 17 rfl ?_
    obtain ⟨r4, hr4, h⟩ := bnd_s h
    refine vv_callVi C (fun l => mt_X7_fail l D c M 0 M_waters M_windX M_windY M_barrels M_crew 1 r4 hr4) gX7_pass_X7_fail rfl rfl rfl yd_X7_fail ⟨Nat.le_of_ble_eq_true rfl, Nat.le_of_ble_eq_true rfl⟩ [0] rfl (by decide) 0 rfl rfl (wX7_pass c M r4.2 M_waters M_windX M_windY M_barrels M_crew M_waterTable M_fixed M_table M_strength M_wear M_people M_numbers M_pieces) [(true, 0), (false, 1), (false, 2), (false, 3), (false, 4), (false, 5), (false, 6), (false, 7), (false, 8)] rfl (by decide) rfl rfl [] rfl (Nat.le_of_ble_eq_true rfl) ⟨Nat.le_of_ble_eq_true rfl, Nat.le_of_ble_eq_true rfl⟩ dX7_pass_17 20 0 0 rfl ⟨rfl, rfl⟩ ?_
    obtain rfl := Option.some.inj h
    exact ret _ _ dX7_pass_20
abbrev wX7_piece (c : Nat → ClassId) (M : Nat → Nat) (M_thrown : Int32) (M_waters : Int32) (M_windX : Int32) (M_windY : Int32) (M_barrels : Int32) (M_crew : Int32) (M_fixed : Nat → Int32) (M_table : Nat → Int32) (M_strength : Nat → Int32) (M_wear : Nat → Int32) (M_people : Nat → Int32) (M_pieces : Nat → Int32) (M_is : Nat → Int32) : va_W := [(M 0, .inr (7, [.int M_thrown, .int M_waters, .ref (M 1), .int M_windX, .int M_windY, .int M_barrels, .ref (M 2), .int M_crew, .ref (M 3), .ref (M 4), .ref (M 5), .ref (M 6), .ref (M 7), .ref (M 8), .ref (M 9), .ref (M 10), .ref (M 11), .ref (M 12)])), aI c (M 2) 72 M_fixed, aI c (M 3) 120 M_table, aI c (M 4) 576 M_strength, aI c (M 5) 576 M_wear, aI c (M 6) 16 M_people, aI c (M 8) 24 M_pieces, aZ c (M 12) 24 M_is]
abbrev rmX7_piece : Room := { frames := 4, cells := 0, slots := 0, locals := 92 }
theorem yd_X7_piece : yX7_piece.cls = RX7 ∧ yX7_piece.cls ≠ "java/lang/invoke/MethodHandle" ∧ yX7_piece.cls ≠ "java/lang/invoke/VarHandle" ∧ (parseMethodDescriptor yX7_piece.desc).map (fun d => d.parameters.length) = some 2 := by decide +kernel
theorem kwX7_piece_1 : Cond.fieldLink RX7 47 "BarrelRaftModel" "thrown" "I" ∈ wsX7_piece := List.mem_of_getElem? (i := 1) rfl
set_option maxRecDepth 20000 in
theorem kinX7_piece_X7 : ∀ w ∈ u_ws RX7 TX7 18, w ∈ wsX7_piece := by decide +kernel
theorem kwX7_piece_2 : Cond.fieldLink RX7 31 "BarrelRaftModel" "pieces" "[I" ∈ wsX7_piece := List.mem_of_getElem? (i := 2) rfl
theorem kwX7_piece_3 : Cond.fieldLink RX7 51 "BarrelRaftModel" "barrels" "I" ∈ wsX7_piece := List.mem_of_getElem? (i := 3) rfl
def jX7_piece_L81 (M_barrels : Int32) (M_strength : Nat → Int32) (M_wear : Nat → Int32) (M_pieces : Nat → Int32) (u1 : Int32) (u4 : Int32) (n : Nat) (M_is_81 : Nat → Int32) (v3_81 : Int32) (v5_81 : Int32) : Option ((Nat → Int32) × Int32) :=
  match n with
  | 0 => none
  | n + 1 => (if M_barrels ≤ v5_81 then some (M_is_81, v3_81) else chk 24 u4 (chk 24 u1 ((if rd M_pieces u4 = rd M_pieces u1 then bnd (jX7_isTied M_strength u4 v5_81) (fun r5 => (if r5 = 0 then jX7_piece_L81 M_barrels M_strength M_wear M_pieces u1 u4 n M_is_81 v3_81 (v5_81 + 1) else bnd (jX7_pair u4 v5_81) (fun r6 => bnd (jX7_isReached M_barrels M_strength M_wear M_is_81 u4 v5_81 0 r6) (fun r7 => (if r7.1 = 0 then jX7_piece_L81 M_barrels M_strength M_wear M_pieces u1 u4 n r7.2 (v3_81 + 1) (v5_81 + 1) else jX7_piece_L81 M_barrels M_strength M_wear M_pieces u1 u4 n r7.2 v3_81 (v5_81 + 1)))))) else jX7_piece_L81 M_barrels M_strength M_wear M_pieces u1 u4 n M_is_81 v3_81 (v5_81 + 1)))))
def jX7_piece_L66 (M_barrels : Int32) (M_strength : Nat → Int32) (M_wear : Nat → Int32) (M_pieces : Nat → Int32) (u1 : Int32) (n : Nat) (M_is_66 : Nat → Int32) (v3_66 : Int32) (v4_66 : Int32) : Option ((Nat → Int32) × Int32) :=
  match n with
  | 0 => none
  | n + 1 => (if M_barrels ≤ v4_66 then some (M_is_66, v3_66) else bnd (jX7_piece_L81 M_barrels M_strength M_wear M_pieces u1 v4_66 FU M_is_66 v3_66 (v4_66 + 1)) (fun r8 => jX7_piece_L66 M_barrels M_strength M_wear M_pieces u1 n r8.1 r8.2 (v4_66 + 1)))
def jX7_piece (M_thrown : Int32) (M_barrels : Int32) (M_crew : Int32) (M_fixed : Nat → Int32) (M_table : Nat → Int32) (M_strength : Nat → Int32) (M_wear : Nat → Int32) (M_people : Nat → Int32) (M_pieces : Nat → Int32) (M_is : Nat → Int32) (a1 : Int32) (a2 : Int32) : Option (Int32 × Int32 × (Nat → Int32) × (Nat → Int32)) :=
  bnd (jX7_isBarrel M_barrels a1) (fun r1 => (if r1 = 0 then bnd (jX7_fail 0 1) (fun r2 => some (r2.1, r2.2, M_pieces, M_is)) else bnd (jX7_isIn a2 0 4) (fun r3 => (if r3 = 0 then bnd (jX7_fail 0 1) (fun r11 => some (r11.1, r11.2, M_pieces, M_is)) else bnd (jX7_name M_barrels M_table M_strength M_pieces) (fun r4 => chk 24 a1 ((if rd r4 a1 = (-1) then some (0, 0, r4, M_is) else (if 4 ≤ a2 then bnd (jX7_piece_L66 M_barrels M_strength M_wear r4 a1 FU M_is 0 0) (fun r9 => some (r9.2, 0, r4, r9.1)) else chk 24 a1 (bnd (jX7_sumIn M_barrels M_crew M_fixed M_table M_people r4 (rd r4 a1) a2) (fun r10 => some (r10, 0, r4, M_is)))))))))))
set_option maxHeartbeats 4000000 in
set_option maxRecDepth 100000 in
theorem mt_X7_piece (l : Launch) (D : va_G) (c : Nat → ClassId) (M : Nat → Nat) (M_thrown : Int32) (M_waters : Int32) (M_windX : Int32) (M_windY : Int32) (M_barrels : Int32) (M_crew : Int32) (M_fixed : Nat → Int32) (M_table : Nat → Int32) (M_strength : Nat → Int32) (M_wear : Nat → Int32) (M_people : Nat → Int32) (M_pieces : Nat → Int32) (M_is : Nat → Int32) (a1 : Int32) (a2 : Int32) (q0 : Int32 × Int32 × (Nat → Int32) × (Nat → Int32)) (h : jX7_piece M_thrown M_barrels M_crew M_fixed M_table M_strength M_wear M_people M_pieces M_is a1 a2 = some q0) : DTi l yX7_piece wsX7_piece rmX7_piece D c (wX7_piece c M M_thrown M_waters M_windX M_windY M_barrels M_crew M_fixed M_table M_strength M_wear M_people M_pieces M_is) [.ref (M 0), .int a1, .int a2] q0.1 (wX7_piece c M q0.2.1 M_waters M_windX M_windY M_barrels M_crew M_fixed M_table M_strength M_wear M_people q0.2.2.1 q0.2.2.2) 0 0 := by
  refine DTi_of (cc := cX7_piece) (nL := 6) RX7 rfl (by decide) rfl (Nat.le_of_ble_eq_true rfl) (fun g C ret => ?_)
  unfold jX7_piece at h
  refine vv_lv [0, 1, 2] [(0, .ref (M 0)), (1, .int a1), (2, .int a2)] rfl ?_
  refine vv_aload_n C dX7_piece_0 rfl 0 rfl 1 rfl ?_
  refine vv_iconst C (v := 0) dX7_piece_1 (by decide) 2 rfl ?_
  refine vv_put C (q0 := 0) (ci := 7) (k := 0) (ty := .int) (wX7_piece c M 0 M_waters M_windX M_windY M_barrels M_crew M_fixed M_table M_strength M_wear M_people M_pieces M_is) tyX7 tyX7_ok nmX7 kinX7_piece_X7 rfl rfl (by decide) kwX7_piece_1 rfl rfl rfl rfl rfl (Nat.le_of_ble_eq_true rfl) rfl dX7_piece_2 5 rfl ?_
  refine vv_aload_n C dX7_piece_5 rfl 0 rfl 6 rfl ?_
  refine vv_iload_n C dX7_piece_6 rfl 1 rfl 7 rfl ?_
  obtain ⟨r1, hr1, h⟩ := bnd_s h
  refine vv_callVi C (fun l => mt_X7_isBarrel l D c M 0 M_waters M_windX M_windY M_barrels M_crew a1 r1 hr1) gX7_piece_X7_isBarrel rfl rfl rfl yd_X7_isBarrel ⟨Nat.le_of_ble_eq_true rfl, Nat.le_of_ble_eq_true rfl⟩ [0] rfl (by decide) 0 rfl rfl (wX7_piece c M 0 M_waters M_windX M_windY M_barrels M_crew M_fixed M_table M_strength M_wear M_people M_pieces M_is) [(true, 0), (false, 1), (false, 2), (false, 3), (false, 4), (false, 5), (false, 6), (false, 7)] rfl (by decide) rfl rfl [] rfl (Nat.le_of_ble_eq_true rfl) ⟨Nat.le_of_ble_eq_true rfl, Nat.le_of_ble_eq_true rfl⟩ dX7_piece_7 10 0 0 rfl ⟨rfl, rfl⟩ ?_
  refine vv_if_eq C 22 13 dX7_piece_10 (by decide) rfl (fun hc => ?_) (fun hc => ?_)
  · replace h := ite_t hc h
    refine vv_aload_n C dX7_piece_22 rfl 0 rfl 23 rfl ?_
    refine vv_iconst C (v := 1) dX7_piece_23 (by decide) 24 rfl ?_
    obtain ⟨r2, hr2, h⟩ := bnd_s h
    refine vv_callVi C (fun l => mt_X7_fail l D c M 0 M_waters M_windX M_windY M_barrels M_crew 1 r2 hr2) gX7_piece_X7_fail rfl rfl rfl yd_X7_fail ⟨Nat.le_of_ble_eq_true rfl, Nat.le_of_ble_eq_true rfl⟩ [0] rfl (by decide) 0 rfl rfl (wX7_piece c M r2.2 M_waters M_windX M_windY M_barrels M_crew M_fixed M_table M_strength M_wear M_people M_pieces M_is) [(true, 0), (false, 1), (false, 2), (false, 3), (false, 4), (false, 5), (false, 6), (false, 7)] rfl (by decide) rfl rfl [] rfl (Nat.le_of_ble_eq_true rfl) ⟨Nat.le_of_ble_eq_true rfl, Nat.le_of_ble_eq_true rfl⟩ dX7_piece_24 27 0 0 rfl ⟨rfl, rfl⟩ ?_
    obtain rfl := Option.some.inj h
    exact ret _ _ dX7_piece_27
  · replace h := ite_f hc h
    refine vv_iload_n C dX7_piece_13 rfl 2 rfl 14 rfl ?_
    refine vv_iconst C (v := 0) dX7_piece_14 (by decide) 15 rfl ?_
    refine vv_iconst C (v := 4) dX7_piece_15 (by decide) 16 rfl ?_
    obtain ⟨r3, hr3, h⟩ := bnd_s h
    refine vv_callSi C (fun l => mt_X7_isIn l D c a2 0 4 r3 hr3) gX7_piece_X7_isIn rfl rfl rfl yd_X7_isIn ⟨Nat.le_of_ble_eq_true rfl, Nat.le_of_ble_eq_true rfl⟩ [] rfl (by decide) (wX7_piece c M 0 M_waters M_windX M_windY M_barrels M_crew M_fixed M_table M_strength M_wear M_people M_pieces M_is) [(false, 0), (false, 1), (false, 2), (false, 3), (false, 4), (false, 5), (false, 6), (false, 7)] rfl (by decide) rfl rfl [] rfl (Nat.le_of_ble_eq_true rfl) ⟨Nat.le_of_ble_eq_true rfl, Nat.le_of_ble_eq_true rfl⟩ dX7_piece_16 19 0 0 rfl ⟨rfl, rfl⟩ ?_
    refine vv_if_ne C 28 22 dX7_piece_19 (by decide) rfl (fun hc => ?_) (fun hc => ?_)
    · replace h := ite_f hc h
      refine vv_aload_n C dX7_piece_28 rfl 0 rfl 29 rfl ?_
      obtain ⟨r4, hr4, h⟩ := bnd_s h
      refine vv_callVv C (fun l => mt_X7_name l D c M 0 M_waters M_windX M_windY M_barrels M_crew M_table M_strength M_pieces r4 hr4) gX7_piece_X7_name rfl rfl rfl yd_X7_name ⟨Nat.le_of_ble_eq_true rfl, Nat.le_of_ble_eq_true rfl⟩ [0, 2, 3, 6] rfl (by decide) 0 rfl rfl (wX7_piece c M 0 M_waters M_windX M_windY M_barrels M_crew M_fixed M_table M_strength M_wear M_people r4 M_is) [(true, 0), (false, 1), (true, 1), (true, 2), (false, 4), (false, 5), (true, 3), (false, 7)] rfl (by decide) rfl rfl [] rfl (Nat.le_of_ble_eq_true rfl) ⟨Nat.le_of_ble_eq_true rfl, Nat.le_of_ble_eq_true rfl⟩ dX7_piece_29 32 0 0 rfl ⟨rfl, rfl⟩ ?_
      refine vv_aload_n C dX7_piece_32 rfl 0 rfl 33 rfl ?_
      refine vv_get C (q0 := 0) (ci := 7) (k := 13) kinX7_piece_X7 rfl rfl (by decide) kwX7_piece_2 rfl rfl dX7_piece_33 36 rfl ?_
      refine vv_iload_n C dX7_piece_36 rfl 1 rfl 37 rfl ?_
      obtain ⟨hi, h⟩ := chk_s h
      refine vv_iald C (q0 := 6) rfl hi dX7_piece_37 38 rfl ?_
      refine vv_iconst C (v := (-1)) dX7_piece_38 (by decide) 39 rfl ?_
      refine vv_icmp_ne C 44 42 dX7_piece_39 (by decide) rfl (fun hc => ?_) (fun hc => ?_)
      · replace h := ite_f hc h
        refine vv_iload_n C dX7_piece_44 rfl 2 rfl 45 rfl ?_
        refine vv_iconst C (v := 4) dX7_piece_45 (by decide) 46 rfl ?_
        refine vv_icmp_ge C 61 49 dX7_piece_46 (by decide) rfl (fun hc => ?_) (fun hc => ?_)
        · replace h := ite_t hc h
          refine vv_iconst C (v := 0) dX7_piece_61 (by decide) 62 rfl ?_
          refine vv_istore_n C [(3, .int 0), (0, .ref (M 0)), (1, .int a1), (2, .int a2)] dX7_piece_62 rfl (by decide) rfl 63 rfl ?_
          refine vv_iconst C (v := 0) dX7_piece_63 (by decide) 64 rfl ?_
          refine vv_istore C [(4, .int 0), (3, .int 0), (0, .ref (M 0)), (1, .int a1), (2, .int a2)] dX7_piece_64 (by decide) rfl 66 rfl ?_
          refine vv_lv [2, 3, 1, 0] [(0, .ref (M 0)), (1, .int a1), (3, .int 0), (4, .int 0)] rfl ?_
          have L66 : ∀ (n : Nat) (M_is_66 : Nat → Int32) (v3_66 : Int32) (v4_66 : Int32) (q66 : (Nat → Int32) × Int32), jX7_piece_L66 M_barrels M_strength M_wear r4 a1 n M_is_66 v3_66 v4_66 = some q66 → (VV g D 6 0 0 (wX7_piece c M 0 M_waters M_windX M_windY M_barrels M_crew M_fixed M_table M_strength M_wear M_people r4 q66.1) [(3, .int q66.2)] 151 []) → VV g D 6 0 0 (wX7_piece c M 0 M_waters M_windX M_windY M_barrels M_crew M_fixed M_table M_strength M_wear M_people r4 M_is_66) [(0, .ref (M 0)), (1, .int a1), (3, .int v3_66), (4, .int v4_66)] 66 [] := by
            intro n
            induction n with
            | zero =>
              intro M_is_66 v3_66 v4_66 q66 h _
              rw [jX7_piece_L66] at h
              cases h
            | succ n ih66 =>
              intro M_is_66 v3_66 v4_66 q66 h kk66
              rw [jX7_piece_L66] at h
              refine vv_iload C dX7_piece_66 3 rfl 68 rfl ?_
              refine vv_aload_n C dX7_piece_68 rfl 0 rfl 69 rfl ?_
              refine vv_get C (q0 := 0) (ci := 7) (k := 5) kinX7_piece_X7 rfl rfl (by decide) kwX7_piece_3 rfl rfl dX7_piece_69 72 rfl ?_
              refine vv_icmp_ge C 151 75 dX7_piece_72 (by decide) rfl (fun hc => ?_) (fun hc => ?_)
              · replace h := ite_t hc h
                refine vv_lv [2] [(3, .int v3_66)] rfl ?_
                obtain rfl := Option.some.inj h
                exact kk66
              · replace h := ite_f hc h
                refine vv_iload C dX7_piece_75 3 rfl 77 rfl ?_
                refine vv_iconst C (v := 1) dX7_piece_77 (by decide) 78 rfl ?_
                refine vv_iadd C dX7_piece_78 79 rfl ?_
                refine vv_istore C [(5, .int (v4_66 + 1)), (0, .ref (M 0)), (1, .int a1), (3, .int v3_66), (4, .int v4_66)] dX7_piece_79 (by decide) rfl 81 rfl ?_
                refine vv_lv [1, 2, 3, 4, 0] [(0, .ref (M 0)), (1, .int a1), (3, .int v3_66), (4, .int v4_66), (5, .int (v4_66 + 1))] rfl ?_
                have L81 : ∀ (n : Nat) (M_is_81 : Nat → Int32) (v3_81 : Int32) (v5_81 : Int32) (q81 : (Nat → Int32) × Int32), jX7_piece_L81 M_barrels M_strength M_wear r4 a1 v4_66 n M_is_81 v3_81 v5_81 = some q81 → (VV g D 6 0 0 (wX7_piece c M 0 M_waters M_windX M_windY M_barrels M_crew M_fixed M_table M_strength M_wear M_people r4 q81.1) [(0, .ref (M 0)), (1, .int a1), (3, .int q81.2), (4, .int v4_66)] 145 []) → VV g D 6 0 0 (wX7_piece c M 0 M_waters M_windX M_windY M_barrels M_crew M_fixed M_table M_strength M_wear M_people r4 M_is_81) [(0, .ref (M 0)), (1, .int a1), (3, .int v3_81), (4, .int v4_66), (5, .int v5_81)] 81 [] := by
                  intro n
                  induction n with
                  | zero =>
                    intro M_is_81 v3_81 v5_81 q81 h _
                    rw [jX7_piece_L81] at h
                    cases h
                  | succ n ih81 =>
                    intro M_is_81 v3_81 v5_81 q81 h kk81
                    rw [jX7_piece_L81] at h
                    refine vv_iload C dX7_piece_81 4 rfl 83 rfl ?_
                    refine vv_aload_n C dX7_piece_83 rfl 0 rfl 84 rfl ?_
                    refine vv_get C (q0 := 0) (ci := 7) (k := 5) kinX7_piece_X7 rfl rfl (by decide) kwX7_piece_3 rfl rfl dX7_piece_84 87 rfl ?_
                    refine vv_icmp_ge C 145 90 dX7_piece_87 (by decide) rfl (fun hc => ?_) (fun hc => ?_)
                    · replace h := ite_t hc h
                      refine vv_lv [0, 1, 2, 3] [(0, .ref (M 0)), (1, .int a1), (3, .int v3_81), (4, .int v4_66)] rfl ?_
                      obtain rfl := Option.some.inj h
                      exact kk81
                    · replace h := ite_f hc h
                      refine vv_aload_n C dX7_piece_90 rfl 0 rfl 91 rfl ?_
                      refine vv_get C (q0 := 0) (ci := 7) (k := 13) kinX7_piece_X7 rfl rfl (by decide) kwX7_piece_2 rfl rfl dX7_piece_91 94 rfl ?_
                      refine vv_iload C dX7_piece_94 3 rfl 96 rfl ?_
                      obtain ⟨hi, h⟩ := chk_s h
                      refine vv_iald C (q0 := 6) rfl hi dX7_piece_96 97 rfl ?_
                      refine vv_aload_n C dX7_piece_97 rfl 0 rfl 98 rfl ?_
                      refine vv_get C (q0 := 0) (ci := 7) (k := 13) kinX7_piece_X7 rfl rfl (by decide) kwX7_piece_2 rfl rfl dX7_piece_98 101 rfl ?_
                      refine vv_iload_n C dX7_piece_101 rfl 1 rfl 102 rfl ?_
                      obtain ⟨hi, h⟩ := chk_s h
                      refine vv_iald C (q0 := 6) rfl hi dX7_piece_102 103 rfl ?_
                      refine vv_icmp_ne C 139 106 dX7_piece_103 (by decide) rfl (fun hc => ?_) (fun hc => ?_)
                      · replace h := ite_f hc h
                        refine vv_iinc C (k := 4) [(5, .int (v5_81 + 1)), (0, .ref (M 0)), (1, .int a1), (3, .int v3_81), (4, .int v4_66)] dX7_piece_139 rfl rfl (by decide) rfl 142 rfl ?_
                        refine vv_goto C 81 dX7_piece_142 (by decide) ?_
                        refine vv_lv [1, 2, 3, 4, 0] [(0, .ref (M 0)), (1, .int a1), (3, .int v3_81), (4, .int v4_66), (5, .int (v5_81 + 1))] rfl ?_
                        exact ih81 M_is_81 v3_81 (v5_81 + 1) _ h kk81
                      · replace h := ite_t hc h
                        refine vv_aload_n C dX7_piece_106 rfl 0 rfl 107 rfl ?_
                        refine vv_iload C dX7_piece_107 3 rfl 109 rfl ?_
                        refine vv_iload C dX7_piece_109 4 rfl 111 rfl ?_
                        obtain ⟨r5, hr5, h⟩ := bnd_s h
                        refine vv_callVi C (fun l => mt_X7_isTied l D c M 0 M_waters M_windX M_windY M_barrels M_crew M_strength v4_66 v5_81 r5 hr5) gX7_piece_X7_isTied rfl rfl rfl yd_X7_isTied ⟨Nat.le_of_ble_eq_true rfl, Nat.le_of_ble_eq_true rfl⟩ [0, 3] rfl (by decide) 0 rfl rfl (wX7_piece c M 0 M_waters M_windX M_windY M_barrels M_crew M_fixed M_table M_strength M_wear M_people r4 M_is_81) [(true, 0), (false, 1), (false, 2), (true, 1), (false, 4), (false, 5), (false, 6), (false, 7)] rfl (by decide) rfl rfl [] rfl (Nat.le_of_ble_eq_true rfl) ⟨Nat.le_of_ble_eq_true rfl, Nat.le_of_ble_eq_true rfl⟩ dX7_piece_111 114 0 0 rfl ⟨rfl, rfl⟩ ?_
                        refine vv_if_eq C 139 117 dX7_piece_114 (by decide) rfl (fun hc => ?_) (fun hc => ?_)
                        · replace h := ite_t hc h
                          refine vv_iinc C (k := 4) [(5, .int (v5_81 + 1)), (0, .ref (M 0)), (1, .int a1), (3, .int v3_81), (4, .int v4_66)] dX7_piece_139 rfl rfl (by decide) rfl 142 rfl ?_
                          refine vv_goto C 81 dX7_piece_142 (by decide) ?_
                          refine vv_lv [1, 2, 3, 4, 0] [(0, .ref (M 0)), (1, .int a1), (3, .int v3_81), (4, .int v4_66), (5, .int (v5_81 + 1))] rfl ?_
                          exact ih81 M_is_81 v3_81 (v5_81 + 1) _ h kk81
                        · replace h := ite_f hc h
                          refine vv_aload_n C dX7_piece_117 rfl 0 rfl 118 rfl ?_
                          refine vv_iload C dX7_piece_118 3 rfl 120 rfl ?_
                          refine vv_iload C dX7_piece_120 4 rfl 122 rfl ?_
                          refine vv_iconst C (v := 0) dX7_piece_122 (by decide) 123 rfl ?_
                          refine vv_iload C dX7_piece_123 3 rfl 125 rfl ?_
                          refine vv_iload C dX7_piece_125 4 rfl 127 rfl ?_
                          obtain ⟨r6, hr6, h⟩ := bnd_s h
                          refine vv_callSi C (fun l => mt_X7_pair l D c v4_66 v5_81 r6 hr6) gX7_piece_X7_pair rfl rfl rfl yd_X7_pair ⟨Nat.le_of_ble_eq_true rfl, Nat.le_of_ble_eq_true rfl⟩ [] rfl (by decide) (wX7_piece c M 0 M_waters M_windX M_windY M_barrels M_crew M_fixed M_table M_strength M_wear M_people r4 M_is_81) [(false, 0), (false, 1), (false, 2), (false, 3), (false, 4), (false, 5), (false, 6), (false, 7)] rfl (by decide) rfl rfl [.int 0, .int v5_81, .int v4_66, .ref (M 0)] rfl (Nat.le_of_ble_eq_true rfl) ⟨Nat.le_of_ble_eq_true rfl, Nat.le_of_ble_eq_true rfl⟩ dX7_piece_127 130 0 0 rfl ⟨rfl, rfl⟩ ?_
                          obtain ⟨r7, hr7, h⟩ := bnd_s h
                          refine vv_callVi C (fun l => mt_X7_isReached l D c M 0 M_waters M_windX M_windY M_barrels M_crew M_strength M_wear M_is_81 v4_66 v5_81 0 r6 r7 hr7) gX7_piece_X7_isReached rfl rfl rfl yd_X7_isReached ⟨Nat.le_of_ble_eq_true rfl, Nat.le_of_ble_eq_true rfl⟩ [0, 3, 4, 7] rfl (by decide) 0 rfl rfl (wX7_piece c M 0 M_waters M_windX M_windY M_barrels M_crew M_fixed M_table M_strength M_wear M_people r4 r7.2) [(true, 0), (false, 1), (false, 2), (true, 1), (true, 2), (false, 5), (false, 6), (true, 3)] rfl (by decide) rfl rfl [] rfl (Nat.le_of_ble_eq_true rfl) ⟨Nat.le_of_ble_eq_true rfl, Nat.le_of_ble_eq_true rfl⟩ dX7_piece_130 133 0 0 rfl ⟨rfl, rfl⟩ ?_
                          refine vv_if_ne C 139 136 dX7_piece_133 (by decide) rfl (fun hc => ?_) (fun hc => ?_)
                          · replace h := ite_f hc h
                            refine vv_iinc C (k := 4) [(5, .int (v5_81 + 1)), (0, .ref (M 0)), (1, .int a1), (3, .int v3_81), (4, .int v4_66)] dX7_piece_139 rfl rfl (by decide) rfl 142 rfl ?_
                            refine vv_goto C 81 dX7_piece_142 (by decide) ?_
                            refine vv_lv [1, 2, 3, 4, 0] [(0, .ref (M 0)), (1, .int a1), (3, .int v3_81), (4, .int v4_66), (5, .int (v5_81 + 1))] rfl ?_
                            exact ih81 r7.2 v3_81 (v5_81 + 1) _ h kk81
                          · replace h := ite_t hc h
                            refine vv_iinc C (k := 2) [(3, .int (v3_81 + 1)), (0, .ref (M 0)), (1, .int a1), (4, .int v4_66), (5, .int v5_81)] dX7_piece_136 rfl rfl (by decide) rfl 139 rfl ?_
                            refine vv_iinc C (k := 4) [(5, .int (v5_81 + 1)), (3, .int (v3_81 + 1)), (0, .ref (M 0)), (1, .int a1), (4, .int v4_66)] dX7_piece_139 rfl rfl (by decide) rfl 142 rfl ?_
                            refine vv_goto C 81 dX7_piece_142 (by decide) ?_
                            refine vv_lv [2, 3, 1, 4, 0] [(0, .ref (M 0)), (1, .int a1), (3, .int (v3_81 + 1)), (4, .int v4_66), (5, .int (v5_81 + 1))] rfl ?_
                            exact ih81 r7.2 (v3_81 + 1) (v5_81 + 1) _ h kk81
                obtain ⟨r8, hr8, h⟩ := bnd_s h
                refine L81 FU M_is_66 v3_66 (v4_66 + 1) r8 hr8 ?_
                refine vv_iinc C (k := 3) [(4, .int (v4_66 + 1)), (0, .ref (M 0)), (1, .int a1), (3, .int r8.2)] dX7_piece_145 rfl rfl (by decide) rfl 148 rfl ?_
                refine vv_goto C 66 dX7_piece_148 (by decide) ?_
                refine vv_lv [1, 2, 3, 0] [(0, .ref (M 0)), (1, .int a1), (3, .int r8.2), (4, .int (v4_66 + 1))] rfl ?_
                exact ih66 r8.1 r8.2 (v4_66 + 1) _ h kk66
          obtain ⟨r9, hr9, h⟩ := bnd_s h
          refine L66 FU M_is 0 0 r9 hr9 ?_
          refine vv_iload_n C dX7_piece_151 rfl 0 rfl 152 rfl ?_
          obtain rfl := Option.some.inj h
          exact ret _ _ dX7_piece_152
        · replace h := ite_f hc h
          refine vv_aload_n C dX7_piece_49 rfl 0 rfl 50 rfl ?_
          refine vv_aload_n C dX7_piece_50 rfl 0 rfl 51 rfl ?_
          refine vv_get C (q0 := 0) (ci := 7) (k := 13) kinX7_piece_X7 rfl rfl (by decide) kwX7_piece_2 rfl rfl dX7_piece_51 54 rfl ?_
          refine vv_iload_n C dX7_piece_54 rfl 1 rfl 55 rfl ?_
          obtain ⟨hi, h⟩ := chk_s h
          refine vv_iald C (q0 := 6) rfl hi dX7_piece_55 56 rfl ?_
          refine vv_iload_n C dX7_piece_56 rfl 2 rfl 57 rfl ?_
          obtain ⟨r10, hr10, h⟩ := bnd_s h
          refine vv_callVi C (fun l => mt_X7_sumIn l D c M 0 M_waters M_windX M_windY M_barrels M_crew M_fixed M_table M_people r4 (rd r4 a1) a2 r10 hr10) gX7_piece_X7_sumIn rfl rfl rfl yd_X7_sumIn ⟨Nat.le_of_ble_eq_true rfl, Nat.le_of_ble_eq_true rfl⟩ [0, 1, 2, 5, 6] rfl (by decide) 0 rfl rfl (wX7_piece c M 0 M_waters M_windX M_windY M_barrels M_crew M_fixed M_table M_strength M_wear M_people r4 M_is) [(true, 0), (true, 1), (true, 2), (false, 3), (false, 4), (true, 3), (true, 4), (false, 7)] rfl (by decide) rfl rfl [] rfl (Nat.le_of_ble_eq_true rfl) ⟨Nat.le_of_ble_eq_true rfl, Nat.le_of_ble_eq_true rfl⟩ dX7_piece_57 60 0 0 rfl ⟨rfl, rfl⟩ ?_
          obtain rfl := Option.some.inj h
          exact ret _ _ dX7_piece_60
      · replace h := ite_t hc h
        refine vv_iconst C (v := 0) dX7_piece_42 (by decide) 43 rfl ?_
        obtain rfl := Option.some.inj h
        exact ret _ _ dX7_piece_43
    · replace h := ite_t hc h
      refine vv_aload_n C dX7_piece_22 rfl 0 rfl 23 rfl ?_
      refine vv_iconst C (v := 1) dX7_piece_23 (by decide) 24 rfl ?_
      obtain ⟨r11, hr11, h⟩ := bnd_s h
      refine vv_callVi C (fun l => mt_X7_fail l D c M 0 M_waters M_windX M_windY M_barrels M_crew 1 r11 hr11) gX7_piece_X7_fail rfl rfl rfl yd_X7_fail ⟨Nat.le_of_ble_eq_true rfl, Nat.le_of_ble_eq_true rfl⟩ [0] rfl (by decide) 0 rfl rfl (wX7_piece c M r11.2 M_waters M_windX M_windY M_barrels M_crew M_fixed M_table M_strength M_wear M_people M_pieces M_is) [(true, 0), (false, 1), (false, 2), (false, 3), (false, 4), (false, 5), (false, 6), (false, 7)] rfl (by decide) rfl rfl [] rfl (Nat.le_of_ble_eq_true rfl) ⟨Nat.le_of_ble_eq_true rfl, Nat.le_of_ble_eq_true rfl⟩ dX7_piece_24 27 0 0 rfl ⟨rfl, rfl⟩ ?_
      obtain rfl := Option.some.inj h
      exact ret _ _ dX7_piece_27
abbrev wX7_sea (c : Nat → ClassId) (M : Nat → Nat) (M_thrown : Int32) (M_waters : Int32) (M_windX : Int32) (M_windY : Int32) (M_barrels : Int32) (M_crew : Int32) (M_waterTable : Nat → Int32) (M_table : Nat → Int32) : va_W := [(M 0, .inr (7, [.int M_thrown, .int M_waters, .ref (M 1), .int M_windX, .int M_windY, .int M_barrels, .ref (M 2), .int M_crew, .ref (M 3), .ref (M 4), .ref (M 5), .ref (M 6), .ref (M 7), .ref (M 8), .ref (M 9), .ref (M 10), .ref (M 11), .ref (M 12)])), aI c (M 1) 56 M_waterTable, aI c (M 3) 120 M_table]
abbrev rmX7_sea : Room := { frames := 3, cells := 0, slots := 0, locals := 69 }
theorem yd_X7_sea : yX7_sea.cls = RX7 ∧ yX7_sea.cls ≠ "java/lang/invoke/MethodHandle" ∧ yX7_sea.cls ≠ "java/lang/invoke/VarHandle" ∧ (parseMethodDescriptor yX7_sea.desc).map (fun d => d.parameters.length) = some 3 := by decide +kernel
theorem kwX7_sea_1 : Cond.fieldLink RX7 47 "BarrelRaftModel" "thrown" "I" ∈ wsX7_sea := List.mem_of_getElem? (i := 1) rfl
set_option maxRecDepth 20000 in
theorem kinX7_sea_X7 : ∀ w ∈ u_ws RX7 TX7 18, w ∈ wsX7_sea := by decide +kernel
theorem kwX7_sea_2 : Cond.fieldLink RX7 51 "BarrelRaftModel" "barrels" "I" ∈ wsX7_sea := List.mem_of_getElem? (i := 2) rfl
def jX7_sea_L73 (M_barrels : Int32) (M_table : Nat → Int32) (u1 : Int32) (u2 : Int32) (n : Nat) (v4_73 : Int32) (v5_73 : Int32) : Option (Int32) :=
  match n with
  | 0 => none
  | n + 1 => (if M_barrels ≤ v5_73 then some v4_73 else bnd (jX7_floats M_table v5_73) (fun r6 => (if r6 = 0 then jX7_sea_L73 M_barrels M_table u1 u2 n (v4_73 + 0) (v5_73 + 1) else bnd (jX7_ba M_table v5_73 3) (fun r7 => (if r7 = u1 then bnd (jX7_ba M_table v5_73 4) (fun r8 => (if r8 = u2 then jX7_sea_L73 M_barrels M_table u1 u2 n (v4_73 + 1) (v5_73 + 1) else jX7_sea_L73 M_barrels M_table u1 u2 n (v4_73 + 0) (v5_73 + 1))) else jX7_sea_L73 M_barrels M_table u1 u2 n (v4_73 + 0) (v5_73 + 1))))))
def jX7_sea (M_thrown : Int32) (M_waters : Int32) (M_barrels : Int32) (M_waterTable : Nat → Int32) (M_table : Nat → Int32) (a1 : Int32) (a2 : Int32) (a3 : Int32) : Option (Int32 × Int32) :=
  bnd (jX7_isIn a1 0 29) (fun r1 => (if r1 = 0 then bnd (jX7_fail 0 1) (fun r2 => some (r2.1, r2.2)) else bnd (jX7_isIn a2 0 19) (fun r3 => (if r3 = 0 then bnd (jX7_fail 0 1) (fun r4 => some (r4.1, r4.2)) else bnd (jX7_isIn a3 0 4) (fun r5 => (if r5 = 0 then bnd (jX7_fail 0 1) (fun r12 => some (r12.1, r12.2)) else (if 4 ≤ a3 then bnd (jX7_sea_L73 M_barrels M_table a1 a2 FU 0 0) (fun r9 => some (r9, 0)) else (if a3 = 3 then bnd (jX7_waterAt M_waters M_waterTable a1 a2) (fun r11 => some (r11, 0)) else bnd (jX7_seaTold M_waters M_waterTable a1 a2 a3) (fun r10 => some (r10, 0))))))))))
set_option maxHeartbeats 4000000 in
set_option maxRecDepth 100000 in
theorem mt_X7_sea (l : Launch) (D : va_G) (c : Nat → ClassId) (M : Nat → Nat) (M_thrown : Int32) (M_waters : Int32) (M_windX : Int32) (M_windY : Int32) (M_barrels : Int32) (M_crew : Int32) (M_waterTable : Nat → Int32) (M_table : Nat → Int32) (a1 : Int32) (a2 : Int32) (a3 : Int32) (q0 : Int32 × Int32) (h : jX7_sea M_thrown M_waters M_barrels M_waterTable M_table a1 a2 a3 = some q0) : DTi l yX7_sea wsX7_sea rmX7_sea D c (wX7_sea c M M_thrown M_waters M_windX M_windY M_barrels M_crew M_waterTable M_table) [.ref (M 0), .int a1, .int a2, .int a3] q0.1 (wX7_sea c M q0.2 M_waters M_windX M_windY M_barrels M_crew M_waterTable M_table) 0 0 := by
  refine DTi_of (cc := cX7_sea) (nL := 6) RX7 rfl (by decide) rfl (Nat.le_of_ble_eq_true rfl) (fun g C ret => ?_)
  unfold jX7_sea at h
  refine vv_lv [0, 1, 2, 3] [(0, .ref (M 0)), (1, .int a1), (2, .int a2), (3, .int a3)] rfl ?_
  refine vv_aload_n C dX7_sea_0 rfl 0 rfl 1 rfl ?_
  refine vv_iconst C (v := 0) dX7_sea_1 (by decide) 2 rfl ?_
  refine vv_put C (q0 := 0) (ci := 7) (k := 0) (ty := .int) (wX7_sea c M 0 M_waters M_windX M_windY M_barrels M_crew M_waterTable M_table) tyX7 tyX7_ok nmX7 kinX7_sea_X7 rfl rfl (by decide) kwX7_sea_1 rfl rfl rfl rfl rfl (Nat.le_of_ble_eq_true rfl) rfl dX7_sea_2 5 rfl ?_
  refine vv_iload_n C dX7_sea_5 rfl 1 rfl 6 rfl ?_
  refine vv_iconst C (v := 0) dX7_sea_6 (by decide) 7 rfl ?_
  refine vv_bipush C (v := 29) dX7_sea_7 (by decide) 9 rfl ?_
  obtain ⟨r1, hr1, h⟩ := bnd_s h
  refine vv_callSi C (fun l => mt_X7_isIn l D c a1 0 29 r1 hr1) gX7_sea_X7_isIn rfl rfl rfl yd_X7_isIn ⟨Nat.le_of_ble_eq_true rfl, Nat.le_of_ble_eq_true rfl⟩ [] rfl (by decide) (wX7_sea c M 0 M_waters M_windX M_windY M_barrels M_crew M_waterTable M_table) [(false, 0), (false, 1), (false, 2)] rfl (by decide) rfl rfl [] rfl (Nat.le_of_ble_eq_true rfl) ⟨Nat.le_of_ble_eq_true rfl, Nat.le_of_ble_eq_true rfl⟩ dX7_sea_9 12 0 0 rfl ⟨rfl, rfl⟩ ?_
  refine vv_if_eq C 34 15 dX7_sea_12 (by decide) rfl (fun hc => ?_) (fun hc => ?_)
  · replace h := ite_t hc h
    refine vv_aload_n C dX7_sea_34 rfl 0 rfl 35 rfl ?_
    refine vv_iconst C (v := 1) dX7_sea_35 (by decide) 36 rfl ?_
    obtain ⟨r2, hr2, h⟩ := bnd_s h
    refine vv_callVi C (fun l => mt_X7_fail l D c M 0 M_waters M_windX M_windY M_barrels M_crew 1 r2 hr2) gX7_sea_X7_fail rfl rfl rfl yd_X7_fail ⟨Nat.le_of_ble_eq_true rfl, Nat.le_of_ble_eq_true rfl⟩ [0] rfl (by decide) 0 rfl rfl (wX7_sea c M r2.2 M_waters M_windX M_windY M_barrels M_crew M_waterTable M_table) [(true, 0), (false, 1), (false, 2)] rfl (by decide) rfl rfl [] rfl (Nat.le_of_ble_eq_true rfl) ⟨Nat.le_of_ble_eq_true rfl, Nat.le_of_ble_eq_true rfl⟩ dX7_sea_36 39 0 0 rfl ⟨rfl, rfl⟩ ?_
    obtain rfl := Option.some.inj h
    exact ret _ _ dX7_sea_39
  · replace h := ite_f hc h
    refine vv_iload_n C dX7_sea_15 rfl 2 rfl 16 rfl ?_
    refine vv_iconst C (v := 0) dX7_sea_16 (by decide) 17 rfl ?_
    refine vv_bipush C (v := 19) dX7_sea_17 (by decide) 19 rfl ?_
    obtain ⟨r3, hr3, h⟩ := bnd_s h
    refine vv_callSi C (fun l => mt_X7_isIn l D c a2 0 19 r3 hr3) gX7_sea_X7_isIn rfl rfl rfl yd_X7_isIn ⟨Nat.le_of_ble_eq_true rfl, Nat.le_of_ble_eq_true rfl⟩ [] rfl (by decide) (wX7_sea c M 0 M_waters M_windX M_windY M_barrels M_crew M_waterTable M_table) [(false, 0), (false, 1), (false, 2)] rfl (by decide) rfl rfl [] rfl (Nat.le_of_ble_eq_true rfl) ⟨Nat.le_of_ble_eq_true rfl, Nat.le_of_ble_eq_true rfl⟩ dX7_sea_19 22 0 0 rfl ⟨rfl, rfl⟩ ?_
    refine vv_if_eq C 34 25 dX7_sea_22 (by decide) rfl (fun hc => ?_) (fun hc => ?_)
    · replace h := ite_t hc h
      refine vv_aload_n C dX7_sea_34 rfl 0 rfl 35 rfl ?_
      refine vv_iconst C (v := 1) dX7_sea_35 (by decide) 36 rfl ?_
      obtain ⟨r4, hr4, h⟩ := bnd_s h
      refine vv_callVi C (fun l => mt_X7_fail l D c M 0 M_waters M_windX M_windY M_barrels M_crew 1 r4 hr4) gX7_sea_X7_fail rfl rfl rfl yd_X7_fail ⟨Nat.le_of_ble_eq_true rfl, Nat.le_of_ble_eq_true rfl⟩ [0] rfl (by decide) 0 rfl rfl (wX7_sea c M r4.2 M_waters M_windX M_windY M_barrels M_crew M_waterTable M_table) [(true, 0), (false, 1), (false, 2)] rfl (by decide) rfl rfl [] rfl (Nat.le_of_ble_eq_true rfl) ⟨Nat.le_of_ble_eq_true rfl, Nat.le_of_ble_eq_true rfl⟩ dX7_sea_36 39 0 0 rfl ⟨rfl, rfl⟩ ?_
      obtain rfl := Option.some.inj h
      exact ret _ _ dX7_sea_39
    · replace h := ite_f hc h
      refine vv_iload_n C dX7_sea_25 rfl 3 rfl 26 rfl ?_
      refine vv_iconst C (v := 0) dX7_sea_26 (by decide) 27 rfl ?_
      refine vv_iconst C (v := 4) dX7_sea_27 (by decide) 28 rfl ?_
      obtain ⟨r5, hr5, h⟩ := bnd_s h
      refine vv_callSi C (fun l => mt_X7_isIn l D c a3 0 4 r5 hr5) gX7_sea_X7_isIn rfl rfl rfl yd_X7_isIn ⟨Nat.le_of_ble_eq_true rfl, Nat.le_of_ble_eq_true rfl⟩ [] rfl (by decide) (wX7_sea c M 0 M_waters M_windX M_windY M_barrels M_crew M_waterTable M_table) [(false, 0), (false, 1), (false, 2)] rfl (by decide) rfl rfl [] rfl (Nat.le_of_ble_eq_true rfl) ⟨Nat.le_of_ble_eq_true rfl, Nat.le_of_ble_eq_true rfl⟩ dX7_sea_28 31 0 0 rfl ⟨rfl, rfl⟩ ?_
      refine vv_if_ne C 40 34 dX7_sea_31 (by decide) rfl (fun hc => ?_) (fun hc => ?_)
      · replace h := ite_f hc h
        refine vv_iload_n C dX7_sea_40 rfl 3 rfl 41 rfl ?_
        refine vv_iconst C (v := 4) dX7_sea_41 (by decide) 42 rfl ?_
        refine vv_icmp_ge C 67 45 dX7_sea_42 (by decide) rfl (fun hc => ?_) (fun hc => ?_)
        · replace h := ite_t hc h
          refine vv_iconst C (v := 0) dX7_sea_67 (by decide) 68 rfl ?_
          refine vv_istore C [(4, .int 0), (0, .ref (M 0)), (1, .int a1), (2, .int a2), (3, .int a3)] dX7_sea_68 (by decide) rfl 70 rfl ?_
          refine vv_iconst C (v := 0) dX7_sea_70 (by decide) 71 rfl ?_
          refine vv_istore C [(5, .int 0), (4, .int 0), (0, .ref (M 0)), (1, .int a1), (2, .int a2), (3, .int a3)] dX7_sea_71 (by decide) rfl 73 rfl ?_
          refine vv_lv [2, 3, 4, 1, 0] [(0, .ref (M 0)), (1, .int a1), (2, .int a2), (4, .int 0), (5, .int 0)] rfl ?_
          have L73 : ∀ (n : Nat) (v4_73 : Int32) (v5_73 : Int32) (q73 : Int32), jX7_sea_L73 M_barrels M_table a1 a2 n v4_73 v5_73 = some q73 → (VV g D 6 0 0 (wX7_sea c M 0 M_waters M_windX M_windY M_barrels M_crew M_waterTable M_table) [(4, .int q73)] 129 []) → VV g D 6 0 0 (wX7_sea c M 0 M_waters M_windX M_windY M_barrels M_crew M_waterTable M_table) [(0, .ref (M 0)), (1, .int a1), (2, .int a2), (4, .int v4_73), (5, .int v5_73)] 73 [] := by
            intro n
            induction n with
            | zero =>
              intro v4_73 v5_73 q73 h _
              rw [jX7_sea_L73] at h
              cases h
            | succ n ih73 =>
              intro v4_73 v5_73 q73 h kk73
              rw [jX7_sea_L73] at h
              refine vv_iload C dX7_sea_73 4 rfl 75 rfl ?_
              refine vv_aload_n C dX7_sea_75 rfl 0 rfl 76 rfl ?_
              refine vv_get C (q0 := 0) (ci := 7) (k := 5) kinX7_sea_X7 rfl rfl (by decide) kwX7_sea_2 rfl rfl dX7_sea_76 79 rfl ?_
              refine vv_icmp_ge C 129 82 dX7_sea_79 (by decide) rfl (fun hc => ?_) (fun hc => ?_)
              · replace h := ite_t hc h
                refine vv_lv [3] [(4, .int v4_73)] rfl ?_
                obtain rfl := Option.some.inj h
                exact kk73
              · replace h := ite_f hc h
                refine vv_iload C dX7_sea_82 3 rfl 84 rfl ?_
                refine vv_aload_n C dX7_sea_84 rfl 0 rfl 85 rfl ?_
                refine vv_iload C dX7_sea_85 4 rfl 87 rfl ?_
                obtain ⟨r6, hr6, h⟩ := bnd_s h
                refine vv_callVi C (fun l => mt_X7_floats l D c M 0 M_waters M_windX M_windY M_barrels M_crew M_table v5_73 r6 hr6) gX7_sea_X7_floats rfl rfl rfl yd_X7_floats ⟨Nat.le_of_ble_eq_true rfl, Nat.le_of_ble_eq_true rfl⟩ [0, 2] rfl (by decide) 0 rfl rfl (wX7_sea c M 0 M_waters M_windX M_windY M_barrels M_crew M_waterTable M_table) [(true, 0), (false, 1), (true, 1)] rfl (by decide) rfl rfl [.int v4_73] rfl (Nat.le_of_ble_eq_true rfl) ⟨Nat.le_of_ble_eq_true rfl, Nat.le_of_ble_eq_true rfl⟩ dX7_sea_87 90 0 0 rfl ⟨rfl, rfl⟩ ?_
                refine vv_if_eq C 119 93 dX7_sea_90 (by decide) rfl (fun hc => ?_) (fun hc => ?_)
                · replace h := ite_t hc h
                  refine vv_iconst C (v := 0) dX7_sea_119 (by decide) 120 rfl ?_
                  refine vv_iadd C dX7_sea_120 121 rfl ?_
                  refine vv_istore C [(4, .int (v4_73 + 0)), (0, .ref (M 0)), (1, .int a1), (2, .int a2), (5, .int v5_73)] dX7_sea_121 (by decide) rfl 123 rfl ?_
                  refine vv_iinc C (k := 4) [(5, .int (v5_73 + 1)), (4, .int (v4_73 + 0)), (0, .ref (M 0)), (1, .int a1), (2, .int a2)] dX7_sea_123 rfl rfl (by decide) rfl 126 rfl ?_
                  refine vv_goto C 73 dX7_sea_126 (by decide) ?_
                  refine vv_lv [2, 3, 4, 1, 0] [(0, .ref (M 0)), (1, .int a1), (2, .int a2), (4, .int (v4_73 + 0)), (5, .int (v5_73 + 1))] rfl ?_
                  exact ih73 (v4_73 + 0) (v5_73 + 1) _ h kk73
                · replace h := ite_f hc h
                  refine vv_aload_n C dX7_sea_93 rfl 0 rfl 94 rfl ?_
                  refine vv_iload C dX7_sea_94 4 rfl 96 rfl ?_
                  refine vv_iconst C (v := 3) dX7_sea_96 (by decide) 97 rfl ?_
                  obtain ⟨r7, hr7, h⟩ := bnd_s h
                  refine vv_callVi C (fun l => mt_X7_ba l D c M 0 M_waters M_windX M_windY M_barrels M_crew M_table v5_73 3 r7 hr7) gX7_sea_X7_ba rfl rfl rfl yd_X7_ba ⟨Nat.le_of_ble_eq_true rfl, Nat.le_of_ble_eq_true rfl⟩ [0, 2] rfl (by decide) 0 rfl rfl (wX7_sea c M 0 M_waters M_windX M_windY M_barrels M_crew M_waterTable M_table) [(true, 0), (false, 1), (true, 1)] rfl (by decide) rfl rfl [.int v4_73] rfl (Nat.le_of_ble_eq_true rfl) ⟨Nat.le_of_ble_eq_true rfl, Nat.le_of_ble_eq_true rfl⟩ dX7_sea_97 100 0 0 rfl ⟨rfl, rfl⟩ ?_
                  refine vv_iload_n C dX7_sea_100 rfl 1 rfl 101 rfl ?_
                  refine vv_icmp_ne C 119 104 dX7_sea_101 (by decide) rfl (fun hc => ?_) (fun hc => ?_)
                  · replace h := ite_f hc h
                    refine vv_iconst C (v := 0) dX7_sea_119 (by decide) 120 rfl ?_
                    refine vv_iadd C dX7_sea_120 121 rfl ?_
                    refine vv_istore C [(4, .int (v4_73 + 0)), (0, .ref (M 0)), (1, .int a1), (2, .int a2), (5, .int v5_73)] dX7_sea_121 (by decide) rfl 123 rfl ?_
                    refine vv_iinc C (k := 4) [(5, .int (v5_73 + 1)), (4, .int (v4_73 + 0)), (0, .ref (M 0)), (1, .int a1), (2, .int a2)] dX7_sea_123 rfl rfl (by decide) rfl 126 rfl ?_
                    refine vv_goto C 73 dX7_sea_126 (by decide) ?_
                    refine vv_lv [2, 3, 4, 1, 0] [(0, .ref (M 0)), (1, .int a1), (2, .int a2), (4, .int (v4_73 + 0)), (5, .int (v5_73 + 1))] rfl ?_
                    exact ih73 (v4_73 + 0) (v5_73 + 1) _ h kk73
                  · replace h := ite_t hc h
                    refine vv_aload_n C dX7_sea_104 rfl 0 rfl 105 rfl ?_
                    refine vv_iload C dX7_sea_105 4 rfl 107 rfl ?_
                    refine vv_iconst C (v := 4) dX7_sea_107 (by decide) 108 rfl ?_
                    obtain ⟨r8, hr8, h⟩ := bnd_s h
                    refine vv_callVi C (fun l => mt_X7_ba l D c M 0 M_waters M_windX M_windY M_barrels M_crew M_table v5_73 4 r8 hr8) gX7_sea_X7_ba rfl rfl rfl yd_X7_ba ⟨Nat.le_of_ble_eq_true rfl, Nat.le_of_ble_eq_true rfl⟩ [0, 2] rfl (by decide) 0 rfl rfl (wX7_sea c M 0 M_waters M_windX M_windY M_barrels M_crew M_waterTable M_table) [(true, 0), (false, 1), (true, 1)] rfl (by decide) rfl rfl [.int v4_73] rfl (Nat.le_of_ble_eq_true rfl) ⟨Nat.le_of_ble_eq_true rfl, Nat.le_of_ble_eq_true rfl⟩ dX7_sea_108 111 0 0 rfl ⟨rfl, rfl⟩ ?_
                    refine vv_iload_n C dX7_sea_111 rfl 2 rfl 112 rfl ?_
                    refine vv_icmp_ne C 119 115 dX7_sea_112 (by decide) rfl (fun hc => ?_) (fun hc => ?_)
                    · replace h := ite_f hc h
                      refine vv_iconst C (v := 0) dX7_sea_119 (by decide) 120 rfl ?_
                      refine vv_iadd C dX7_sea_120 121 rfl ?_
                      refine vv_istore C [(4, .int (v4_73 + 0)), (0, .ref (M 0)), (1, .int a1), (2, .int a2), (5, .int v5_73)] dX7_sea_121 (by decide) rfl 123 rfl ?_
                      refine vv_iinc C (k := 4) [(5, .int (v5_73 + 1)), (4, .int (v4_73 + 0)), (0, .ref (M 0)), (1, .int a1), (2, .int a2)] dX7_sea_123 rfl rfl (by decide) rfl 126 rfl ?_
                      refine vv_goto C 73 dX7_sea_126 (by decide) ?_
                      refine vv_lv [2, 3, 4, 1, 0] [(0, .ref (M 0)), (1, .int a1), (2, .int a2), (4, .int (v4_73 + 0)), (5, .int (v5_73 + 1))] rfl ?_
                      exact ih73 (v4_73 + 0) (v5_73 + 1) _ h kk73
                    · replace h := ite_t hc h
                      refine vv_iconst C (v := 1) dX7_sea_115 (by decide) 116 rfl ?_
                      refine vv_goto C 120 dX7_sea_116 (by decide) ?_
                      refine vv_iadd C dX7_sea_120 121 rfl ?_
                      refine vv_istore C [(4, .int (v4_73 + 1)), (0, .ref (M 0)), (1, .int a1), (2, .int a2), (5, .int v5_73)] dX7_sea_121 (by decide) rfl 123 rfl ?_
                      refine vv_iinc C (k := 4) [(5, .int (v5_73 + 1)), (4, .int (v4_73 + 1)), (0, .ref (M 0)), (1, .int a1), (2, .int a2)] dX7_sea_123 rfl rfl (by decide) rfl 126 rfl ?_
                      refine vv_goto C 73 dX7_sea_126 (by decide) ?_
                      refine vv_lv [2, 3, 4, 1, 0] [(0, .ref (M 0)), (1, .int a1), (2, .int a2), (4, .int (v4_73 + 1)), (5, .int (v5_73 + 1))] rfl ?_
                      exact ih73 (v4_73 + 1) (v5_73 + 1) _ h kk73
          obtain ⟨r9, hr9, h⟩ := bnd_s h
          refine L73 FU 0 0 r9 hr9 ?_
          refine vv_iload C dX7_sea_129 0 rfl 131 rfl ?_
          obtain rfl := Option.some.inj h
          exact ret _ _ dX7_sea_131
        · replace h := ite_f hc h
          refine vv_iload_n C dX7_sea_45 rfl 3 rfl 46 rfl ?_
          refine vv_iconst C (v := 3) dX7_sea_46 (by decide) 47 rfl ?_
          refine vv_icmp_ne C 59 50 dX7_sea_47 (by decide) rfl (fun hc => ?_) (fun hc => ?_)
          · replace h := ite_f hc h
            refine vv_aload_n C dX7_sea_59 rfl 0 rfl 60 rfl ?_
            refine vv_iload_n C dX7_sea_60 rfl 1 rfl 61 rfl ?_
            refine vv_iload_n C dX7_sea_61 rfl 2 rfl 62 rfl ?_
            refine vv_iload_n C dX7_sea_62 rfl 3 rfl 63 rfl ?_
            obtain ⟨r10, hr10, h⟩ := bnd_s h
            refine vv_callVi C (fun l => mt_X7_seaTold l D c M 0 M_waters M_windX M_windY M_barrels M_crew M_waterTable a1 a2 a3 r10 hr10) gX7_sea_X7_seaTold rfl rfl rfl yd_X7_seaTold ⟨Nat.le_of_ble_eq_true rfl, Nat.le_of_ble_eq_true rfl⟩ [0, 1] rfl (by decide) 0 rfl rfl (wX7_sea c M 0 M_waters M_windX M_windY M_barrels M_crew M_waterTable M_table) [(true, 0), (true, 1), (false, 2)] rfl (by decide) rfl rfl [] rfl (Nat.le_of_ble_eq_true rfl) ⟨Nat.le_of_ble_eq_true rfl, Nat.le_of_ble_eq_true rfl⟩ dX7_sea_63 66 0 0 rfl ⟨rfl, rfl⟩ ?_
            obtain rfl := Option.some.inj h
            exact ret _ _ dX7_sea_66
          · replace h := ite_t hc h
            refine vv_aload_n C dX7_sea_50 rfl 0 rfl 51 rfl ?_
            refine vv_iload_n C dX7_sea_51 rfl 1 rfl 52 rfl ?_
            refine vv_iload_n C dX7_sea_52 rfl 2 rfl 53 rfl ?_
            obtain ⟨r11, hr11, h⟩ := bnd_s h
            refine vv_callVi C (fun l => mt_X7_waterAt l D c M 0 M_waters M_windX M_windY M_barrels M_crew M_waterTable a1 a2 r11 hr11) gX7_sea_X7_waterAt rfl rfl rfl yd_X7_waterAt ⟨Nat.le_of_ble_eq_true rfl, Nat.le_of_ble_eq_true rfl⟩ [0, 1] rfl (by decide) 0 rfl rfl (wX7_sea c M 0 M_waters M_windX M_windY M_barrels M_crew M_waterTable M_table) [(true, 0), (true, 1), (false, 2)] rfl (by decide) rfl rfl [] rfl (Nat.le_of_ble_eq_true rfl) ⟨Nat.le_of_ble_eq_true rfl, Nat.le_of_ble_eq_true rfl⟩ dX7_sea_53 56 0 0 rfl ⟨rfl, rfl⟩ ?_
            refine vv_goto C 66 dX7_sea_56 (by decide) ?_
            obtain rfl := Option.some.inj h
            exact ret _ _ dX7_sea_66
      · replace h := ite_t hc h
        refine vv_aload_n C dX7_sea_34 rfl 0 rfl 35 rfl ?_
        refine vv_iconst C (v := 1) dX7_sea_35 (by decide) 36 rfl ?_
        obtain ⟨r12, hr12, h⟩ := bnd_s h
        refine vv_callVi C (fun l => mt_X7_fail l D c M 0 M_waters M_windX M_windY M_barrels M_crew 1 r12 hr12) gX7_sea_X7_fail rfl rfl rfl yd_X7_fail ⟨Nat.le_of_ble_eq_true rfl, Nat.le_of_ble_eq_true rfl⟩ [0] rfl (by decide) 0 rfl rfl (wX7_sea c M r12.2 M_waters M_windX M_windY M_barrels M_crew M_waterTable M_table) [(true, 0), (false, 1), (false, 2)] rfl (by decide) rfl rfl [] rfl (Nat.le_of_ble_eq_true rfl) ⟨Nat.le_of_ble_eq_true rfl, Nat.le_of_ble_eq_true rfl⟩ dX7_sea_36 39 0 0 rfl ⟨rfl, rfl⟩ ?_
        obtain rfl := Option.some.inj h
        exact ret _ _ dX7_sea_39
abbrev wX7_setWind (c : Nat → ClassId) (M : Nat → Nat) (M_thrown : Int32) (M_waters : Int32) (M_windX : Int32) (M_windY : Int32) (M_barrels : Int32) (M_crew : Int32) : va_W := [(M 0, .inr (7, [.int M_thrown, .int M_waters, .ref (M 1), .int M_windX, .int M_windY, .int M_barrels, .ref (M 2), .int M_crew, .ref (M 3), .ref (M 4), .ref (M 5), .ref (M 6), .ref (M 7), .ref (M 8), .ref (M 9), .ref (M 10), .ref (M 11), .ref (M 12)]))]
abbrev rmX7_setWind : Room := { frames := 1, cells := 0, slots := 0, locals := 22 }
theorem yd_X7_setWind : yX7_setWind.cls = RX7 ∧ yX7_setWind.cls ≠ "java/lang/invoke/MethodHandle" ∧ yX7_setWind.cls ≠ "java/lang/invoke/VarHandle" ∧ (parseMethodDescriptor yX7_setWind.desc).map (fun d => d.parameters.length) = some 2 := by decide +kernel
theorem kwX7_setWind_1 : Cond.fieldLink RX7 47 "BarrelRaftModel" "thrown" "I" ∈ wsX7_setWind := List.mem_of_getElem? (i := 1) rfl
set_option maxRecDepth 20000 in
theorem kinX7_setWind_X7 : ∀ w ∈ u_ws RX7 TX7 18, w ∈ wsX7_setWind := by decide +kernel
theorem kwX7_setWind_2 : Cond.fieldLink RX7 97 "BarrelRaftModel" "windX" "I" ∈ wsX7_setWind := List.mem_of_getElem? (i := 2) rfl
theorem kwX7_setWind_3 : Cond.fieldLink RX7 100 "BarrelRaftModel" "windY" "I" ∈ wsX7_setWind := List.mem_of_getElem? (i := 3) rfl
def jX7_setWind (M_thrown : Int32) (M_windX : Int32) (M_windY : Int32) (a1 : Int32) (a2 : Int32) : Option (Int32 × Int32 × Int32 × Int32) :=
  bnd (jX7_isIn a1 (-2) 2) (fun r1 => (if r1 = 0 then bnd (jX7_fail 0 1) (fun r2 => some (r2.1, r2.2, M_windX, M_windY)) else bnd (jX7_isIn a2 (-2) 2) (fun r3 => (if r3 = 0 then bnd (jX7_fail 0 1) (fun r4 => some (r4.1, r4.2, M_windX, M_windY)) else some (((5 * (M_windX + 2)) + M_windY) + 2, 0, a1, a2)))))
set_option maxHeartbeats 4000000 in
set_option maxRecDepth 100000 in
theorem mt_X7_setWind (l : Launch) (D : va_G) (c : Nat → ClassId) (M : Nat → Nat) (M_thrown : Int32) (M_waters : Int32) (M_windX : Int32) (M_windY : Int32) (M_barrels : Int32) (M_crew : Int32) (a1 : Int32) (a2 : Int32) (q0 : Int32 × Int32 × Int32 × Int32) (h : jX7_setWind M_thrown M_windX M_windY a1 a2 = some q0) : DTi l yX7_setWind wsX7_setWind rmX7_setWind D c (wX7_setWind c M M_thrown M_waters M_windX M_windY M_barrels M_crew) [.ref (M 0), .int a1, .int a2] q0.1 (wX7_setWind c M q0.2.1 M_waters q0.2.2.1 q0.2.2.2 M_barrels M_crew) 0 0 := by
  refine DTi_of (cc := cX7_setWind) (nL := 4) RX7 rfl (by decide) rfl (Nat.le_of_ble_eq_true rfl) (fun g C ret => ?_)
  unfold jX7_setWind at h
  refine vv_lv [0, 1, 2] [(0, .ref (M 0)), (1, .int a1), (2, .int a2)] rfl ?_
  refine vv_aload_n C dX7_setWind_0 rfl 0 rfl 1 rfl ?_
  refine vv_iconst C (v := 0) dX7_setWind_1 (by decide) 2 rfl ?_
  refine vv_put C (q0 := 0) (ci := 7) (k := 0) (ty := .int) (wX7_setWind c M 0 M_waters M_windX M_windY M_barrels M_crew) tyX7 tyX7_ok nmX7 kinX7_setWind_X7 rfl rfl (by decide) kwX7_setWind_1 rfl rfl rfl rfl rfl (Nat.le_of_ble_eq_true rfl) rfl dX7_setWind_2 5 rfl ?_
  refine vv_iload_n C dX7_setWind_5 rfl 1 rfl 6 rfl ?_
  refine vv_bipush C (v := (-2)) dX7_setWind_6 (by decide) 8 rfl ?_
  refine vv_iconst C (v := 2) dX7_setWind_8 (by decide) 9 rfl ?_
  obtain ⟨r1, hr1, h⟩ := bnd_s h
  refine vv_callSi C (fun l => mt_X7_isIn l D c a1 (-2) 2 r1 hr1) gX7_setWind_X7_isIn rfl rfl rfl yd_X7_isIn ⟨Nat.le_of_ble_eq_true rfl, Nat.le_of_ble_eq_true rfl⟩ [] rfl (by decide) (wX7_setWind c M 0 M_waters M_windX M_windY M_barrels M_crew) [(false, 0)] rfl (by decide) rfl rfl [] rfl (Nat.le_of_ble_eq_true rfl) ⟨Nat.le_of_ble_eq_true rfl, Nat.le_of_ble_eq_true rfl⟩ dX7_setWind_9 12 0 0 rfl ⟨rfl, rfl⟩ ?_
  refine vv_if_eq C 25 15 dX7_setWind_12 (by decide) rfl (fun hc => ?_) (fun hc => ?_)
  · replace h := ite_t hc h
    refine vv_aload_n C dX7_setWind_25 rfl 0 rfl 26 rfl ?_
    refine vv_iconst C (v := 1) dX7_setWind_26 (by decide) 27 rfl ?_
    obtain ⟨r2, hr2, h⟩ := bnd_s h
    refine vv_callVi C (fun l => mt_X7_fail l D c M 0 M_waters M_windX M_windY M_barrels M_crew 1 r2 hr2) gX7_setWind_X7_fail rfl rfl rfl yd_X7_fail ⟨Nat.le_of_ble_eq_true rfl, Nat.le_of_ble_eq_true rfl⟩ [0] rfl (by decide) 0 rfl rfl (wX7_setWind c M r2.2 M_waters M_windX M_windY M_barrels M_crew) [(true, 0)] rfl (by decide) rfl rfl [] rfl (Nat.le_of_ble_eq_true rfl) ⟨Nat.le_of_ble_eq_true rfl, Nat.le_of_ble_eq_true rfl⟩ dX7_setWind_27 30 0 0 rfl ⟨rfl, rfl⟩ ?_
    obtain rfl := Option.some.inj h
    exact ret _ _ dX7_setWind_30
  · replace h := ite_f hc h
    refine vv_iload_n C dX7_setWind_15 rfl 2 rfl 16 rfl ?_
    refine vv_bipush C (v := (-2)) dX7_setWind_16 (by decide) 18 rfl ?_
    refine vv_iconst C (v := 2) dX7_setWind_18 (by decide) 19 rfl ?_
    obtain ⟨r3, hr3, h⟩ := bnd_s h
    refine vv_callSi C (fun l => mt_X7_isIn l D c a2 (-2) 2 r3 hr3) gX7_setWind_X7_isIn rfl rfl rfl yd_X7_isIn ⟨Nat.le_of_ble_eq_true rfl, Nat.le_of_ble_eq_true rfl⟩ [] rfl (by decide) (wX7_setWind c M 0 M_waters M_windX M_windY M_barrels M_crew) [(false, 0)] rfl (by decide) rfl rfl [] rfl (Nat.le_of_ble_eq_true rfl) ⟨Nat.le_of_ble_eq_true rfl, Nat.le_of_ble_eq_true rfl⟩ dX7_setWind_19 22 0 0 rfl ⟨rfl, rfl⟩ ?_
    refine vv_if_ne C 31 25 dX7_setWind_22 (by decide) rfl (fun hc => ?_) (fun hc => ?_)
    · replace h := ite_f hc h
      refine vv_iconst C (v := 5) dX7_setWind_31 (by decide) 32 rfl ?_
      refine vv_aload_n C dX7_setWind_32 rfl 0 rfl 33 rfl ?_
      refine vv_get C (q0 := 0) (ci := 7) (k := 3) kinX7_setWind_X7 rfl rfl (by decide) kwX7_setWind_2 rfl rfl dX7_setWind_33 36 rfl ?_
      refine vv_iconst C (v := 2) dX7_setWind_36 (by decide) 37 rfl ?_
      refine vv_iadd C dX7_setWind_37 38 rfl ?_
      refine vv_imul C dX7_setWind_38 39 rfl ?_
      refine vv_aload_n C dX7_setWind_39 rfl 0 rfl 40 rfl ?_
      refine vv_get C (q0 := 0) (ci := 7) (k := 4) kinX7_setWind_X7 rfl rfl (by decide) kwX7_setWind_3 rfl rfl dX7_setWind_40 43 rfl ?_
      refine vv_iadd C dX7_setWind_43 44 rfl ?_
      refine vv_iconst C (v := 2) dX7_setWind_44 (by decide) 45 rfl ?_
      refine vv_iadd C dX7_setWind_45 46 rfl ?_
      refine vv_istore_n C [(3, .int (((5 * (M_windX + 2)) + M_windY) + 2)), (0, .ref (M 0)), (1, .int a1), (2, .int a2)] dX7_setWind_46 rfl (by decide) rfl 47 rfl ?_
      refine vv_aload_n C dX7_setWind_47 rfl 1 rfl 48 rfl ?_
      refine vv_iload_n C dX7_setWind_48 rfl 2 rfl 49 rfl ?_
      refine vv_put C (q0 := 0) (ci := 7) (k := 3) (ty := .int) (wX7_setWind c M 0 M_waters a1 M_windY M_barrels M_crew) tyX7 tyX7_ok nmX7 kinX7_setWind_X7 rfl rfl (by decide) kwX7_setWind_2 rfl rfl rfl rfl rfl (Nat.le_of_ble_eq_true rfl) rfl dX7_setWind_49 52 rfl ?_
      refine vv_aload_n C dX7_setWind_52 rfl 1 rfl 53 rfl ?_
      refine vv_iload_n C dX7_setWind_53 rfl 3 rfl 54 rfl ?_
      refine vv_put C (q0 := 0) (ci := 7) (k := 4) (ty := .int) (wX7_setWind c M 0 M_waters a1 a2 M_barrels M_crew) tyX7 tyX7_ok nmX7 kinX7_setWind_X7 rfl rfl (by decide) kwX7_setWind_3 rfl rfl rfl rfl rfl (Nat.le_of_ble_eq_true rfl) rfl dX7_setWind_54 57 rfl ?_
      refine vv_iload_n C dX7_setWind_57 rfl 0 rfl 58 rfl ?_
      obtain rfl := Option.some.inj h
      exact ret _ _ dX7_setWind_58
    · replace h := ite_t hc h
      refine vv_aload_n C dX7_setWind_25 rfl 0 rfl 26 rfl ?_
      refine vv_iconst C (v := 1) dX7_setWind_26 (by decide) 27 rfl ?_
      obtain ⟨r4, hr4, h⟩ := bnd_s h
      refine vv_callVi C (fun l => mt_X7_fail l D c M 0 M_waters M_windX M_windY M_barrels M_crew 1 r4 hr4) gX7_setWind_X7_fail rfl rfl rfl yd_X7_fail ⟨Nat.le_of_ble_eq_true rfl, Nat.le_of_ble_eq_true rfl⟩ [0] rfl (by decide) 0 rfl rfl (wX7_setWind c M r4.2 M_waters M_windX M_windY M_barrels M_crew) [(true, 0)] rfl (by decide) rfl rfl [] rfl (Nat.le_of_ble_eq_true rfl) ⟨Nat.le_of_ble_eq_true rfl, Nat.le_of_ble_eq_true rfl⟩ dX7_setWind_27 30 0 0 rfl ⟨rfl, rfl⟩ ?_
      obtain rfl := Option.some.inj h
      exact ret _ _ dX7_setWind_30
abbrev wX7_thrown (c : Nat → ClassId) (M : Nat → Nat) (M_thrown : Int32) (M_waters : Int32) (M_windX : Int32) (M_windY : Int32) (M_barrels : Int32) (M_crew : Int32) : va_W := [(M 0, .inr (7, [.int M_thrown, .int M_waters, .ref (M 1), .int M_windX, .int M_windY, .int M_barrels, .ref (M 2), .int M_crew, .ref (M 3), .ref (M 4), .ref (M 5), .ref (M 6), .ref (M 7), .ref (M 8), .ref (M 9), .ref (M 10), .ref (M 11), .ref (M 12)]))]
abbrev rmX7_thrown : Room := { frames := 0, cells := 0, slots := 0, locals := 0 }
theorem yd_X7_thrown : yX7_thrown.cls = RX7 ∧ yX7_thrown.cls ≠ "java/lang/invoke/MethodHandle" ∧ yX7_thrown.cls ≠ "java/lang/invoke/VarHandle" ∧ (parseMethodDescriptor yX7_thrown.desc).map (fun d => d.parameters.length) = some 0 := by decide +kernel
theorem kwX7_thrown_1 : Cond.fieldLink RX7 47 "BarrelRaftModel" "thrown" "I" ∈ wsX7_thrown := List.mem_of_getElem? (i := 1) rfl
set_option maxRecDepth 20000 in
theorem kinX7_thrown_X7 : ∀ w ∈ u_ws RX7 TX7 18, w ∈ wsX7_thrown := by decide +kernel
def jX7_thrown (M_thrown : Int32) : Option (Int32) :=
  some M_thrown
set_option maxHeartbeats 4000000 in
set_option maxRecDepth 100000 in
theorem mt_X7_thrown (l : Launch) (D : va_G) (c : Nat → ClassId) (M : Nat → Nat) (M_thrown : Int32) (M_waters : Int32) (M_windX : Int32) (M_windY : Int32) (M_barrels : Int32) (M_crew : Int32) (q0 : Int32) (h : jX7_thrown M_thrown = some q0) : DTi l yX7_thrown wsX7_thrown rmX7_thrown D c (wX7_thrown c M M_thrown M_waters M_windX M_windY M_barrels M_crew) [.ref (M 0)] q0 (wX7_thrown c M M_thrown M_waters M_windX M_windY M_barrels M_crew) 0 0 := by
  refine DTi_of (cc := cX7_thrown) (nL := 1) RX7 rfl (by decide) rfl (Nat.le_of_ble_eq_true rfl) (fun g C ret => ?_)
  unfold jX7_thrown at h
  refine vv_lv [0] [(0, .ref (M 0))] rfl ?_
  refine vv_aload_n C dX7_thrown_0 rfl 0 rfl 1 rfl ?_
  refine vv_get C (q0 := 0) (ci := 7) (k := 0) kinX7_thrown_X7 rfl rfl (by decide) kwX7_thrown_1 rfl rfl dX7_thrown_1 4 rfl ?_
  obtain rfl := Option.some.inj h
  exact ret _ _ dX7_thrown_4
abbrev wX7_tie (c : Nat → ClassId) (M : Nat → Nat) (M_thrown : Int32) (M_waters : Int32) (M_windX : Int32) (M_windY : Int32) (M_barrels : Int32) (M_crew : Int32) (M_fixed : Nat → Int32) (M_table : Nat → Int32) (M_strength : Nat → Int32) (M_wear : Nat → Int32) (M_numbers : Nat → Int32) : va_W := [(M 0, .inr (7, [.int M_thrown, .int M_waters, .ref (M 1), .int M_windX, .int M_windY, .int M_barrels, .ref (M 2), .int M_crew, .ref (M 3), .ref (M 4), .ref (M 5), .ref (M 6), .ref (M 7), .ref (M 8), .ref (M 9), .ref (M 10), .ref (M 11), .ref (M 12)])), aI c (M 2) 72 M_fixed, aI c (M 3) 120 M_table, aI c (M 4) 576 M_strength, aI c (M 5) 576 M_wear, aI c (M 7) 3 M_numbers]
abbrev rmX7_tie : Room := { frames := 2, cells := 0, slots := 0, locals := 46 }
theorem yd_X7_tie : yX7_tie.cls = RX7 ∧ yX7_tie.cls ≠ "java/lang/invoke/MethodHandle" ∧ yX7_tie.cls ≠ "java/lang/invoke/VarHandle" ∧ (parseMethodDescriptor yX7_tie.desc).map (fun d => d.parameters.length) = some 3 := by decide +kernel
theorem kwX7_tie_1 : Cond.fieldLink RX7 47 "BarrelRaftModel" "thrown" "I" ∈ wsX7_tie := List.mem_of_getElem? (i := 1) rfl
set_option maxRecDepth 20000 in
theorem kinX7_tie_X7 : ∀ w ∈ u_ws RX7 TX7 18, w ∈ wsX7_tie := by decide +kernel
theorem kwX7_tie_2 : Cond.fieldLink RX7 28 "BarrelRaftModel" "numbers" "[I" ∈ wsX7_tie := List.mem_of_getElem? (i := 2) rfl
theorem kwX7_tie_3 : Cond.fieldLink RX7 19 "BarrelRaftModel" "strength" "[I" ∈ wsX7_tie := List.mem_of_getElem? (i := 3) rfl
theorem kwX7_tie_4 : Cond.fieldLink RX7 22 "BarrelRaftModel" "wear" "[I" ∈ wsX7_tie := List.mem_of_getElem? (i := 4) rfl
def jX7_tie (M_thrown : Int32) (M_barrels : Int32) (M_fixed : Nat → Int32) (M_table : Nat → Int32) (M_strength : Nat → Int32) (M_wear : Nat → Int32) (M_numbers : Nat → Int32) (a1 : Int32) (a2 : Int32) (a3 : Int32) : Option (Int32 × Int32 × (Nat → Int32) × (Nat → Int32) × (Nat → Int32)) :=
  bnd (jX7_isBarrel M_barrels a1) (fun r1 => (if r1 = 0 then bnd (jX7_fail 0 1) (fun r2 => some (r2.1, r2.2, M_strength, M_wear, M_numbers)) else bnd (jX7_isBarrel M_barrels a2) (fun r3 => (if r3 = 0 then bnd (jX7_fail 0 1) (fun r22 => some (r22.1, r22.2, M_strength, M_wear, M_numbers)) else (if a1 = a2 then bnd (jX7_fail 0 2) (fun r4 => some (r4.1, r4.2, M_strength, M_wear, M_numbers)) else bnd (jX7_isIn a3 1 50) (fun r5 => (if r5 = 0 then bnd (jX7_fail 0 2) (fun r21 => some (r21.1, r21.2, M_strength, M_wear, M_numbers)) else bnd (jX7_floats M_table a1) (fun r6 => (if r6 = 0 then bnd (jX7_fail 0 3) (fun r7 => some (r7.1, r7.2, M_strength, M_wear, M_numbers)) else bnd (jX7_floats M_table a2) (fun r8 => (if r8 = 0 then bnd (jX7_fail 0 3) (fun r9 => some (r9.1, r9.2, M_strength, M_wear, M_numbers)) else bnd (jX7_areBeside M_fixed a1 a2) (fun r10 => (if r10 = 0 then bnd (jX7_fail 0 3) (fun r11 => some (r11.1, r11.2, M_strength, M_wear, M_numbers)) else bnd (jX7_ba M_table a1 3) (fun r12 => bnd (jX7_ba M_table a2 3) (fun r13 => (if r12 = r13 then bnd (jX7_ba M_table a1 4) (fun r15 => bnd (jX7_ba M_table a2 4) (fun r16 => (if r15 = r16 then chk 3 1 ((if rd M_numbers 1 = 0 then bnd (jX7_fail 0 3) (fun r20 => some (r20.1, r20.2, M_strength, M_wear, M_numbers)) else bnd (jX7_pair a1 a2) (fun r18 => chk 576 r18 (bnd (jX7_pair a1 a2) (fun r19 => chk 576 r19 (chk 3 1 (chk 3 1 (chk 3 1 (some (rd (wr M_numbers 1 ((rd M_numbers 1) - 1)) 1, 0, wr M_strength r18 a3, wr M_wear r19 0, wr M_numbers 1 ((rd M_numbers 1) - 1))))))))))) else bnd (jX7_fail 0 3) (fun r17 => some (r17.1, r17.2, M_strength, M_wear, M_numbers))))) else bnd (jX7_fail 0 3) (fun r14 => some (r14.1, r14.2, M_strength, M_wear, M_numbers))))))))))))))))))
set_option maxHeartbeats 4000000 in
set_option maxRecDepth 100000 in
theorem mt_X7_tie (l : Launch) (D : va_G) (c : Nat → ClassId) (M : Nat → Nat) (M_thrown : Int32) (M_waters : Int32) (M_windX : Int32) (M_windY : Int32) (M_barrels : Int32) (M_crew : Int32) (M_fixed : Nat → Int32) (M_table : Nat → Int32) (M_strength : Nat → Int32) (M_wear : Nat → Int32) (M_numbers : Nat → Int32) (a1 : Int32) (a2 : Int32) (a3 : Int32) (q0 : Int32 × Int32 × (Nat → Int32) × (Nat → Int32) × (Nat → Int32)) (h : jX7_tie M_thrown M_barrels M_fixed M_table M_strength M_wear M_numbers a1 a2 a3 = some q0) : DTi l yX7_tie wsX7_tie rmX7_tie D c (wX7_tie c M M_thrown M_waters M_windX M_windY M_barrels M_crew M_fixed M_table M_strength M_wear M_numbers) [.ref (M 0), .int a1, .int a2, .int a3] q0.1 (wX7_tie c M q0.2.1 M_waters M_windX M_windY M_barrels M_crew M_fixed M_table q0.2.2.1 q0.2.2.2.1 q0.2.2.2.2) 0 0 := by
  refine DTi_of (cc := cX7_tie) (nL := 4) RX7 rfl (by decide) rfl (Nat.le_of_ble_eq_true rfl) (fun g C ret => ?_)
  unfold jX7_tie at h
  refine vv_lv [0, 1, 2, 3] [(0, .ref (M 0)), (1, .int a1), (2, .int a2), (3, .int a3)] rfl ?_
  refine vv_aload_n C dX7_tie_0 rfl 0 rfl 1 rfl ?_
  refine vv_iconst C (v := 0) dX7_tie_1 (by decide) 2 rfl ?_
  refine vv_put C (q0 := 0) (ci := 7) (k := 0) (ty := .int) (wX7_tie c M 0 M_waters M_windX M_windY M_barrels M_crew M_fixed M_table M_strength M_wear M_numbers) tyX7 tyX7_ok nmX7 kinX7_tie_X7 rfl rfl (by decide) kwX7_tie_1 rfl rfl rfl rfl rfl (Nat.le_of_ble_eq_true rfl) rfl dX7_tie_2 5 rfl ?_
  refine vv_aload_n C dX7_tie_5 rfl 0 rfl 6 rfl ?_
  refine vv_iload_n C dX7_tie_6 rfl 1 rfl 7 rfl ?_
  obtain ⟨r1, hr1, h⟩ := bnd_s h
  refine vv_callVi C (fun l => mt_X7_isBarrel l D c M 0 M_waters M_windX M_windY M_barrels M_crew a1 r1 hr1) gX7_tie_X7_isBarrel rfl rfl rfl yd_X7_isBarrel ⟨Nat.le_of_ble_eq_true rfl, Nat.le_of_ble_eq_true rfl⟩ [0] rfl (by decide) 0 rfl rfl (wX7_tie c M 0 M_waters M_windX M_windY M_barrels M_crew M_fixed M_table M_strength M_wear M_numbers) [(true, 0), (false, 1), (false, 2), (false, 3), (false, 4), (false, 5)] rfl (by decide) rfl rfl [] rfl (Nat.le_of_ble_eq_true rfl) ⟨Nat.le_of_ble_eq_true rfl, Nat.le_of_ble_eq_true rfl⟩ dX7_tie_7 10 0 0 rfl ⟨rfl, rfl⟩ ?_
  refine vv_if_eq C 21 13 dX7_tie_10 (by decide) rfl (fun hc => ?_) (fun hc => ?_)
  · replace h := ite_t hc h
    refine vv_aload_n C dX7_tie_21 rfl 0 rfl 22 rfl ?_
    refine vv_iconst C (v := 1) dX7_tie_22 (by decide) 23 rfl ?_
    obtain ⟨r2, hr2, h⟩ := bnd_s h
    refine vv_callVi C (fun l => mt_X7_fail l D c M 0 M_waters M_windX M_windY M_barrels M_crew 1 r2 hr2) gX7_tie_X7_fail rfl rfl rfl yd_X7_fail ⟨Nat.le_of_ble_eq_true rfl, Nat.le_of_ble_eq_true rfl⟩ [0] rfl (by decide) 0 rfl rfl (wX7_tie c M r2.2 M_waters M_windX M_windY M_barrels M_crew M_fixed M_table M_strength M_wear M_numbers) [(true, 0), (false, 1), (false, 2), (false, 3), (false, 4), (false, 5)] rfl (by decide) rfl rfl [] rfl (Nat.le_of_ble_eq_true rfl) ⟨Nat.le_of_ble_eq_true rfl, Nat.le_of_ble_eq_true rfl⟩ dX7_tie_23 26 0 0 rfl ⟨rfl, rfl⟩ ?_
    obtain rfl := Option.some.inj h
    exact ret _ _ dX7_tie_26
  · replace h := ite_f hc h
    refine vv_aload_n C dX7_tie_13 rfl 0 rfl 14 rfl ?_
    refine vv_iload_n C dX7_tie_14 rfl 2 rfl 15 rfl ?_
    obtain ⟨r3, hr3, h⟩ := bnd_s h
    refine vv_callVi C (fun l => mt_X7_isBarrel l D c M 0 M_waters M_windX M_windY M_barrels M_crew a2 r3 hr3) gX7_tie_X7_isBarrel rfl rfl rfl yd_X7_isBarrel ⟨Nat.le_of_ble_eq_true rfl, Nat.le_of_ble_eq_true rfl⟩ [0] rfl (by decide) 0 rfl rfl (wX7_tie c M 0 M_waters M_windX M_windY M_barrels M_crew M_fixed M_table M_strength M_wear M_numbers) [(true, 0), (false, 1), (false, 2), (false, 3), (false, 4), (false, 5)] rfl (by decide) rfl rfl [] rfl (Nat.le_of_ble_eq_true rfl) ⟨Nat.le_of_ble_eq_true rfl, Nat.le_of_ble_eq_true rfl⟩ dX7_tie_15 18 0 0 rfl ⟨rfl, rfl⟩ ?_
    refine vv_if_ne C 27 21 dX7_tie_18 (by decide) rfl (fun hc => ?_) (fun hc => ?_)
    · replace h := ite_f hc h
      refine vv_iload_n C dX7_tie_27 rfl 1 rfl 28 rfl ?_
      refine vv_iload_n C dX7_tie_28 rfl 2 rfl 29 rfl ?_
      refine vv_icmp_eq C 42 32 dX7_tie_29 (by decide) rfl (fun hc => ?_) (fun hc => ?_)
      · replace h := ite_t hc h
        refine vv_aload_n C dX7_tie_42 rfl 0 rfl 43 rfl ?_
        refine vv_iconst C (v := 2) dX7_tie_43 (by decide) 44 rfl ?_
        obtain ⟨r4, hr4, h⟩ := bnd_s h
        refine vv_callVi C (fun l => mt_X7_fail l D c M 0 M_waters M_windX M_windY M_barrels M_crew 2 r4 hr4) gX7_tie_X7_fail rfl rfl rfl yd_X7_fail ⟨Nat.le_of_ble_eq_true rfl, Nat.le_of_ble_eq_true rfl⟩ [0] rfl (by decide) 0 rfl rfl (wX7_tie c M r4.2 M_waters M_windX M_windY M_barrels M_crew M_fixed M_table M_strength M_wear M_numbers) [(true, 0), (false, 1), (false, 2), (false, 3), (false, 4), (false, 5)] rfl (by decide) rfl rfl [] rfl (Nat.le_of_ble_eq_true rfl) ⟨Nat.le_of_ble_eq_true rfl, Nat.le_of_ble_eq_true rfl⟩ dX7_tie_44 47 0 0 rfl ⟨rfl, rfl⟩ ?_
        obtain rfl := Option.some.inj h
        exact ret _ _ dX7_tie_47
      · replace h := ite_f hc h
        refine vv_iload_n C dX7_tie_32 rfl 3 rfl 33 rfl ?_
        refine vv_iconst C (v := 1) dX7_tie_33 (by decide) 34 rfl ?_
        refine vv_bipush C (v := 50) dX7_tie_34 (by decide) 36 rfl ?_
        obtain ⟨r5, hr5, h⟩ := bnd_s h
        refine vv_callSi C (fun l => mt_X7_isIn l D c a3 1 50 r5 hr5) gX7_tie_X7_isIn rfl rfl rfl yd_X7_isIn ⟨Nat.le_of_ble_eq_true rfl, Nat.le_of_ble_eq_true rfl⟩ [] rfl (by decide) (wX7_tie c M 0 M_waters M_windX M_windY M_barrels M_crew M_fixed M_table M_strength M_wear M_numbers) [(false, 0), (false, 1), (false, 2), (false, 3), (false, 4), (false, 5)] rfl (by decide) rfl rfl [] rfl (Nat.le_of_ble_eq_true rfl) ⟨Nat.le_of_ble_eq_true rfl, Nat.le_of_ble_eq_true rfl⟩ dX7_tie_36 39 0 0 rfl ⟨rfl, rfl⟩ ?_
        refine vv_if_ne C 48 42 dX7_tie_39 (by decide) rfl (fun hc => ?_) (fun hc => ?_)
        · replace h := ite_f hc h
          refine vv_aload_n C dX7_tie_48 rfl 0 rfl 49 rfl ?_
          refine vv_iload_n C dX7_tie_49 rfl 1 rfl 50 rfl ?_
          obtain ⟨r6, hr6, h⟩ := bnd_s h
          refine vv_callVi C (fun l => mt_X7_floats l D c M 0 M_waters M_windX M_windY M_barrels M_crew M_table a1 r6 hr6) gX7_tie_X7_floats rfl rfl rfl yd_X7_floats ⟨Nat.le_of_ble_eq_true rfl, Nat.le_of_ble_eq_true rfl⟩ [0, 2] rfl (by decide) 0 rfl rfl (wX7_tie c M 0 M_waters M_windX M_windY M_barrels M_crew M_fixed M_table M_strength M_wear M_numbers) [(true, 0), (false, 1), (true, 1), (false, 3), (false, 4), (false, 5)] rfl (by decide) rfl rfl [] rfl (Nat.le_of_ble_eq_true rfl) ⟨Nat.le_of_ble_eq_true rfl, Nat.le_of_ble_eq_true rfl⟩ dX7_tie_50 53 0 0 rfl ⟨rfl, rfl⟩ ?_
          refine vv_if_eq C 112 56 dX7_tie_53 (by decide) rfl (fun hc => ?_) (fun hc => ?_)
          · replace h := ite_t hc h
            refine vv_aload_n C dX7_tie_112 rfl 0 rfl 113 rfl ?_
            refine vv_iconst C (v := 3) dX7_tie_113 (by decide) 114 rfl ?_
            obtain ⟨r7, hr7, h⟩ := bnd_s h
            refine vv_callVi C (fun l => mt_X7_fail l D c M 0 M_waters M_windX M_windY M_barrels M_crew 3 r7 hr7) gX7_tie_X7_fail rfl rfl rfl yd_X7_fail ⟨Nat.le_of_ble_eq_true rfl, Nat.le_of_ble_eq_true rfl⟩ [0] rfl (by decide) 0 rfl rfl (wX7_tie c M r7.2 M_waters M_windX M_windY M_barrels M_crew M_fixed M_table M_strength M_wear M_numbers) [(true, 0), (false, 1), (false, 2), (false, 3), (false, 4), (false, 5)] rfl (by decide) rfl rfl [] rfl (Nat.le_of_ble_eq_true rfl) ⟨Nat.le_of_ble_eq_true rfl, Nat.le_of_ble_eq_true rfl⟩ dX7_tie_114 117 0 0 rfl ⟨rfl, rfl⟩ ?_
            obtain rfl := Option.some.inj h
            exact ret _ _ dX7_tie_117
          · replace h := ite_f hc h
            refine vv_aload_n C dX7_tie_56 rfl 0 rfl 57 rfl ?_
            refine vv_iload_n C dX7_tie_57 rfl 2 rfl 58 rfl ?_
            obtain ⟨r8, hr8, h⟩ := bnd_s h
            refine vv_callVi C (fun l => mt_X7_floats l D c M 0 M_waters M_windX M_windY M_barrels M_crew M_table a2 r8 hr8) gX7_tie_X7_floats rfl rfl rfl yd_X7_floats ⟨Nat.le_of_ble_eq_true rfl, Nat.le_of_ble_eq_true rfl⟩ [0, 2] rfl (by decide) 0 rfl rfl (wX7_tie c M 0 M_waters M_windX M_windY M_barrels M_crew M_fixed M_table M_strength M_wear M_numbers) [(true, 0), (false, 1), (true, 1), (false, 3), (false, 4), (false, 5)] rfl (by decide) rfl rfl [] rfl (Nat.le_of_ble_eq_true rfl) ⟨Nat.le_of_ble_eq_true rfl, Nat.le_of_ble_eq_true rfl⟩ dX7_tie_58 61 0 0 rfl ⟨rfl, rfl⟩ ?_
            refine vv_if_eq C 112 64 dX7_tie_61 (by decide) rfl (fun hc => ?_) (fun hc => ?_)
            · replace h := ite_t hc h
              refine vv_aload_n C dX7_tie_112 rfl 0 rfl 113 rfl ?_
              refine vv_iconst C (v := 3) dX7_tie_113 (by decide) 114 rfl ?_
              obtain ⟨r9, hr9, h⟩ := bnd_s h
              refine vv_callVi C (fun l => mt_X7_fail l D c M 0 M_waters M_windX M_windY M_barrels M_crew 3 r9 hr9) gX7_tie_X7_fail rfl rfl rfl yd_X7_fail ⟨Nat.le_of_ble_eq_true rfl, Nat.le_of_ble_eq_true rfl⟩ [0] rfl (by decide) 0 rfl rfl (wX7_tie c M r9.2 M_waters M_windX M_windY M_barrels M_crew M_fixed M_table M_strength M_wear M_numbers) [(true, 0), (false, 1), (false, 2), (false, 3), (false, 4), (false, 5)] rfl (by decide) rfl rfl [] rfl (Nat.le_of_ble_eq_true rfl) ⟨Nat.le_of_ble_eq_true rfl, Nat.le_of_ble_eq_true rfl⟩ dX7_tie_114 117 0 0 rfl ⟨rfl, rfl⟩ ?_
              obtain rfl := Option.some.inj h
              exact ret _ _ dX7_tie_117
            · replace h := ite_f hc h
              refine vv_aload_n C dX7_tie_64 rfl 0 rfl 65 rfl ?_
              refine vv_iload_n C dX7_tie_65 rfl 1 rfl 66 rfl ?_
              refine vv_iload_n C dX7_tie_66 rfl 2 rfl 67 rfl ?_
              obtain ⟨r10, hr10, h⟩ := bnd_s h
              refine vv_callVi C (fun l => mt_X7_areBeside l D c M 0 M_waters M_windX M_windY M_barrels M_crew M_fixed a1 a2 r10 hr10) gX7_tie_X7_areBeside rfl rfl rfl yd_X7_areBeside ⟨Nat.le_of_ble_eq_true rfl, Nat.le_of_ble_eq_true rfl⟩ [0, 1] rfl (by decide) 0 rfl rfl (wX7_tie c M 0 M_waters M_windX M_windY M_barrels M_crew M_fixed M_table M_strength M_wear M_numbers) [(true, 0), (true, 1), (false, 2), (false, 3), (false, 4), (false, 5)] rfl (by decide) rfl rfl [] rfl (Nat.le_of_ble_eq_true rfl) ⟨Nat.le_of_ble_eq_true rfl, Nat.le_of_ble_eq_true rfl⟩ dX7_tie_67 70 0 0 rfl ⟨rfl, rfl⟩ ?_
              refine vv_if_eq C 112 73 dX7_tie_70 (by decide) rfl (fun hc => ?_) (fun hc => ?_)
              · replace h := ite_t hc h
                refine vv_aload_n C dX7_tie_112 rfl 0 rfl 113 rfl ?_
                refine vv_iconst C (v := 3) dX7_tie_113 (by decide) 114 rfl ?_
                obtain ⟨r11, hr11, h⟩ := bnd_s h
                refine vv_callVi C (fun l => mt_X7_fail l D c M 0 M_waters M_windX M_windY M_barrels M_crew 3 r11 hr11) gX7_tie_X7_fail rfl rfl rfl yd_X7_fail ⟨Nat.le_of_ble_eq_true rfl, Nat.le_of_ble_eq_true rfl⟩ [0] rfl (by decide) 0 rfl rfl (wX7_tie c M r11.2 M_waters M_windX M_windY M_barrels M_crew M_fixed M_table M_strength M_wear M_numbers) [(true, 0), (false, 1), (false, 2), (false, 3), (false, 4), (false, 5)] rfl (by decide) rfl rfl [] rfl (Nat.le_of_ble_eq_true rfl) ⟨Nat.le_of_ble_eq_true rfl, Nat.le_of_ble_eq_true rfl⟩ dX7_tie_114 117 0 0 rfl ⟨rfl, rfl⟩ ?_
                obtain rfl := Option.some.inj h
                exact ret _ _ dX7_tie_117
              · replace h := ite_f hc h
                refine vv_aload_n C dX7_tie_73 rfl 0 rfl 74 rfl ?_
                refine vv_iload_n C dX7_tie_74 rfl 1 rfl 75 rfl ?_
                refine vv_iconst C (v := 3) dX7_tie_75 (by decide) 76 rfl ?_
                obtain ⟨r12, hr12, h⟩ := bnd_s h
                refine vv_callVi C (fun l => mt_X7_ba l D c M 0 M_waters M_windX M_windY M_barrels M_crew M_table a1 3 r12 hr12) gX7_tie_X7_ba rfl rfl rfl yd_X7_ba ⟨Nat.le_of_ble_eq_true rfl, Nat.le_of_ble_eq_true rfl⟩ [0, 2] rfl (by decide) 0 rfl rfl (wX7_tie c M 0 M_waters M_windX M_windY M_barrels M_crew M_fixed M_table M_strength M_wear M_numbers) [(true, 0), (false, 1), (true, 1), (false, 3), (false, 4), (false, 5)] rfl (by decide) rfl rfl [] rfl (Nat.le_of_ble_eq_true rfl) ⟨Nat.le_of_ble_eq_true rfl, Nat.le_of_ble_eq_true rfl⟩ dX7_tie_76 79 0 0 rfl ⟨rfl, rfl⟩ ?_
                refine vv_aload_n C dX7_tie_79 rfl 0 rfl 80 rfl ?_
                refine vv_iload_n C dX7_tie_80 rfl 2 rfl 81 rfl ?_
                refine vv_iconst C (v := 3) dX7_tie_81 (by decide) 82 rfl ?_
                obtain ⟨r13, hr13, h⟩ := bnd_s h
                refine vv_callVi C (fun l => mt_X7_ba l D c M 0 M_waters M_windX M_windY M_barrels M_crew M_table a2 3 r13 hr13) gX7_tie_X7_ba rfl rfl rfl yd_X7_ba ⟨Nat.le_of_ble_eq_true rfl, Nat.le_of_ble_eq_true rfl⟩ [0, 2] rfl (by decide) 0 rfl rfl (wX7_tie c M 0 M_waters M_windX M_windY M_barrels M_crew M_fixed M_table M_strength M_wear M_numbers) [(true, 0), (false, 1), (true, 1), (false, 3), (false, 4), (false, 5)] rfl (by decide) rfl rfl [.int r12] rfl (Nat.le_of_ble_eq_true rfl) ⟨Nat.le_of_ble_eq_true rfl, Nat.le_of_ble_eq_true rfl⟩ dX7_tie_82 85 0 0 rfl ⟨rfl, rfl⟩ ?_
                refine vv_icmp_ne C 112 88 dX7_tie_85 (by decide) rfl (fun hc => ?_) (fun hc => ?_)
                · replace h := ite_f hc h
                  refine vv_aload_n C dX7_tie_112 rfl 0 rfl 113 rfl ?_
                  refine vv_iconst C (v := 3) dX7_tie_113 (by decide) 114 rfl ?_
                  obtain ⟨r14, hr14, h⟩ := bnd_s h
                  refine vv_callVi C (fun l => mt_X7_fail l D c M 0 M_waters M_windX M_windY M_barrels M_crew 3 r14 hr14) gX7_tie_X7_fail rfl rfl rfl yd_X7_fail ⟨Nat.le_of_ble_eq_true rfl, Nat.le_of_ble_eq_true rfl⟩ [0] rfl (by decide) 0 rfl rfl (wX7_tie c M r14.2 M_waters M_windX M_windY M_barrels M_crew M_fixed M_table M_strength M_wear M_numbers) [(true, 0), (false, 1), (false, 2), (false, 3), (false, 4), (false, 5)] rfl (by decide) rfl rfl [] rfl (Nat.le_of_ble_eq_true rfl) ⟨Nat.le_of_ble_eq_true rfl, Nat.le_of_ble_eq_true rfl⟩ dX7_tie_114 117 0 0 rfl ⟨rfl, rfl⟩ ?_
                  obtain rfl := Option.some.inj h
                  exact ret _ _ dX7_tie_117
                · replace h := ite_t hc h
                  refine vv_aload_n C dX7_tie_88 rfl 0 rfl 89 rfl ?_
                  refine vv_iload_n C dX7_tie_89 rfl 1 rfl 90 rfl ?_
                  refine vv_iconst C (v := 4) dX7_tie_90 (by decide) 91 rfl ?_
                  obtain ⟨r15, hr15, h⟩ := bnd_s h
                  refine vv_callVi C (fun l => mt_X7_ba l D c M 0 M_waters M_windX M_windY M_barrels M_crew M_table a1 4 r15 hr15) gX7_tie_X7_ba rfl rfl rfl yd_X7_ba ⟨Nat.le_of_ble_eq_true rfl, Nat.le_of_ble_eq_true rfl⟩ [0, 2] rfl (by decide) 0 rfl rfl (wX7_tie c M 0 M_waters M_windX M_windY M_barrels M_crew M_fixed M_table M_strength M_wear M_numbers) [(true, 0), (false, 1), (true, 1), (false, 3), (false, 4), (false, 5)] rfl (by decide) rfl rfl [] rfl (Nat.le_of_ble_eq_true rfl) ⟨Nat.le_of_ble_eq_true rfl, Nat.le_of_ble_eq_true rfl⟩ dX7_tie_91 94 0 0 rfl ⟨rfl, rfl⟩ ?_
                  refine vv_aload_n C dX7_tie_94 rfl 0 rfl 95 rfl ?_
                  refine vv_iload_n C dX7_tie_95 rfl 2 rfl 96 rfl ?_
                  refine vv_iconst C (v := 4) dX7_tie_96 (by decide) 97 rfl ?_
                  obtain ⟨r16, hr16, h⟩ := bnd_s h
                  refine vv_callVi C (fun l => mt_X7_ba l D c M 0 M_waters M_windX M_windY M_barrels M_crew M_table a2 4 r16 hr16) gX7_tie_X7_ba rfl rfl rfl yd_X7_ba ⟨Nat.le_of_ble_eq_true rfl, Nat.le_of_ble_eq_true rfl⟩ [0, 2] rfl (by decide) 0 rfl rfl (wX7_tie c M 0 M_waters M_windX M_windY M_barrels M_crew M_fixed M_table M_strength M_wear M_numbers) [(true, 0), (false, 1), (true, 1), (false, 3), (false, 4), (false, 5)] rfl (by decide) rfl rfl [.int r15] rfl (Nat.le_of_ble_eq_true rfl) ⟨Nat.le_of_ble_eq_true rfl, Nat.le_of_ble_eq_true rfl⟩ dX7_tie_97 100 0 0 rfl ⟨rfl, rfl⟩ ?_
                  refine vv_icmp_ne C 112 103 dX7_tie_100 (by decide) rfl (fun hc => ?_) (fun hc => ?_)
                  · replace h := ite_f hc h
                    refine vv_aload_n C dX7_tie_112 rfl 0 rfl 113 rfl ?_
                    refine vv_iconst C (v := 3) dX7_tie_113 (by decide) 114 rfl ?_
                    obtain ⟨r17, hr17, h⟩ := bnd_s h
                    refine vv_callVi C (fun l => mt_X7_fail l D c M 0 M_waters M_windX M_windY M_barrels M_crew 3 r17 hr17) gX7_tie_X7_fail rfl rfl rfl yd_X7_fail ⟨Nat.le_of_ble_eq_true rfl, Nat.le_of_ble_eq_true rfl⟩ [0] rfl (by decide) 0 rfl rfl (wX7_tie c M r17.2 M_waters M_windX M_windY M_barrels M_crew M_fixed M_table M_strength M_wear M_numbers) [(true, 0), (false, 1), (false, 2), (false, 3), (false, 4), (false, 5)] rfl (by decide) rfl rfl [] rfl (Nat.le_of_ble_eq_true rfl) ⟨Nat.le_of_ble_eq_true rfl, Nat.le_of_ble_eq_true rfl⟩ dX7_tie_114 117 0 0 rfl ⟨rfl, rfl⟩ ?_
                    obtain rfl := Option.some.inj h
                    exact ret _ _ dX7_tie_117
                  · replace h := ite_t hc h
                    refine vv_aload_n C dX7_tie_103 rfl 0 rfl 104 rfl ?_
                    refine vv_get C (q0 := 0) (ci := 7) (k := 12) kinX7_tie_X7 rfl rfl (by decide) kwX7_tie_2 rfl rfl dX7_tie_104 107 rfl ?_
                    refine vv_iconst C (v := 1) dX7_tie_107 (by decide) 108 rfl ?_
                    obtain ⟨hi, h⟩ := chk_s h
                    refine vv_iald C (q0 := 5) rfl hi dX7_tie_108 109 rfl ?_
                    refine vv_if_ne C 118 112 dX7_tie_109 (by decide) rfl (fun hc => ?_) (fun hc => ?_)
                    · replace h := ite_f hc h
                      refine vv_aload_n C dX7_tie_118 rfl 0 rfl 119 rfl ?_
                      refine vv_get C (q0 := 0) (ci := 7) (k := 9) kinX7_tie_X7 rfl rfl (by decide) kwX7_tie_3 rfl rfl dX7_tie_119 122 rfl ?_
                      refine vv_iload_n C dX7_tie_122 rfl 1 rfl 123 rfl ?_
                      refine vv_iload_n C dX7_tie_123 rfl 2 rfl 124 rfl ?_
                      obtain ⟨r18, hr18, h⟩ := bnd_s h
                      refine vv_callSi C (fun l => mt_X7_pair l D c a1 a2 r18 hr18) gX7_tie_X7_pair rfl rfl rfl yd_X7_pair ⟨Nat.le_of_ble_eq_true rfl, Nat.le_of_ble_eq_true rfl⟩ [] rfl (by decide) (wX7_tie c M 0 M_waters M_windX M_windY M_barrels M_crew M_fixed M_table M_strength M_wear M_numbers) [(false, 0), (false, 1), (false, 2), (false, 3), (false, 4), (false, 5)] rfl (by decide) rfl rfl [.ref (M 4)] rfl (Nat.le_of_ble_eq_true rfl) ⟨Nat.le_of_ble_eq_true rfl, Nat.le_of_ble_eq_true rfl⟩ dX7_tie_124 127 0 0 rfl ⟨rfl, rfl⟩ ?_
                      refine vv_iload_n C dX7_tie_127 rfl 3 rfl 128 rfl ?_
                      obtain ⟨hi, h⟩ := chk_s h
                      refine vv_iast C (q0 := 3) (wX7_tie c M 0 M_waters M_windX M_windY M_barrels M_crew M_fixed M_table (wr M_strength r18 a3) M_wear M_numbers) rfl hi rfl dX7_tie_128 129 rfl ?_
                      refine vv_aload_n C dX7_tie_129 rfl 0 rfl 130 rfl ?_
                      refine vv_get C (q0 := 0) (ci := 7) (k := 10) kinX7_tie_X7 rfl rfl (by decide) kwX7_tie_4 rfl rfl dX7_tie_130 133 rfl ?_
                      refine vv_iload_n C dX7_tie_133 rfl 1 rfl 134 rfl ?_
                      refine vv_iload_n C dX7_tie_134 rfl 2 rfl 135 rfl ?_
                      obtain ⟨r19, hr19, h⟩ := bnd_s h
                      refine vv_callSi C (fun l => mt_X7_pair l D c a1 a2 r19 hr19) gX7_tie_X7_pair rfl rfl rfl yd_X7_pair ⟨Nat.le_of_ble_eq_true rfl, Nat.le_of_ble_eq_true rfl⟩ [] rfl (by decide) (wX7_tie c M 0 M_waters M_windX M_windY M_barrels M_crew M_fixed M_table (wr M_strength r18 a3) M_wear M_numbers) [(false, 0), (false, 1), (false, 2), (false, 3), (false, 4), (false, 5)] rfl (by decide) rfl rfl [.ref (M 5)] rfl (Nat.le_of_ble_eq_true rfl) ⟨Nat.le_of_ble_eq_true rfl, Nat.le_of_ble_eq_true rfl⟩ dX7_tie_135 138 0 0 rfl ⟨rfl, rfl⟩ ?_
                      refine vv_iconst C (v := 0) dX7_tie_138 (by decide) 139 rfl ?_
                      obtain ⟨hi, h⟩ := chk_s h
                      refine vv_iast C (q0 := 4) (wX7_tie c M 0 M_waters M_windX M_windY M_barrels M_crew M_fixed M_table (wr M_strength r18 a3) (wr M_wear r19 0) M_numbers) rfl hi rfl dX7_tie_139 140 rfl ?_
                      refine vv_aload_n C dX7_tie_140 rfl 0 rfl 141 rfl ?_
                      refine vv_get C (q0 := 0) (ci := 7) (k := 12) kinX7_tie_X7 rfl rfl (by decide) kwX7_tie_2 rfl rfl dX7_tie_141 144 rfl ?_
                      refine vv_iconst C (v := 1) dX7_tie_144 (by decide) 145 rfl ?_
                      refine vv_dup2 C dX7_tie_145 rfl rfl 146 rfl ?_
                      obtain ⟨hi, h⟩ := chk_s h
                      refine vv_iald C (q0 := 5) rfl hi dX7_tie_146 147 rfl ?_
                      refine vv_iconst C (v := 1) dX7_tie_147 (by decide) 148 rfl ?_
                      refine vv_isub C dX7_tie_148 149 rfl ?_
                      obtain ⟨hi, h⟩ := chk_s h
                      refine vv_iast C (q0 := 5) (wX7_tie c M 0 M_waters M_windX M_windY M_barrels M_crew M_fixed M_table (wr M_strength r18 a3) (wr M_wear r19 0) (wr M_numbers 1 ((rd M_numbers 1) - 1))) rfl hi rfl dX7_tie_149 150 rfl ?_
                      refine vv_aload_n C dX7_tie_150 rfl 0 rfl 151 rfl ?_
                      refine vv_get C (q0 := 0) (ci := 7) (k := 12) kinX7_tie_X7 rfl rfl (by decide) kwX7_tie_2 rfl rfl dX7_tie_151 154 rfl ?_
                      refine vv_iconst C (v := 1) dX7_tie_154 (by decide) 155 rfl ?_
                      obtain ⟨hi, h⟩ := chk_s h
                      refine vv_iald C (q0 := 5) rfl hi dX7_tie_155 156 rfl ?_
                      obtain rfl := Option.some.inj h
                      exact ret _ _ dX7_tie_156
                    · replace h := ite_t hc h
                      refine vv_aload_n C dX7_tie_112 rfl 0 rfl 113 rfl ?_
                      refine vv_iconst C (v := 3) dX7_tie_113 (by decide) 114 rfl ?_
                      obtain ⟨r20, hr20, h⟩ := bnd_s h
                      refine vv_callVi C (fun l => mt_X7_fail l D c M 0 M_waters M_windX M_windY M_barrels M_crew 3 r20 hr20) gX7_tie_X7_fail rfl rfl rfl yd_X7_fail ⟨Nat.le_of_ble_eq_true rfl, Nat.le_of_ble_eq_true rfl⟩ [0] rfl (by decide) 0 rfl rfl (wX7_tie c M r20.2 M_waters M_windX M_windY M_barrels M_crew M_fixed M_table M_strength M_wear M_numbers) [(true, 0), (false, 1), (false, 2), (false, 3), (false, 4), (false, 5)] rfl (by decide) rfl rfl [] rfl (Nat.le_of_ble_eq_true rfl) ⟨Nat.le_of_ble_eq_true rfl, Nat.le_of_ble_eq_true rfl⟩ dX7_tie_114 117 0 0 rfl ⟨rfl, rfl⟩ ?_
                      obtain rfl := Option.some.inj h
                      exact ret _ _ dX7_tie_117
        · replace h := ite_t hc h
          refine vv_aload_n C dX7_tie_42 rfl 0 rfl 43 rfl ?_
          refine vv_iconst C (v := 2) dX7_tie_43 (by decide) 44 rfl ?_
          obtain ⟨r21, hr21, h⟩ := bnd_s h
          refine vv_callVi C (fun l => mt_X7_fail l D c M 0 M_waters M_windX M_windY M_barrels M_crew 2 r21 hr21) gX7_tie_X7_fail rfl rfl rfl yd_X7_fail ⟨Nat.le_of_ble_eq_true rfl, Nat.le_of_ble_eq_true rfl⟩ [0] rfl (by decide) 0 rfl rfl (wX7_tie c M r21.2 M_waters M_windX M_windY M_barrels M_crew M_fixed M_table M_strength M_wear M_numbers) [(true, 0), (false, 1), (false, 2), (false, 3), (false, 4), (false, 5)] rfl (by decide) rfl rfl [] rfl (Nat.le_of_ble_eq_true rfl) ⟨Nat.le_of_ble_eq_true rfl, Nat.le_of_ble_eq_true rfl⟩ dX7_tie_44 47 0 0 rfl ⟨rfl, rfl⟩ ?_
          obtain rfl := Option.some.inj h
          exact ret _ _ dX7_tie_47
    · replace h := ite_t hc h
      refine vv_aload_n C dX7_tie_21 rfl 0 rfl 22 rfl ?_
      refine vv_iconst C (v := 1) dX7_tie_22 (by decide) 23 rfl ?_
      obtain ⟨r22, hr22, h⟩ := bnd_s h
      refine vv_callVi C (fun l => mt_X7_fail l D c M 0 M_waters M_windX M_windY M_barrels M_crew 1 r22 hr22) gX7_tie_X7_fail rfl rfl rfl yd_X7_fail ⟨Nat.le_of_ble_eq_true rfl, Nat.le_of_ble_eq_true rfl⟩ [0] rfl (by decide) 0 rfl rfl (wX7_tie c M r22.2 M_waters M_windX M_windY M_barrels M_crew M_fixed M_table M_strength M_wear M_numbers) [(true, 0), (false, 1), (false, 2), (false, 3), (false, 4), (false, 5)] rfl (by decide) rfl rfl [] rfl (Nat.le_of_ble_eq_true rfl) ⟨Nat.le_of_ble_eq_true rfl, Nat.le_of_ble_eq_true rfl⟩ dX7_tie_23 26 0 0 rfl ⟨rfl, rfl⟩ ?_
      obtain rfl := Option.some.inj h
      exact ret _ _ dX7_tie_26
