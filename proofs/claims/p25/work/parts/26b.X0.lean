abbrev wX0_firstAfloat (c : Nat → ClassId) (B : Nat → Nat) (B_number : Int32) (B_state : Nat → Int32) : va_W := [(B 0, .inr (0, [.ref (B 1), .ref (B 2), .ref (B 3), .ref (B 4), .ref (B 5), .ref (B 6), .ref (B 7), .ref (B 8), .ref (B 9), .ref (B 10), .ref (B 11), .int B_number])), aI c (B 8) 24 B_state]
abbrev rmX0_firstAfloat : Room := { frames := 0, cells := 0, slots := 0, locals := 0 }
theorem yd_X0_firstAfloat : yX0_firstAfloat.cls = RX0 ∧ yX0_firstAfloat.cls ≠ "java/lang/invoke/MethodHandle" ∧ yX0_firstAfloat.cls ≠ "java/lang/invoke/VarHandle" ∧ (parseMethodDescriptor yX0_firstAfloat.desc).map (fun d => d.parameters.length) = some 0 := by decide +kernel
theorem kwX0_firstAfloat_1 : Cond.fieldLink RX0 45 "BarrelRaft$Barrels" "number" "I" ∈ wsX0_firstAfloat := List.mem_of_getElem? (i := 1) rfl
set_option maxRecDepth 20000 in
theorem kinX0_firstAfloat_X0 : ∀ w ∈ u_ws RX0 TX0 12, w ∈ wsX0_firstAfloat := by decide +kernel
theorem kwX0_firstAfloat_2 : Cond.fieldLink RX0 33 "BarrelRaft$Barrels" "state" "[I" ∈ wsX0_firstAfloat := List.mem_of_getElem? (i := 2) rfl
def jX0_firstAfloat_L2 (B_number : Int32) (B_state : Nat → Int32) (n : Nat) (v1_2 : Int32) : Option ((Int32) ⊕ (Unit)) :=
  match n with
  | 0 => none
  | n + 1 => (if B_number ≤ v1_2 then some (Sum.inr ()) else chk 24 v1_2 ((if rd B_state v1_2 = 0 then some (Sum.inl v1_2) else jX0_firstAfloat_L2 B_number B_state n (v1_2 + 1))))
def jX0_firstAfloat (B_number : Int32) (B_state : Nat → Int32) : Option (Int32) :=
  bnd (jX0_firstAfloat_L2 B_number B_state FU 0) (fun r1 => sel r1 (fun r1_0 => some r1_0) (fun r1_1 => some (-1)))
set_option maxHeartbeats 4000000 in
set_option maxRecDepth 100000 in
theorem mt_X0_firstAfloat (l : Launch) (D : va_G) (c : Nat → ClassId) (B : Nat → Nat) (B_number : Int32) (B_state : Nat → Int32) (q0 : Int32) (h : jX0_firstAfloat B_number B_state = some q0) : DTi l yX0_firstAfloat wsX0_firstAfloat rmX0_firstAfloat D c (wX0_firstAfloat c B B_number B_state) [.ref (B 0)] q0 (wX0_firstAfloat c B B_number B_state) 0 0 := by
  refine DTi_of (cc := cX0_firstAfloat) (nL := 2) RX0 rfl (by decide) rfl (Nat.le_of_ble_eq_true rfl) (fun g C ret => ?_)
  unfold jX0_firstAfloat at h
  refine vv_lv [0] [(0, .ref (B 0))] rfl ?_
  refine vv_iconst C (v := 0) dX0_firstAfloat_0 (by decide) 1 rfl ?_
  refine vv_istore_n C [(1, .int 0), (0, .ref (B 0))] dX0_firstAfloat_1 rfl (by decide) rfl 2 rfl ?_
  refine vv_lv [1, 0] [(0, .ref (B 0)), (1, .int 0)] rfl ?_
  have L2 : ∀ (n : Nat) (v1_2 : Int32) (q2 : (Int32) ⊕ (Unit)), jX0_firstAfloat_L2 B_number B_state n v1_2 = some q2 → ((∀ w, q2 = (Sum.inl w) → VV g D 2 0 0 (wX0_firstAfloat c B B_number B_state) [(1, .int w)] 19 []) ∧ (∀ w, q2 = (Sum.inr w) → VV g D 2 0 0 (wX0_firstAfloat c B B_number B_state) [] 27 [])) → VV g D 2 0 0 (wX0_firstAfloat c B B_number B_state) [(0, .ref (B 0)), (1, .int v1_2)] 2 [] := by
    intro n
    induction n with
    | zero =>
      intro v1_2 q2 h _
      rw [jX0_firstAfloat_L2] at h
      cases h
    | succ n ih2 =>
      intro v1_2 q2 h kk2
      rw [jX0_firstAfloat_L2] at h
      refine vv_iload_n C dX0_firstAfloat_2 rfl 1 rfl 3 rfl ?_
      refine vv_aload_n C dX0_firstAfloat_3 rfl 0 rfl 4 rfl ?_
      refine vv_get C (q0 := 0) (ci := 0) (k := 11) kinX0_firstAfloat_X0 rfl rfl (by decide) kwX0_firstAfloat_1 rfl rfl dX0_firstAfloat_4 7 rfl ?_
      refine vv_icmp_ge C 27 10 dX0_firstAfloat_7 (by decide) rfl (fun hc => ?_) (fun hc => ?_)
      · replace h := ite_t hc h
        refine vv_lv [] [] rfl ?_
        exact kk2.2 _ (Option.some.inj h).symm
      · replace h := ite_f hc h
        refine vv_aload_n C dX0_firstAfloat_10 rfl 0 rfl 11 rfl ?_
        refine vv_get C (q0 := 0) (ci := 0) (k := 7) kinX0_firstAfloat_X0 rfl rfl (by decide) kwX0_firstAfloat_2 rfl rfl dX0_firstAfloat_11 14 rfl ?_
        refine vv_iload_n C dX0_firstAfloat_14 rfl 1 rfl 15 rfl ?_
        obtain ⟨hi, h⟩ := chk_s h
        refine vv_iald C (q0 := 1) rfl hi dX0_firstAfloat_15 16 rfl ?_
        refine vv_if_ne C 21 19 dX0_firstAfloat_16 (by decide) rfl (fun hc => ?_) (fun hc => ?_)
        · replace h := ite_f hc h
          refine vv_iinc C (k := 1) [(1, .int (v1_2 + 1)), (0, .ref (B 0))] dX0_firstAfloat_21 rfl rfl (by decide) rfl 24 rfl ?_
          refine vv_goto C 2 dX0_firstAfloat_24 (by decide) ?_
          refine vv_lv [1, 0] [(0, .ref (B 0)), (1, .int (v1_2 + 1))] rfl ?_
          exact ih2 (v1_2 + 1) _ h kk2
        · replace h := ite_t hc h
          refine vv_lv [1] [(1, .int v1_2)] rfl ?_
          exact kk2.1 _ (Option.some.inj h).symm
  obtain ⟨r1, hr1, h⟩ := bnd_s h
  refine L2 FU 0 r1 hr1 ⟨fun r1_0 e => ?_, fun r1_1 e => ?_⟩
  · subst e
    replace h := sel_l h
    refine vv_iload_n C dX0_firstAfloat_19 rfl 0 rfl 20 rfl ?_
    obtain rfl := Option.some.inj h
    exact ret _ _ dX0_firstAfloat_20
  · subst e
    replace h := sel_r h
    refine vv_iconst C (v := (-1)) dX0_firstAfloat_27 (by decide) 28 rfl ?_
    obtain rfl := Option.some.inj h
    exact ret _ _ dX0_firstAfloat_28
abbrev wX0_append (c : Nat → ClassId) (B : Nat → Nat) (B_number : Int32) (B_column : Nat → Int32) (B_row : Nat → Int32) (B_lift : Nat → Int32) (B_leak : Nat → Int32) (B_state : Nat → Int32) (B_x : Nat → Int32) (B_y : Nat → Int32) (B_piece : Nat → Int32) : va_W := [(B 0, .inr (0, [.ref (B 1), .ref (B 2), .ref (B 3), .ref (B 4), .ref (B 5), .ref (B 6), .ref (B 7), .ref (B 8), .ref (B 9), .ref (B 10), .ref (B 11), .int B_number])), aI c (B 1) 24 B_column, aI c (B 2) 24 B_row, aI c (B 3) 24 B_lift, aI c (B 4) 24 B_leak, aI c (B 8) 24 B_state, aI c (B 9) 24 B_x, aI c (B 10) 24 B_y, aI c (B 11) 24 B_piece]
abbrev rmX0_append : Room := { frames := 1, cells := 0, slots := 0, locals := 21 }
theorem yd_X0_append : yX0_append.cls = RX0 ∧ yX0_append.cls ≠ "java/lang/invoke/MethodHandle" ∧ yX0_append.cls ≠ "java/lang/invoke/VarHandle" ∧ (parseMethodDescriptor yX0_append.desc).map (fun d => d.parameters.length) = some 4 := by decide +kernel
theorem kwX0_append_1 : Cond.fieldLink RX0 45 "BarrelRaft$Barrels" "number" "I" ∈ wsX0_append := List.mem_of_getElem? (i := 1) rfl
set_option maxRecDepth 20000 in
theorem kinX0_append_X0 : ∀ w ∈ u_ws RX0 TX0 12, w ∈ wsX0_append := by decide +kernel
theorem kwX0_append_2 : Cond.fieldLink RX0 36 "BarrelRaft$Barrels" "x" "[I" ∈ wsX0_append := List.mem_of_getElem? (i := 2) rfl
theorem kwX0_append_3 : Cond.fieldLink RX0 39 "BarrelRaft$Barrels" "y" "[I" ∈ wsX0_append := List.mem_of_getElem? (i := 3) rfl
theorem kwX0_append_4 : Cond.fieldLink RX0 9 "BarrelRaft$Barrels" "column" "[I" ∈ wsX0_append := List.mem_of_getElem? (i := 4) rfl
theorem kwX0_append_5 : Cond.fieldLink RX0 15 "BarrelRaft$Barrels" "row" "[I" ∈ wsX0_append := List.mem_of_getElem? (i := 5) rfl
theorem kwX0_append_6 : Cond.fieldLink RX0 18 "BarrelRaft$Barrels" "lift" "[I" ∈ wsX0_append := List.mem_of_getElem? (i := 6) rfl
theorem kwX0_append_7 : Cond.fieldLink RX0 21 "BarrelRaft$Barrels" "leak" "[I" ∈ wsX0_append := List.mem_of_getElem? (i := 7) rfl
theorem kwX0_append_8 : Cond.fieldLink RX0 42 "BarrelRaft$Barrels" "piece" "[I" ∈ wsX0_append := List.mem_of_getElem? (i := 8) rfl
def jX0_append (B_number : Int32) (B_column : Nat → Int32) (B_row : Nat → Int32) (B_lift : Nat → Int32) (B_leak : Nat → Int32) (B_state : Nat → Int32) (B_x : Nat → Int32) (B_y : Nat → Int32) (B_piece : Nat → Int32) (a1 : Int32) (a2 : Int32) (a3 : Int32) (a4 : Int32) : Option (Int32 × Int32 × (Nat → Int32) × (Nat → Int32) × (Nat → Int32) × (Nat → Int32) × (Nat → Int32) × (Nat → Int32) × (Nat → Int32)) :=
  (if 24 ≤ B_number then some (B_number, B_number, B_column, B_row, B_lift, B_leak, B_x, B_y, B_piece) else bnd (jX0_firstAfloat B_number B_state) (fun r1 => jn (fun (x41 : Int32) => chk 24 B_number (jn (fun (x65 : Int32) => chk 24 B_number (chk 24 B_number (chk 24 B_number (chk 24 B_number (chk 24 B_number (chk 24 B_number (some (B_number, B_number + 1, wr B_column B_number a1, wr B_row B_number a2, wr B_lift B_number a3, wr B_leak B_number a4, wr B_x B_number x41, wr B_y B_number x65, wr B_piece B_number B_number)))))))) (fun k65 => if r1 < 0 then k65 10 else chk 24 r1 (k65 (rd B_y r1))))) (fun k41 => if r1 < 0 then k41 0 else chk 24 r1 (k41 (rd B_x r1)))))
set_option maxHeartbeats 4000000 in
set_option maxRecDepth 100000 in
theorem mt_X0_append (l : Launch) (D : va_G) (c : Nat → ClassId) (B : Nat → Nat) (B_number : Int32) (B_column : Nat → Int32) (B_row : Nat → Int32) (B_lift : Nat → Int32) (B_leak : Nat → Int32) (B_state : Nat → Int32) (B_x : Nat → Int32) (B_y : Nat → Int32) (B_piece : Nat → Int32) (a1 : Int32) (a2 : Int32) (a3 : Int32) (a4 : Int32) (q0 : Int32 × Int32 × (Nat → Int32) × (Nat → Int32) × (Nat → Int32) × (Nat → Int32) × (Nat → Int32) × (Nat → Int32) × (Nat → Int32)) (h : jX0_append B_number B_column B_row B_lift B_leak B_state B_x B_y B_piece a1 a2 a3 a4 = some q0) : DTi l yX0_append wsX0_append rmX0_append D c (wX0_append c B B_number B_column B_row B_lift B_leak B_state B_x B_y B_piece) [.ref (B 0), .int a1, .int a2, .int a3, .int a4] q0.1 (wX0_append c B q0.2.1 q0.2.2.1 q0.2.2.2.1 q0.2.2.2.2.1 q0.2.2.2.2.2.1 B_state q0.2.2.2.2.2.2.1 q0.2.2.2.2.2.2.2.1 q0.2.2.2.2.2.2.2.2) 0 0 := by
  refine DTi_of (cc := cX0_append) (nL := 7) RX0 rfl (by decide) rfl (Nat.le_of_ble_eq_true rfl) (fun g C ret => ?_)
  unfold jX0_append at h
  refine vv_lv [0, 1, 2, 3, 4] [(0, .ref (B 0)), (1, .int a1), (2, .int a2), (3, .int a3), (4, .int a4)] rfl ?_
  refine vv_aload_n C dX0_append_0 rfl 0 rfl 1 rfl ?_
  refine vv_get C (q0 := 0) (ci := 0) (k := 11) kinX0_append_X0 rfl rfl (by decide) kwX0_append_1 rfl rfl dX0_append_1 4 rfl ?_
  refine vv_istore C [(5, .int B_number), (0, .ref (B 0)), (1, .int a1), (2, .int a2), (3, .int a3), (4, .int a4)] dX0_append_4 (by decide) rfl 6 rfl ?_
  refine vv_iload C dX0_append_6 0 rfl 8 rfl ?_
  refine vv_bipush C (v := 24) dX0_append_8 (by decide) 10 rfl ?_
  refine vv_icmp_ge C 118 13 dX0_append_10 (by decide) rfl (fun hc => ?_) (fun hc => ?_)
  · replace h := ite_t hc h
    refine vv_iload C dX0_append_118 0 rfl 120 rfl ?_
    obtain rfl := Option.some.inj h
    exact ret _ _ dX0_append_120
  · replace h := ite_f hc h
    refine vv_aload_n C dX0_append_13 rfl 1 rfl 14 rfl ?_
    obtain ⟨r1, hr1, h⟩ := bnd_s h
    refine vv_callVi C (fun l => mt_X0_firstAfloat l D c B B_number B_state r1 hr1) gX0_append_X0_firstAfloat rfl rfl rfl yd_X0_firstAfloat ⟨Nat.le_of_ble_eq_true rfl, Nat.le_of_ble_eq_true rfl⟩ [0, 5] rfl (by decide) 0 rfl rfl (wX0_append c B B_number B_column B_row B_lift B_leak B_state B_x B_y B_piece) [(true, 0), (false, 1), (false, 2), (false, 3), (false, 4), (true, 1), (false, 6), (false, 7), (false, 8)] rfl (by decide) rfl rfl [] rfl (Nat.le_of_ble_eq_true rfl) ⟨Nat.le_of_ble_eq_true rfl, Nat.le_of_ble_eq_true rfl⟩ dX0_append_14 17 0 0 rfl ⟨rfl, rfl⟩ ?_
    refine vv_istore C [(6, .int r1), (5, .int B_number), (0, .ref (B 0)), (1, .int a1), (2, .int a2), (3, .int a3), (4, .int a4)] dX0_append_17 (by decide) rfl 19 rfl ?_
    refine vv_aload_n C dX0_append_19 rfl 2 rfl 20 rfl ?_
    refine vv_get C (q0 := 0) (ci := 0) (k := 8) kinX0_append_X0 rfl rfl (by decide) kwX0_append_2 rfl rfl dX0_append_20 23 rfl ?_
    refine vv_iload C dX0_append_23 1 rfl 25 rfl ?_
    refine vv_iload C dX0_append_25 0 rfl 27 rfl ?_
    obtain ⟨k41, hk41, h⟩ := jn_s h
    have J41 : ∀ (x41 : Int32), k41 x41 = some q0 → VV g D 7 0 0 (wX0_append c B B_number B_column B_row B_lift B_leak B_state B_x B_y B_piece) [(0, .ref (B 0)), (1, .int a1), (2, .int a2), (3, .int a3), (4, .int a4), (5, .int B_number), (6, .int r1)] 41 [.int x41, .int B_number, .ref (B 9)] := by
      intro x41 h
      replace h := jn_u hk41 h
      obtain ⟨hi, h⟩ := chk_s h
      refine vv_iast C (q0 := 6) (wX0_append c B B_number B_column B_row B_lift B_leak B_state (wr B_x B_number x41) B_y B_piece) rfl hi rfl dX0_append_41 42 rfl ?_
      refine vv_aload_n C dX0_append_42 rfl 0 rfl 43 rfl ?_
      refine vv_get C (q0 := 0) (ci := 0) (k := 9) kinX0_append_X0 rfl rfl (by decide) kwX0_append_3 rfl rfl dX0_append_43 46 rfl ?_
      refine vv_iload C dX0_append_46 5 rfl 48 rfl ?_
      refine vv_iload C dX0_append_48 6 rfl 50 rfl ?_
      obtain ⟨k65, hk65, h⟩ := jn_s h
      have J65 : ∀ (x65 : Int32), k65 x65 = some q0 → VV g D 7 0 0 (wX0_append c B B_number B_column B_row B_lift B_leak B_state (wr B_x B_number x41) B_y B_piece) [(0, .ref (B 0)), (1, .int a1), (2, .int a2), (3, .int a3), (4, .int a4), (5, .int B_number)] 65 [.int x65, .int B_number, .ref (B 10)] := by
        intro x65 h
        replace h := jn_u hk65 h
        obtain ⟨hi, h⟩ := chk_s h
        refine vv_iast C (q0 := 7) (wX0_append c B B_number B_column B_row B_lift B_leak B_state (wr B_x B_number x41) (wr B_y B_number x65) B_piece) rfl hi rfl dX0_append_65 66 rfl ?_
        refine vv_aload_n C dX0_append_66 rfl 0 rfl 67 rfl ?_
        refine vv_get C (q0 := 0) (ci := 0) (k := 0) kinX0_append_X0 rfl rfl (by decide) kwX0_append_4 rfl rfl dX0_append_67 70 rfl ?_
        refine vv_iload C dX0_append_70 5 rfl 72 rfl ?_
        refine vv_iload_n C dX0_append_72 rfl 1 rfl 73 rfl ?_
        obtain ⟨hi, h⟩ := chk_s h
        refine vv_iast C (q0 := 1) (wX0_append c B B_number (wr B_column B_number a1) B_row B_lift B_leak B_state (wr B_x B_number x41) (wr B_y B_number x65) B_piece) rfl hi rfl dX0_append_73 74 rfl ?_
        refine vv_aload_n C dX0_append_74 rfl 0 rfl 75 rfl ?_
        refine vv_get C (q0 := 0) (ci := 0) (k := 1) kinX0_append_X0 rfl rfl (by decide) kwX0_append_5 rfl rfl dX0_append_75 78 rfl ?_
        refine vv_iload C dX0_append_78 5 rfl 80 rfl ?_
        refine vv_iload_n C dX0_append_80 rfl 2 rfl 81 rfl ?_
        obtain ⟨hi, h⟩ := chk_s h
        refine vv_iast C (q0 := 2) (wX0_append c B B_number (wr B_column B_number a1) (wr B_row B_number a2) B_lift B_leak B_state (wr B_x B_number x41) (wr B_y B_number x65) B_piece) rfl hi rfl dX0_append_81 82 rfl ?_
        refine vv_aload_n C dX0_append_82 rfl 0 rfl 83 rfl ?_
        refine vv_get C (q0 := 0) (ci := 0) (k := 2) kinX0_append_X0 rfl rfl (by decide) kwX0_append_6 rfl rfl dX0_append_83 86 rfl ?_
        refine vv_iload C dX0_append_86 5 rfl 88 rfl ?_
        refine vv_iload_n C dX0_append_88 rfl 3 rfl 89 rfl ?_
        obtain ⟨hi, h⟩ := chk_s h
        refine vv_iast C (q0 := 3) (wX0_append c B B_number (wr B_column B_number a1) (wr B_row B_number a2) (wr B_lift B_number a3) B_leak B_state (wr B_x B_number x41) (wr B_y B_number x65) B_piece) rfl hi rfl dX0_append_89 90 rfl ?_
        refine vv_aload_n C dX0_append_90 rfl 0 rfl 91 rfl ?_
        refine vv_get C (q0 := 0) (ci := 0) (k := 3) kinX0_append_X0 rfl rfl (by decide) kwX0_append_7 rfl rfl dX0_append_91 94 rfl ?_
        refine vv_iload C dX0_append_94 5 rfl 96 rfl ?_
        refine vv_iload C dX0_append_96 4 rfl 98 rfl ?_
        obtain ⟨hi, h⟩ := chk_s h
        refine vv_iast C (q0 := 4) (wX0_append c B B_number (wr B_column B_number a1) (wr B_row B_number a2) (wr B_lift B_number a3) (wr B_leak B_number a4) B_state (wr B_x B_number x41) (wr B_y B_number x65) B_piece) rfl hi rfl dX0_append_98 99 rfl ?_
        refine vv_aload_n C dX0_append_99 rfl 0 rfl 100 rfl ?_
        refine vv_get C (q0 := 0) (ci := 0) (k := 10) kinX0_append_X0 rfl rfl (by decide) kwX0_append_8 rfl rfl dX0_append_100 103 rfl ?_
        refine vv_iload C dX0_append_103 5 rfl 105 rfl ?_
        refine vv_iload C dX0_append_105 5 rfl 107 rfl ?_
        obtain ⟨hi, h⟩ := chk_s h
        refine vv_iast C (q0 := 8) (wX0_append c B B_number (wr B_column B_number a1) (wr B_row B_number a2) (wr B_lift B_number a3) (wr B_leak B_number a4) B_state (wr B_x B_number x41) (wr B_y B_number x65) (wr B_piece B_number B_number)) rfl hi rfl dX0_append_107 108 rfl ?_
        refine vv_aload_n C dX0_append_108 rfl 0 rfl 109 rfl ?_
        refine vv_dup C dX0_append_109 rfl 110 rfl ?_
        refine vv_get C (q0 := 0) (ci := 0) (k := 11) kinX0_append_X0 rfl rfl (by decide) kwX0_append_1 rfl rfl dX0_append_110 113 rfl ?_
        refine vv_iconst C (v := 1) dX0_append_113 (by decide) 114 rfl ?_
        refine vv_iadd C dX0_append_114 115 rfl ?_
        refine vv_put C (q0 := 0) (ci := 0) (k := 11) (ty := .int) (wX0_append c B (B_number + 1) (wr B_column B_number a1) (wr B_row B_number a2) (wr B_lift B_number a3) (wr B_leak B_number a4) B_state (wr B_x B_number x41) (wr B_y B_number x65) (wr B_piece B_number B_number)) tyX0 tyX0_ok nmX0 kinX0_append_X0 rfl rfl (by decide) kwX0_append_1 rfl rfl rfl rfl rfl (Nat.le_of_ble_eq_true rfl) rfl dX0_append_115 118 rfl ?_
        refine vv_iload C dX0_append_118 5 rfl 120 rfl ?_
        obtain rfl := Option.some.inj h
        exact ret _ _ dX0_append_120
      refine vv_if_lt C 63 53 dX0_append_50 (by decide) rfl (fun hc => ?_) (fun hc => ?_)
      · replace h := ite_t hc h
        refine vv_bipush C (v := 10) dX0_append_63 (by decide) 65 rfl ?_
        refine vv_lv [0, 1, 2, 3, 4, 5] [(0, .ref (B 0)), (1, .int a1), (2, .int a2), (3, .int a3), (4, .int a4), (5, .int B_number)] rfl ?_
        exact J65 10 h
      · replace h := ite_f hc h
        refine vv_aload_n C dX0_append_53 rfl 0 rfl 54 rfl ?_
        refine vv_get C (q0 := 0) (ci := 0) (k := 9) kinX0_append_X0 rfl rfl (by decide) kwX0_append_3 rfl rfl dX0_append_54 57 rfl ?_
        refine vv_iload C dX0_append_57 6 rfl 59 rfl ?_
        obtain ⟨hi, h⟩ := chk_s h
        refine vv_iald C (q0 := 7) rfl hi dX0_append_59 60 rfl ?_
        refine vv_goto C 65 dX0_append_60 (by decide) ?_
        refine vv_lv [0, 1, 2, 3, 4, 5] [(0, .ref (B 0)), (1, .int a1), (2, .int a2), (3, .int a3), (4, .int a4), (5, .int B_number)] rfl ?_
        exact J65 (rd B_y r1) h
    refine vv_if_lt C 40 30 dX0_append_27 (by decide) rfl (fun hc => ?_) (fun hc => ?_)
    · replace h := ite_t hc h
      refine vv_iconst C (v := 0) dX0_append_40 (by decide) 41 rfl ?_
      refine vv_lv [2, 3, 4, 5, 6, 1, 0] [(0, .ref (B 0)), (1, .int a1), (2, .int a2), (3, .int a3), (4, .int a4), (5, .int B_number), (6, .int r1)] rfl ?_
      exact J41 0 h
    · replace h := ite_f hc h
      refine vv_aload_n C dX0_append_30 rfl 2 rfl 31 rfl ?_
      refine vv_get C (q0 := 0) (ci := 0) (k := 8) kinX0_append_X0 rfl rfl (by decide) kwX0_append_2 rfl rfl dX0_append_31 34 rfl ?_
      refine vv_iload C dX0_append_34 0 rfl 36 rfl ?_
      obtain ⟨hi, h⟩ := chk_s h
      refine vv_iald C (q0 := 6) rfl hi dX0_append_36 37 rfl ?_
      refine vv_goto C 41 dX0_append_37 (by decide) ?_
      refine vv_lv [2, 3, 4, 5, 6, 1, 0] [(0, .ref (B 0)), (1, .int a1), (2, .int a2), (3, .int a3), (4, .int a4), (5, .int B_number), (6, .int r1)] rfl ?_
      exact J41 (rd B_x r1) h
abbrev wX0_has (c : Nat → ClassId) (B : Nat → Nat) (B_number : Int32) : va_W := [(B 0, .inr (0, [.ref (B 1), .ref (B 2), .ref (B 3), .ref (B 4), .ref (B 5), .ref (B 6), .ref (B 7), .ref (B 8), .ref (B 9), .ref (B 10), .ref (B 11), .int B_number]))]
abbrev rmX0_has : Room := { frames := 0, cells := 0, slots := 0, locals := 0 }
theorem yd_X0_has : yX0_has.cls = RX0 ∧ yX0_has.cls ≠ "java/lang/invoke/MethodHandle" ∧ yX0_has.cls ≠ "java/lang/invoke/VarHandle" ∧ (parseMethodDescriptor yX0_has.desc).map (fun d => d.parameters.length) = some 1 := by decide +kernel
theorem kwX0_has_1 : Cond.fieldLink RX0 45 "BarrelRaft$Barrels" "number" "I" ∈ wsX0_has := List.mem_of_getElem? (i := 1) rfl
set_option maxRecDepth 20000 in
theorem kinX0_has_X0 : ∀ w ∈ u_ws RX0 TX0 12, w ∈ wsX0_has := by decide +kernel
def jX0_has (B_number : Int32) (a1 : Int32) : Option (Int32) :=
  (if a1 < 0 then chkZ 0 (some 0) else (if B_number ≤ a1 then chkZ 0 (some 0) else chkZ 1 (some 1)))
set_option maxHeartbeats 4000000 in
set_option maxRecDepth 100000 in
theorem mt_X0_has (l : Launch) (D : va_G) (c : Nat → ClassId) (B : Nat → Nat) (B_number : Int32) (a1 : Int32) (q0 : Int32) (h : jX0_has B_number a1 = some q0) : DTi l yX0_has wsX0_has rmX0_has D c (wX0_has c B B_number) [.ref (B 0), .int a1] q0 (wX0_has c B B_number) 0 0 := by
  refine DTz_of (cc := cX0_has) (nL := 2) RX0 rfl (by decide) rfl (Nat.le_of_ble_eq_true rfl) (fun g C ret => ?_)
  unfold jX0_has at h
  refine vv_lv [0, 1] [(0, .ref (B 0)), (1, .int a1)] rfl ?_
  refine vv_iload_n C dX0_has_0 rfl 1 rfl 1 rfl ?_
  refine vv_if_lt C 16 4 dX0_has_1 (by decide) rfl (fun hc => ?_) (fun hc => ?_)
  · replace h := ite_t hc h
    refine vv_iconst C (v := 0) dX0_has_16 (by decide) 17 rfl ?_
    obtain ⟨hz, h⟩ := chkZ_s h
    obtain rfl := Option.some.inj h
    exact ret _ _ hz dX0_has_17
  · replace h := ite_f hc h
    refine vv_iload_n C dX0_has_4 rfl 1 rfl 5 rfl ?_
    refine vv_aload_n C dX0_has_5 rfl 0 rfl 6 rfl ?_
    refine vv_get C (q0 := 0) (ci := 0) (k := 11) kinX0_has_X0 rfl rfl (by decide) kwX0_has_1 rfl rfl dX0_has_6 9 rfl ?_
    refine vv_icmp_ge C 16 12 dX0_has_9 (by decide) rfl (fun hc => ?_) (fun hc => ?_)
    · replace h := ite_t hc h
      refine vv_iconst C (v := 0) dX0_has_16 (by decide) 17 rfl ?_
      obtain ⟨hz, h⟩ := chkZ_s h
      obtain rfl := Option.some.inj h
      exact ret _ _ hz dX0_has_17
    · replace h := ite_f hc h
      refine vv_iconst C (v := 1) dX0_has_12 (by decide) 13 rfl ?_
      refine vv_goto C 17 dX0_has_13 (by decide) ?_
      obtain ⟨hz, h⟩ := chkZ_s h
      obtain rfl := Option.some.inj h
      exact ret _ _ hz dX0_has_17
abbrev wX0_floats (c : Nat → ClassId) (B : Nat → Nat) (B_number : Int32) (B_state : Nat → Int32) : va_W := [(B 0, .inr (0, [.ref (B 1), .ref (B 2), .ref (B 3), .ref (B 4), .ref (B 5), .ref (B 6), .ref (B 7), .ref (B 8), .ref (B 9), .ref (B 10), .ref (B 11), .int B_number])), aI c (B 8) 24 B_state]
abbrev rmX0_floats : Room := { frames := 1, cells := 0, slots := 0, locals := 21 }
theorem yd_X0_floats : yX0_floats.cls = RX0 ∧ yX0_floats.cls ≠ "java/lang/invoke/MethodHandle" ∧ yX0_floats.cls ≠ "java/lang/invoke/VarHandle" ∧ (parseMethodDescriptor yX0_floats.desc).map (fun d => d.parameters.length) = some 1 := by decide +kernel
theorem kwX0_floats_1 : Cond.fieldLink RX0 33 "BarrelRaft$Barrels" "state" "[I" ∈ wsX0_floats := List.mem_of_getElem? (i := 1) rfl
set_option maxRecDepth 20000 in
theorem kinX0_floats_X0 : ∀ w ∈ u_ws RX0 TX0 12, w ∈ wsX0_floats := by decide +kernel
def jX0_floats (B_number : Int32) (B_state : Nat → Int32) (a1 : Int32) : Option (Int32) :=
  bnd (jX0_has B_number a1) (fun r1 => (if r1 = 0 then chkZ 0 (some 0) else chk 24 a1 ((if rd B_state a1 = 0 then chkZ 1 (some 1) else chkZ 0 (some 0)))))
set_option maxHeartbeats 4000000 in
set_option maxRecDepth 100000 in
theorem mt_X0_floats (l : Launch) (D : va_G) (c : Nat → ClassId) (B : Nat → Nat) (B_number : Int32) (B_state : Nat → Int32) (a1 : Int32) (q0 : Int32) (h : jX0_floats B_number B_state a1 = some q0) : DTi l yX0_floats wsX0_floats rmX0_floats D c (wX0_floats c B B_number B_state) [.ref (B 0), .int a1] q0 (wX0_floats c B B_number B_state) 0 0 := by
  refine DTz_of (cc := cX0_floats) (nL := 2) RX0 rfl (by decide) rfl (Nat.le_of_ble_eq_true rfl) (fun g C ret => ?_)
  unfold jX0_floats at h
  refine vv_lv [0, 1] [(0, .ref (B 0)), (1, .int a1)] rfl ?_
  refine vv_aload_n C dX0_floats_0 rfl 0 rfl 1 rfl ?_
  refine vv_iload_n C dX0_floats_1 rfl 1 rfl 2 rfl ?_
  obtain ⟨r1, hr1, h⟩ := bnd_s h
  refine vv_callVi C (fun l => mt_X0_has l D c B B_number a1 r1 hr1) gX0_floats_X0_has rfl rfl rfl yd_X0_has ⟨Nat.le_of_ble_eq_true rfl, Nat.le_of_ble_eq_true rfl⟩ [0] rfl (by decide) 0 rfl rfl (wX0_floats c B B_number B_state) [(true, 0), (false, 1)] rfl (by decide) rfl rfl [] rfl (Nat.le_of_ble_eq_true rfl) ⟨Nat.le_of_ble_eq_true rfl, Nat.le_of_ble_eq_true rfl⟩ dX0_floats_2 5 0 0 rfl ⟨rfl, rfl⟩ ?_
  refine vv_if_eq C 21 8 dX0_floats_5 (by decide) rfl (fun hc => ?_) (fun hc => ?_)
  · replace h := ite_t hc h
    refine vv_iconst C (v := 0) dX0_floats_21 (by decide) 22 rfl ?_
    obtain ⟨hz, h⟩ := chkZ_s h
    obtain rfl := Option.some.inj h
    exact ret _ _ hz dX0_floats_22
  · replace h := ite_f hc h
    refine vv_aload_n C dX0_floats_8 rfl 0 rfl 9 rfl ?_
    refine vv_get C (q0 := 0) (ci := 0) (k := 7) kinX0_floats_X0 rfl rfl (by decide) kwX0_floats_1 rfl rfl dX0_floats_9 12 rfl ?_
    refine vv_iload_n C dX0_floats_12 rfl 1 rfl 13 rfl ?_
    obtain ⟨hi, h⟩ := chk_s h
    refine vv_iald C (q0 := 1) rfl hi dX0_floats_13 14 rfl ?_
    refine vv_if_ne C 21 17 dX0_floats_14 (by decide) rfl (fun hc => ?_) (fun hc => ?_)
    · replace h := ite_f hc h
      refine vv_iconst C (v := 0) dX0_floats_21 (by decide) 22 rfl ?_
      obtain ⟨hz, h⟩ := chkZ_s h
      obtain rfl := Option.some.inj h
      exact ret _ _ hz dX0_floats_22
    · replace h := ite_t hc h
      refine vv_iconst C (v := 1) dX0_floats_17 (by decide) 18 rfl ?_
      refine vv_goto C 22 dX0_floats_18 (by decide) ?_
      obtain ⟨hz, h⟩ := chkZ_s h
      obtain rfl := Option.some.inj h
      exact ret _ _ hz dX0_floats_22
abbrev wX0_canBeTied (c : Nat → ClassId) (B : Nat → Nat) (B_number : Int32) (B_column : Nat → Int32) (B_row : Nat → Int32) (B_state : Nat → Int32) (B_x : Nat → Int32) (B_y : Nat → Int32) : va_W := [(B 0, .inr (0, [.ref (B 1), .ref (B 2), .ref (B 3), .ref (B 4), .ref (B 5), .ref (B 6), .ref (B 7), .ref (B 8), .ref (B 9), .ref (B 10), .ref (B 11), .int B_number])), aI c (B 1) 24 B_column, aI c (B 2) 24 B_row, aI c (B 8) 24 B_state, aI c (B 9) 24 B_x, aI c (B 10) 24 B_y]
abbrev rmX0_canBeTied : Room := { frames := 2, cells := 0, slots := 0, locals := 42 }
theorem yd_X0_canBeTied : yX0_canBeTied.cls = RX0 ∧ yX0_canBeTied.cls ≠ "java/lang/invoke/MethodHandle" ∧ yX0_canBeTied.cls ≠ "java/lang/invoke/VarHandle" ∧ (parseMethodDescriptor yX0_canBeTied.desc).map (fun d => d.parameters.length) = some 2 := by decide +kernel
theorem kwX0_canBeTied_1 : Cond.fieldLink RX0 9 "BarrelRaft$Barrels" "column" "[I" ∈ wsX0_canBeTied := List.mem_of_getElem? (i := 1) rfl
set_option maxRecDepth 20000 in
theorem kinX0_canBeTied_X0 : ∀ w ∈ u_ws RX0 TX0 12, w ∈ wsX0_canBeTied := by decide +kernel
theorem kwX0_canBeTied_2 : Cond.methodLink RX0 56 Lib.Math.abs.name ∈ wsX0_canBeTied := List.mem_of_getElem? (i := 2) rfl
theorem kwX0_canBeTied_3 : Cond.static Lib.Math.abs.name ∈ wsX0_canBeTied := List.mem_of_getElem? (i := 3) rfl
theorem kwX0_canBeTied_4 : Cond.initialized "java/lang/Math" ∈ wsX0_canBeTied := List.mem_of_getElem? (i := 4) rfl
theorem kwX0_canBeTied_5 : Cond.code Lib.Math.abs.name Lib.Math.abs.code 1 (some .int) ∈ wsX0_canBeTied := List.mem_of_getElem? (i := 5) rfl
theorem kwX0_canBeTied_6 : Cond.fieldLink RX0 15 "BarrelRaft$Barrels" "row" "[I" ∈ wsX0_canBeTied := List.mem_of_getElem? (i := 6) rfl
theorem kwX0_canBeTied_7 : Cond.fieldLink RX0 36 "BarrelRaft$Barrels" "x" "[I" ∈ wsX0_canBeTied := List.mem_of_getElem? (i := 7) rfl
theorem kwX0_canBeTied_8 : Cond.fieldLink RX0 39 "BarrelRaft$Barrels" "y" "[I" ∈ wsX0_canBeTied := List.mem_of_getElem? (i := 8) rfl
def jX0_canBeTied (B_number : Int32) (B_column : Nat → Int32) (B_row : Nat → Int32) (B_state : Nat → Int32) (B_x : Nat → Int32) (B_y : Nat → Int32) (a1 : Int32) (a2 : Int32) : Option (Int32) :=
  bnd (jX0_floats B_number B_state a1) (fun r1 => (if r1 = 0 then chkZ 0 (some 0) else bnd (jX0_floats B_number B_state a2) (fun r2 => (if r2 = 0 then chkZ 0 (some 0) else chk 24 a1 (chk 24 a2 (chk 24 a1 (chk 24 a2 ((if (mabs ((rd B_column a1) - (rd B_column a2))) + (mabs ((rd B_row a1) - (rd B_row a2))) = 1 then chk 24 a1 (chk 24 a2 ((if rd B_x a1 = rd B_x a2 then chk 24 a1 (chk 24 a2 ((if rd B_y a1 = rd B_y a2 then chkZ 1 (some 1) else chkZ 0 (some 0)))) else chkZ 0 (some 0)))) else chkZ 0 (some 0))))))))))
set_option maxHeartbeats 4000000 in
set_option maxRecDepth 100000 in
theorem mt_X0_canBeTied (l : Launch) (D : va_G) (c : Nat → ClassId) (B : Nat → Nat) (B_number : Int32) (B_column : Nat → Int32) (B_row : Nat → Int32) (B_state : Nat → Int32) (B_x : Nat → Int32) (B_y : Nat → Int32) (a1 : Int32) (a2 : Int32) (q0 : Int32) (h : jX0_canBeTied B_number B_column B_row B_state B_x B_y a1 a2 = some q0) : DTi l yX0_canBeTied wsX0_canBeTied rmX0_canBeTied D c (wX0_canBeTied c B B_number B_column B_row B_state B_x B_y) [.ref (B 0), .int a1, .int a2] q0 (wX0_canBeTied c B B_number B_column B_row B_state B_x B_y) 0 0 := by
  refine DTz_of (cc := cX0_canBeTied) (nL := 4) RX0 rfl (by decide) rfl (Nat.le_of_ble_eq_true rfl) (fun g C ret => ?_)
  unfold jX0_canBeTied at h
  refine vv_lv [0, 1, 2] [(0, .ref (B 0)), (1, .int a1), (2, .int a2)] rfl ?_
  refine vv_aload_n C dX0_canBeTied_0 rfl 0 rfl 1 rfl ?_
  refine vv_iload_n C dX0_canBeTied_1 rfl 1 rfl 2 rfl ?_
  obtain ⟨r1, hr1, h⟩ := bnd_s h
  refine vv_callVi C (fun l => mt_X0_floats l D c B B_number B_state a1 r1 hr1) gX0_canBeTied_X0_floats rfl rfl rfl yd_X0_floats ⟨Nat.le_of_ble_eq_true rfl, Nat.le_of_ble_eq_true rfl⟩ [0, 3] rfl (by decide) 0 rfl rfl (wX0_canBeTied c B B_number B_column B_row B_state B_x B_y) [(true, 0), (false, 1), (false, 2), (true, 1), (false, 4), (false, 5)] rfl (by decide) rfl rfl [] rfl (Nat.le_of_ble_eq_true rfl) ⟨Nat.le_of_ble_eq_true rfl, Nat.le_of_ble_eq_true rfl⟩ dX0_canBeTied_2 5 0 0 rfl ⟨rfl, rfl⟩ ?_
  refine vv_if_eq C 16 8 dX0_canBeTied_5 (by decide) rfl (fun hc => ?_) (fun hc => ?_)
  · replace h := ite_t hc h
    refine vv_iconst C (v := 0) dX0_canBeTied_16 (by decide) 17 rfl ?_
    obtain ⟨hz, h⟩ := chkZ_s h
    obtain rfl := Option.some.inj h
    exact ret _ _ hz dX0_canBeTied_17
  · replace h := ite_f hc h
    refine vv_aload_n C dX0_canBeTied_8 rfl 0 rfl 9 rfl ?_
    refine vv_iload_n C dX0_canBeTied_9 rfl 2 rfl 10 rfl ?_
    obtain ⟨r2, hr2, h⟩ := bnd_s h
    refine vv_callVi C (fun l => mt_X0_floats l D c B B_number B_state a2 r2 hr2) gX0_canBeTied_X0_floats rfl rfl rfl yd_X0_floats ⟨Nat.le_of_ble_eq_true rfl, Nat.le_of_ble_eq_true rfl⟩ [0, 3] rfl (by decide) 0 rfl rfl (wX0_canBeTied c B B_number B_column B_row B_state B_x B_y) [(true, 0), (false, 1), (false, 2), (true, 1), (false, 4), (false, 5)] rfl (by decide) rfl rfl [] rfl (Nat.le_of_ble_eq_true rfl) ⟨Nat.le_of_ble_eq_true rfl, Nat.le_of_ble_eq_true rfl⟩ dX0_canBeTied_10 13 0 0 rfl ⟨rfl, rfl⟩ ?_
    refine vv_if_ne C 18 16 dX0_canBeTied_13 (by decide) rfl (fun hc => ?_) (fun hc => ?_)
    · replace h := ite_f hc h
      refine vv_aload_n C dX0_canBeTied_18 rfl 0 rfl 19 rfl ?_
      refine vv_get C (q0 := 0) (ci := 0) (k := 0) kinX0_canBeTied_X0 rfl rfl (by decide) kwX0_canBeTied_1 rfl rfl dX0_canBeTied_19 22 rfl ?_
      refine vv_iload_n C dX0_canBeTied_22 rfl 1 rfl 23 rfl ?_
      obtain ⟨hi, h⟩ := chk_s h
      refine vv_iald C (q0 := 1) rfl hi dX0_canBeTied_23 24 rfl ?_
      refine vv_aload_n C dX0_canBeTied_24 rfl 0 rfl 25 rfl ?_
      refine vv_get C (q0 := 0) (ci := 0) (k := 0) kinX0_canBeTied_X0 rfl rfl (by decide) kwX0_canBeTied_1 rfl rfl dX0_canBeTied_25 28 rfl ?_
      refine vv_iload_n C dX0_canBeTied_28 rfl 2 rfl 29 rfl ?_
      obtain ⟨hi, h⟩ := chk_s h
      refine vv_iald C (q0 := 1) rfl hi dX0_canBeTied_29 30 rfl ?_
      refine vv_isub C dX0_canBeTied_30 31 rfl ?_
      refine vv_mabs C kwX0_canBeTied_2 kwX0_canBeTied_3 kwX0_canBeTied_4 kwX0_canBeTied_5 ⟨Nat.le_of_ble_eq_true rfl, Nat.le_of_ble_eq_true rfl⟩ ⟨Nat.le_of_ble_eq_true rfl, Nat.le_of_ble_eq_true rfl⟩ dX0_canBeTied_31 34 rfl ?_
      refine vv_aload_n C dX0_canBeTied_34 rfl 0 rfl 35 rfl ?_
      refine vv_get C (q0 := 0) (ci := 0) (k := 1) kinX0_canBeTied_X0 rfl rfl (by decide) kwX0_canBeTied_6 rfl rfl dX0_canBeTied_35 38 rfl ?_
      refine vv_iload_n C dX0_canBeTied_38 rfl 1 rfl 39 rfl ?_
      obtain ⟨hi, h⟩ := chk_s h
      refine vv_iald C (q0 := 2) rfl hi dX0_canBeTied_39 40 rfl ?_
      refine vv_aload_n C dX0_canBeTied_40 rfl 0 rfl 41 rfl ?_
      refine vv_get C (q0 := 0) (ci := 0) (k := 1) kinX0_canBeTied_X0 rfl rfl (by decide) kwX0_canBeTied_6 rfl rfl dX0_canBeTied_41 44 rfl ?_
      refine vv_iload_n C dX0_canBeTied_44 rfl 2 rfl 45 rfl ?_
      obtain ⟨hi, h⟩ := chk_s h
      refine vv_iald C (q0 := 2) rfl hi dX0_canBeTied_45 46 rfl ?_
      refine vv_isub C dX0_canBeTied_46 47 rfl ?_
      refine vv_mabs C kwX0_canBeTied_2 kwX0_canBeTied_3 kwX0_canBeTied_4 kwX0_canBeTied_5 ⟨Nat.le_of_ble_eq_true rfl, Nat.le_of_ble_eq_true rfl⟩ ⟨Nat.le_of_ble_eq_true rfl, Nat.le_of_ble_eq_true rfl⟩ dX0_canBeTied_47 50 rfl ?_
      refine vv_iadd C dX0_canBeTied_50 51 rfl ?_
      refine vv_istore_n C [(3, .int ((mabs ((rd B_column a1) - (rd B_column a2))) + (mabs ((rd B_row a1) - (rd B_row a2))))), (0, .ref (B 0)), (1, .int a1), (2, .int a2)] dX0_canBeTied_51 rfl (by decide) rfl 52 rfl ?_
      refine vv_iload_n C dX0_canBeTied_52 rfl 0 rfl 53 rfl ?_
      refine vv_iconst C (v := 1) dX0_canBeTied_53 (by decide) 54 rfl ?_
      refine vv_icmp_ne C 91 57 dX0_canBeTied_54 (by decide) rfl (fun hc => ?_) (fun hc => ?_)
      · replace h := ite_f hc h
        refine vv_iconst C (v := 0) dX0_canBeTied_91 (by decide) 92 rfl ?_
        obtain ⟨hz, h⟩ := chkZ_s h
        obtain rfl := Option.some.inj h
        exact ret _ _ hz dX0_canBeTied_92
      · replace h := ite_t hc h
        refine vv_aload_n C dX0_canBeTied_57 rfl 1 rfl 58 rfl ?_
        refine vv_get C (q0 := 0) (ci := 0) (k := 8) kinX0_canBeTied_X0 rfl rfl (by decide) kwX0_canBeTied_7 rfl rfl dX0_canBeTied_58 61 rfl ?_
        refine vv_iload_n C dX0_canBeTied_61 rfl 2 rfl 62 rfl ?_
        obtain ⟨hi, h⟩ := chk_s h
        refine vv_iald C (q0 := 4) rfl hi dX0_canBeTied_62 63 rfl ?_
        refine vv_aload_n C dX0_canBeTied_63 rfl 1 rfl 64 rfl ?_
        refine vv_get C (q0 := 0) (ci := 0) (k := 8) kinX0_canBeTied_X0 rfl rfl (by decide) kwX0_canBeTied_7 rfl rfl dX0_canBeTied_64 67 rfl ?_
        refine vv_iload_n C dX0_canBeTied_67 rfl 3 rfl 68 rfl ?_
        obtain ⟨hi, h⟩ := chk_s h
        refine vv_iald C (q0 := 4) rfl hi dX0_canBeTied_68 69 rfl ?_
        refine vv_icmp_ne C 91 72 dX0_canBeTied_69 (by decide) rfl (fun hc => ?_) (fun hc => ?_)
        · replace h := ite_f hc h
          refine vv_iconst C (v := 0) dX0_canBeTied_91 (by decide) 92 rfl ?_
          obtain ⟨hz, h⟩ := chkZ_s h
          obtain rfl := Option.some.inj h
          exact ret _ _ hz dX0_canBeTied_92
        · replace h := ite_t hc h
          refine vv_aload_n C dX0_canBeTied_72 rfl 1 rfl 73 rfl ?_
          refine vv_get C (q0 := 0) (ci := 0) (k := 9) kinX0_canBeTied_X0 rfl rfl (by decide) kwX0_canBeTied_8 rfl rfl dX0_canBeTied_73 76 rfl ?_
          refine vv_iload_n C dX0_canBeTied_76 rfl 2 rfl 77 rfl ?_
          obtain ⟨hi, h⟩ := chk_s h
          refine vv_iald C (q0 := 5) rfl hi dX0_canBeTied_77 78 rfl ?_
          refine vv_aload_n C dX0_canBeTied_78 rfl 1 rfl 79 rfl ?_
          refine vv_get C (q0 := 0) (ci := 0) (k := 9) kinX0_canBeTied_X0 rfl rfl (by decide) kwX0_canBeTied_8 rfl rfl dX0_canBeTied_79 82 rfl ?_
          refine vv_iload_n C dX0_canBeTied_82 rfl 3 rfl 83 rfl ?_
          obtain ⟨hi, h⟩ := chk_s h
          refine vv_iald C (q0 := 5) rfl hi dX0_canBeTied_83 84 rfl ?_
          refine vv_icmp_ne C 91 87 dX0_canBeTied_84 (by decide) rfl (fun hc => ?_) (fun hc => ?_)
          · replace h := ite_f hc h
            refine vv_iconst C (v := 0) dX0_canBeTied_91 (by decide) 92 rfl ?_
            obtain ⟨hz, h⟩ := chkZ_s h
            obtain rfl := Option.some.inj h
            exact ret _ _ hz dX0_canBeTied_92
          · replace h := ite_t hc h
            refine vv_iconst C (v := 1) dX0_canBeTied_87 (by decide) 88 rfl ?_
            refine vv_goto C 92 dX0_canBeTied_88 (by decide) ?_
            obtain ⟨hz, h⟩ := chkZ_s h
            obtain rfl := Option.some.inj h
            exact ret _ _ hz dX0_canBeTied_92
    · replace h := ite_t hc h
      refine vv_iconst C (v := 0) dX0_canBeTied_16 (by decide) 17 rfl ?_
      obtain ⟨hz, h⟩ := chkZ_s h
      obtain rfl := Option.some.inj h
      exact ret _ _ hz dX0_canBeTied_17
abbrev wX0_copyFrom (c : Nat → ClassId) (B : Nat → Nat) (F : Nat → Nat) (B_number : Int32) (B_column : Nat → Int32) (B_row : Nat → Int32) (B_lift : Nat → Int32) (B_leak : Nat → Int32) (B_water : Nat → Int32) (B_goods : Nat → Int32) (B_people : Nat → Int32) (B_state : Nat → Int32) (B_x : Nat → Int32) (B_y : Nat → Int32) (B_piece : Nat → Int32) (F_number : Int32) (F_column : Nat → Int32) (F_row : Nat → Int32) (F_lift : Nat → Int32) (F_leak : Nat → Int32) (F_water : Nat → Int32) (F_goods : Nat → Int32) (F_people : Nat → Int32) (F_state : Nat → Int32) (F_x : Nat → Int32) (F_y : Nat → Int32) (F_piece : Nat → Int32) : va_W := [(B 0, .inr (0, [.ref (B 1), .ref (B 2), .ref (B 3), .ref (B 4), .ref (B 5), .ref (B 6), .ref (B 7), .ref (B 8), .ref (B 9), .ref (B 10), .ref (B 11), .int B_number])), aI c (B 1) 24 B_column, aI c (B 2) 24 B_row, aI c (B 3) 24 B_lift, aI c (B 4) 24 B_leak, aI c (B 5) 24 B_water, aI c (B 6) 24 B_goods, aI c (B 7) 24 B_people, aI c (B 8) 24 B_state, aI c (B 9) 24 B_x, aI c (B 10) 24 B_y, aI c (B 11) 24 B_piece, (F 0, .inr (0, [.ref (F 1), .ref (F 2), .ref (F 3), .ref (F 4), .ref (F 5), .ref (F 6), .ref (F 7), .ref (F 8), .ref (F 9), .ref (F 10), .ref (F 11), .int F_number])), aI c (F 1) 24 F_column, aI c (F 2) 24 F_row, aI c (F 3) 24 F_lift, aI c (F 4) 24 F_leak, aI c (F 5) 24 F_water, aI c (F 6) 24 F_goods, aI c (F 7) 24 F_people, aI c (F 8) 24 F_state, aI c (F 9) 24 F_x, aI c (F 10) 24 F_y, aI c (F 11) 24 F_piece]
abbrev rmX0_copyFrom : Room := { frames := 1, cells := 0, slots := 0, locals := 60 }
theorem yd_X0_copyFrom : yX0_copyFrom.cls = RX0 ∧ yX0_copyFrom.cls ≠ "java/lang/invoke/MethodHandle" ∧ yX0_copyFrom.cls ≠ "java/lang/invoke/VarHandle" ∧ (parseMethodDescriptor yX0_copyFrom.desc).map (fun d => d.parameters.length) = some 1 := by decide +kernel
theorem kwX0_copyFrom_1 : Cond.fieldLink RX0 9 "BarrelRaft$Barrels" "column" "[I" ∈ wsX0_copyFrom := List.mem_of_getElem? (i := 1) rfl
set_option maxRecDepth 20000 in
theorem kinX0_copyFrom_X0 : ∀ w ∈ u_ws RX0 TX0 12, w ∈ wsX0_copyFrom := by decide +kernel
theorem kwX0_copyFrom_2 : Cond.methodLink RX0 73 arraycopyName ∈ wsX0_copyFrom := List.mem_of_getElem? (i := 2) rfl
theorem kwX0_copyFrom_3 : Cond.native arraycopyName ∈ wsX0_copyFrom := List.mem_of_getElem? (i := 3) rfl
theorem kwX0_copyFrom_4 : Cond.static arraycopyName ∈ wsX0_copyFrom := List.mem_of_getElem? (i := 4) rfl
theorem kwX0_copyFrom_5 : Cond.initialized "java/lang/System" ∈ wsX0_copyFrom := List.mem_of_getElem? (i := 5) rfl
theorem kwX0_copyFrom_6 : Cond.fieldLink RX0 15 "BarrelRaft$Barrels" "row" "[I" ∈ wsX0_copyFrom := List.mem_of_getElem? (i := 6) rfl
theorem kwX0_copyFrom_7 : Cond.fieldLink RX0 18 "BarrelRaft$Barrels" "lift" "[I" ∈ wsX0_copyFrom := List.mem_of_getElem? (i := 7) rfl
theorem kwX0_copyFrom_8 : Cond.fieldLink RX0 21 "BarrelRaft$Barrels" "leak" "[I" ∈ wsX0_copyFrom := List.mem_of_getElem? (i := 8) rfl
theorem kwX0_copyFrom_9 : Cond.fieldLink RX0 24 "BarrelRaft$Barrels" "water" "[I" ∈ wsX0_copyFrom := List.mem_of_getElem? (i := 9) rfl
theorem kwX0_copyFrom_10 : Cond.fieldLink RX0 27 "BarrelRaft$Barrels" "goods" "[I" ∈ wsX0_copyFrom := List.mem_of_getElem? (i := 10) rfl
theorem kwX0_copyFrom_11 : Cond.fieldLink RX0 30 "BarrelRaft$Barrels" "people" "[I" ∈ wsX0_copyFrom := List.mem_of_getElem? (i := 11) rfl
theorem kwX0_copyFrom_12 : Cond.fieldLink RX0 33 "BarrelRaft$Barrels" "state" "[I" ∈ wsX0_copyFrom := List.mem_of_getElem? (i := 12) rfl
theorem kwX0_copyFrom_13 : Cond.fieldLink RX0 36 "BarrelRaft$Barrels" "x" "[I" ∈ wsX0_copyFrom := List.mem_of_getElem? (i := 13) rfl
theorem kwX0_copyFrom_14 : Cond.fieldLink RX0 39 "BarrelRaft$Barrels" "y" "[I" ∈ wsX0_copyFrom := List.mem_of_getElem? (i := 14) rfl
theorem kwX0_copyFrom_15 : Cond.fieldLink RX0 42 "BarrelRaft$Barrels" "piece" "[I" ∈ wsX0_copyFrom := List.mem_of_getElem? (i := 15) rfl
theorem kwX0_copyFrom_16 : Cond.fieldLink RX0 45 "BarrelRaft$Barrels" "number" "I" ∈ wsX0_copyFrom := List.mem_of_getElem? (i := 16) rfl
def jX0_copyFrom (B_number : Int32) (B_column : Nat → Int32) (B_row : Nat → Int32) (B_lift : Nat → Int32) (B_leak : Nat → Int32) (B_water : Nat → Int32) (B_goods : Nat → Int32) (B_people : Nat → Int32) (B_state : Nat → Int32) (B_x : Nat → Int32) (B_y : Nat → Int32) (B_piece : Nat → Int32) (F_number : Int32) (F_column : Nat → Int32) (F_row : Nat → Int32) (F_lift : Nat → Int32) (F_leak : Nat → Int32) (F_water : Nat → Int32) (F_goods : Nat → Int32) (F_people : Nat → Int32) (F_state : Nat → Int32) (F_x : Nat → Int32) (F_y : Nat → Int32) (F_piece : Nat → Int32) : Option (Int32 × (Nat → Int32) × (Nat → Int32) × (Nat → Int32) × (Nat → Int32) × (Nat → Int32) × (Nat → Int32) × (Nat → Int32) × (Nat → Int32) × (Nat → Int32) × (Nat → Int32) × (Nat → Int32)) :=
  chkP (CPOK 24 24 0 0 24) (chkP (CPOK 24 24 0 0 24) (chkP (CPOK 24 24 0 0 24) (chkP (CPOK 24 24 0 0 24) (chkP (CPOK 24 24 0 0 24) (chkP (CPOK 24 24 0 0 24) (chkP (CPOK 24 24 0 0 24) (chkP (CPOK 24 24 0 0 24) (chkP (CPOK 24 24 0 0 24) (chkP (CPOK 24 24 0 0 24) (chkP (CPOK 24 24 0 0 24) (some (F_number, cpy F_column B_column 0 0 24, cpy F_row B_row 0 0 24, cpy F_lift B_lift 0 0 24, cpy F_leak B_leak 0 0 24, cpy F_water B_water 0 0 24, cpy F_goods B_goods 0 0 24, cpy F_people B_people 0 0 24, cpy F_state B_state 0 0 24, cpy F_x B_x 0 0 24, cpy F_y B_y 0 0 24, cpy F_piece B_piece 0 0 24))))))))))))
set_option maxHeartbeats 4000000 in
set_option maxRecDepth 100000 in
theorem mt_X0_copyFrom (l : Launch) (D : va_G) (c : Nat → ClassId) (B : Nat → Nat) (F : Nat → Nat) (B_number : Int32) (B_column : Nat → Int32) (B_row : Nat → Int32) (B_lift : Nat → Int32) (B_leak : Nat → Int32) (B_water : Nat → Int32) (B_goods : Nat → Int32) (B_people : Nat → Int32) (B_state : Nat → Int32) (B_x : Nat → Int32) (B_y : Nat → Int32) (B_piece : Nat → Int32) (F_number : Int32) (F_column : Nat → Int32) (F_row : Nat → Int32) (F_lift : Nat → Int32) (F_leak : Nat → Int32) (F_water : Nat → Int32) (F_goods : Nat → Int32) (F_people : Nat → Int32) (F_state : Nat → Int32) (F_x : Nat → Int32) (F_y : Nat → Int32) (F_piece : Nat → Int32) (q0 : Int32 × (Nat → Int32) × (Nat → Int32) × (Nat → Int32) × (Nat → Int32) × (Nat → Int32) × (Nat → Int32) × (Nat → Int32) × (Nat → Int32) × (Nat → Int32) × (Nat → Int32) × (Nat → Int32)) (h : jX0_copyFrom B_number B_column B_row B_lift B_leak B_water B_goods B_people B_state B_x B_y B_piece F_number F_column F_row F_lift F_leak F_water F_goods F_people F_state F_x F_y F_piece = some q0) : DTv l yX0_copyFrom wsX0_copyFrom rmX0_copyFrom D c (wX0_copyFrom c B F B_number B_column B_row B_lift B_leak B_water B_goods B_people B_state B_x B_y B_piece F_number F_column F_row F_lift F_leak F_water F_goods F_people F_state F_x F_y F_piece) [.ref (B 0), .ref (F 0)] (wX0_copyFrom c B F q0.1 q0.2.1 q0.2.2.1 q0.2.2.2.1 q0.2.2.2.2.1 q0.2.2.2.2.2.1 q0.2.2.2.2.2.2.1 q0.2.2.2.2.2.2.2.1 q0.2.2.2.2.2.2.2.2.1 q0.2.2.2.2.2.2.2.2.2.1 q0.2.2.2.2.2.2.2.2.2.2.1 q0.2.2.2.2.2.2.2.2.2.2.2 F_number F_column F_row F_lift F_leak F_water F_goods F_people F_state F_x F_y F_piece) 0 0 := by
  refine DTv_of (cc := cX0_copyFrom) (nL := 2) RX0 rfl (by decide) rfl (Nat.le_of_ble_eq_true rfl) (fun g C ret => ?_)
  unfold jX0_copyFrom at h
  refine vv_lv [0, 1] [(0, .ref (B 0)), (1, .ref (F 0))] rfl ?_
  refine vv_aload_n C dX0_copyFrom_0 rfl 1 rfl 1 rfl ?_
  refine vv_get C (q0 := 12) (ci := 0) (k := 0) kinX0_copyFrom_X0 rfl rfl (by decide) kwX0_copyFrom_1 rfl rfl dX0_copyFrom_1 4 rfl ?_
  refine vv_iconst C (v := 0) dX0_copyFrom_4 (by decide) 5 rfl ?_
  refine vv_aload_n C dX0_copyFrom_5 rfl 0 rfl 6 rfl ?_
  refine vv_get C (q0 := 0) (ci := 0) (k := 0) kinX0_copyFrom_X0 rfl rfl (by decide) kwX0_copyFrom_1 rfl rfl dX0_copyFrom_6 9 rfl ?_
  refine vv_iconst C (v := 0) dX0_copyFrom_9 (by decide) 10 rfl ?_
  refine vv_bipush C (v := 24) dX0_copyFrom_10 (by decide) 12 rfl ?_
  obtain ⟨hcp, h⟩ := chkP_s h
  refine vv_copy C (q0 := 13) (q1 := 1) (wX0_copyFrom c B F B_number (cpy F_column B_column 0 0 24) B_row B_lift B_leak B_water B_goods B_people B_state B_x B_y B_piece F_number F_column F_row F_lift F_leak F_water F_goods F_people F_state F_x F_y F_piece) kwX0_copyFrom_2 kwX0_copyFrom_3 kwX0_copyFrom_4 kwX0_copyFrom_5 rfl rfl hcp ⟨Nat.le_of_ble_eq_true rfl, Nat.le_of_ble_eq_true rfl⟩ rfl dX0_copyFrom_12 15 rfl ?_
  refine vv_aload_n C dX0_copyFrom_15 rfl 1 rfl 16 rfl ?_
  refine vv_get C (q0 := 12) (ci := 0) (k := 1) kinX0_copyFrom_X0 rfl rfl (by decide) kwX0_copyFrom_6 rfl rfl dX0_copyFrom_16 19 rfl ?_
  refine vv_iconst C (v := 0) dX0_copyFrom_19 (by decide) 20 rfl ?_
  refine vv_aload_n C dX0_copyFrom_20 rfl 0 rfl 21 rfl ?_
  refine vv_get C (q0 := 0) (ci := 0) (k := 1) kinX0_copyFrom_X0 rfl rfl (by decide) kwX0_copyFrom_6 rfl rfl dX0_copyFrom_21 24 rfl ?_
  refine vv_iconst C (v := 0) dX0_copyFrom_24 (by decide) 25 rfl ?_
  refine vv_bipush C (v := 24) dX0_copyFrom_25 (by decide) 27 rfl ?_
  obtain ⟨hcp, h⟩ := chkP_s h
  refine vv_copy C (q0 := 14) (q1 := 2) (wX0_copyFrom c B F B_number (cpy F_column B_column 0 0 24) (cpy F_row B_row 0 0 24) B_lift B_leak B_water B_goods B_people B_state B_x B_y B_piece F_number F_column F_row F_lift F_leak F_water F_goods F_people F_state F_x F_y F_piece) kwX0_copyFrom_2 kwX0_copyFrom_3 kwX0_copyFrom_4 kwX0_copyFrom_5 rfl rfl hcp ⟨Nat.le_of_ble_eq_true rfl, Nat.le_of_ble_eq_true rfl⟩ rfl dX0_copyFrom_27 30 rfl ?_
  refine vv_aload_n C dX0_copyFrom_30 rfl 1 rfl 31 rfl ?_
  refine vv_get C (q0 := 12) (ci := 0) (k := 2) kinX0_copyFrom_X0 rfl rfl (by decide) kwX0_copyFrom_7 rfl rfl dX0_copyFrom_31 34 rfl ?_
  refine vv_iconst C (v := 0) dX0_copyFrom_34 (by decide) 35 rfl ?_
  refine vv_aload_n C dX0_copyFrom_35 rfl 0 rfl 36 rfl ?_
  refine vv_get C (q0 := 0) (ci := 0) (k := 2) kinX0_copyFrom_X0 rfl rfl (by decide) kwX0_copyFrom_7 rfl rfl dX0_copyFrom_36 39 rfl ?_
  refine vv_iconst C (v := 0) dX0_copyFrom_39 (by decide) 40 rfl ?_
  refine vv_bipush C (v := 24) dX0_copyFrom_40 (by decide) 42 rfl ?_
  obtain ⟨hcp, h⟩ := chkP_s h
  refine vv_copy C (q0 := 15) (q1 := 3) (wX0_copyFrom c B F B_number (cpy F_column B_column 0 0 24) (cpy F_row B_row 0 0 24) (cpy F_lift B_lift 0 0 24) B_leak B_water B_goods B_people B_state B_x B_y B_piece F_number F_column F_row F_lift F_leak F_water F_goods F_people F_state F_x F_y F_piece) kwX0_copyFrom_2 kwX0_copyFrom_3 kwX0_copyFrom_4 kwX0_copyFrom_5 rfl rfl hcp ⟨Nat.le_of_ble_eq_true rfl, Nat.le_of_ble_eq_true rfl⟩ rfl dX0_copyFrom_42 45 rfl ?_
  refine vv_aload_n C dX0_copyFrom_45 rfl 1 rfl 46 rfl ?_
  refine vv_get C (q0 := 12) (ci := 0) (k := 3) kinX0_copyFrom_X0 rfl rfl (by decide) kwX0_copyFrom_8 rfl rfl dX0_copyFrom_46 49 rfl ?_
  refine vv_iconst C (v := 0) dX0_copyFrom_49 (by decide) 50 rfl ?_
  refine vv_aload_n C dX0_copyFrom_50 rfl 0 rfl 51 rfl ?_
  refine vv_get C (q0 := 0) (ci := 0) (k := 3) kinX0_copyFrom_X0 rfl rfl (by decide) kwX0_copyFrom_8 rfl rfl dX0_copyFrom_51 54 rfl ?_
  refine vv_iconst C (v := 0) dX0_copyFrom_54 (by decide) 55 rfl ?_
  refine vv_bipush C (v := 24) dX0_copyFrom_55 (by decide) 57 rfl ?_
  obtain ⟨hcp, h⟩ := chkP_s h
  refine vv_copy C (q0 := 16) (q1 := 4) (wX0_copyFrom c B F B_number (cpy F_column B_column 0 0 24) (cpy F_row B_row 0 0 24) (cpy F_lift B_lift 0 0 24) (cpy F_leak B_leak 0 0 24) B_water B_goods B_people B_state B_x B_y B_piece F_number F_column F_row F_lift F_leak F_water F_goods F_people F_state F_x F_y F_piece) kwX0_copyFrom_2 kwX0_copyFrom_3 kwX0_copyFrom_4 kwX0_copyFrom_5 rfl rfl hcp ⟨Nat.le_of_ble_eq_true rfl, Nat.le_of_ble_eq_true rfl⟩ rfl dX0_copyFrom_57 60 rfl ?_
  refine vv_aload_n C dX0_copyFrom_60 rfl 1 rfl 61 rfl ?_
  refine vv_get C (q0 := 12) (ci := 0) (k := 4) kinX0_copyFrom_X0 rfl rfl (by decide) kwX0_copyFrom_9 rfl rfl dX0_copyFrom_61 64 rfl ?_
  refine vv_iconst C (v := 0) dX0_copyFrom_64 (by decide) 65 rfl ?_
  refine vv_aload_n C dX0_copyFrom_65 rfl 0 rfl 66 rfl ?_
  refine vv_get C (q0 := 0) (ci := 0) (k := 4) kinX0_copyFrom_X0 rfl rfl (by decide) kwX0_copyFrom_9 rfl rfl dX0_copyFrom_66 69 rfl ?_
  refine vv_iconst C (v := 0) dX0_copyFrom_69 (by decide) 70 rfl ?_
  refine vv_bipush C (v := 24) dX0_copyFrom_70 (by decide) 72 rfl ?_
  obtain ⟨hcp, h⟩ := chkP_s h
  refine vv_copy C (q0 := 17) (q1 := 5) (wX0_copyFrom c B F B_number (cpy F_column B_column 0 0 24) (cpy F_row B_row 0 0 24) (cpy F_lift B_lift 0 0 24) (cpy F_leak B_leak 0 0 24) (cpy F_water B_water 0 0 24) B_goods B_people B_state B_x B_y B_piece F_number F_column F_row F_lift F_leak F_water F_goods F_people F_state F_x F_y F_piece) kwX0_copyFrom_2 kwX0_copyFrom_3 kwX0_copyFrom_4 kwX0_copyFrom_5 rfl rfl hcp ⟨Nat.le_of_ble_eq_true rfl, Nat.le_of_ble_eq_true rfl⟩ rfl dX0_copyFrom_72 75 rfl ?_
  refine vv_aload_n C dX0_copyFrom_75 rfl 1 rfl 76 rfl ?_
  refine vv_get C (q0 := 12) (ci := 0) (k := 5) kinX0_copyFrom_X0 rfl rfl (by decide) kwX0_copyFrom_10 rfl rfl dX0_copyFrom_76 79 rfl ?_
  refine vv_iconst C (v := 0) dX0_copyFrom_79 (by decide) 80 rfl ?_
  refine vv_aload_n C dX0_copyFrom_80 rfl 0 rfl 81 rfl ?_
  refine vv_get C (q0 := 0) (ci := 0) (k := 5) kinX0_copyFrom_X0 rfl rfl (by decide) kwX0_copyFrom_10 rfl rfl dX0_copyFrom_81 84 rfl ?_
  refine vv_iconst C (v := 0) dX0_copyFrom_84 (by decide) 85 rfl ?_
  refine vv_bipush C (v := 24) dX0_copyFrom_85 (by decide) 87 rfl ?_
  obtain ⟨hcp, h⟩ := chkP_s h
  refine vv_copy C (q0 := 18) (q1 := 6) (wX0_copyFrom c B F B_number (cpy F_column B_column 0 0 24) (cpy F_row B_row 0 0 24) (cpy F_lift B_lift 0 0 24) (cpy F_leak B_leak 0 0 24) (cpy F_water B_water 0 0 24) (cpy F_goods B_goods 0 0 24) B_people B_state B_x B_y B_piece F_number F_column F_row F_lift F_leak F_water F_goods F_people F_state F_x F_y F_piece) kwX0_copyFrom_2 kwX0_copyFrom_3 kwX0_copyFrom_4 kwX0_copyFrom_5 rfl rfl hcp ⟨Nat.le_of_ble_eq_true rfl, Nat.le_of_ble_eq_true rfl⟩ rfl dX0_copyFrom_87 90 rfl ?_
  refine vv_aload_n C dX0_copyFrom_90 rfl 1 rfl 91 rfl ?_
  refine vv_get C (q0 := 12) (ci := 0) (k := 6) kinX0_copyFrom_X0 rfl rfl (by decide) kwX0_copyFrom_11 rfl rfl dX0_copyFrom_91 94 rfl ?_
  refine vv_iconst C (v := 0) dX0_copyFrom_94 (by decide) 95 rfl ?_
  refine vv_aload_n C dX0_copyFrom_95 rfl 0 rfl 96 rfl ?_
  refine vv_get C (q0 := 0) (ci := 0) (k := 6) kinX0_copyFrom_X0 rfl rfl (by decide) kwX0_copyFrom_11 rfl rfl dX0_copyFrom_96 99 rfl ?_
  refine vv_iconst C (v := 0) dX0_copyFrom_99 (by decide) 100 rfl ?_
  refine vv_bipush C (v := 24) dX0_copyFrom_100 (by decide) 102 rfl ?_
  obtain ⟨hcp, h⟩ := chkP_s h
  refine vv_copy C (q0 := 19) (q1 := 7) (wX0_copyFrom c B F B_number (cpy F_column B_column 0 0 24) (cpy F_row B_row 0 0 24) (cpy F_lift B_lift 0 0 24) (cpy F_leak B_leak 0 0 24) (cpy F_water B_water 0 0 24) (cpy F_goods B_goods 0 0 24) (cpy F_people B_people 0 0 24) B_state B_x B_y B_piece F_number F_column F_row F_lift F_leak F_water F_goods F_people F_state F_x F_y F_piece) kwX0_copyFrom_2 kwX0_copyFrom_3 kwX0_copyFrom_4 kwX0_copyFrom_5 rfl rfl hcp ⟨Nat.le_of_ble_eq_true rfl, Nat.le_of_ble_eq_true rfl⟩ rfl dX0_copyFrom_102 105 rfl ?_
  refine vv_aload_n C dX0_copyFrom_105 rfl 1 rfl 106 rfl ?_
  refine vv_get C (q0 := 12) (ci := 0) (k := 7) kinX0_copyFrom_X0 rfl rfl (by decide) kwX0_copyFrom_12 rfl rfl dX0_copyFrom_106 109 rfl ?_
  refine vv_iconst C (v := 0) dX0_copyFrom_109 (by decide) 110 rfl ?_
  refine vv_aload_n C dX0_copyFrom_110 rfl 0 rfl 111 rfl ?_
  refine vv_get C (q0 := 0) (ci := 0) (k := 7) kinX0_copyFrom_X0 rfl rfl (by decide) kwX0_copyFrom_12 rfl rfl dX0_copyFrom_111 114 rfl ?_
  refine vv_iconst C (v := 0) dX0_copyFrom_114 (by decide) 115 rfl ?_
  refine vv_bipush C (v := 24) dX0_copyFrom_115 (by decide) 117 rfl ?_
  obtain ⟨hcp, h⟩ := chkP_s h
  refine vv_copy C (q0 := 20) (q1 := 8) (wX0_copyFrom c B F B_number (cpy F_column B_column 0 0 24) (cpy F_row B_row 0 0 24) (cpy F_lift B_lift 0 0 24) (cpy F_leak B_leak 0 0 24) (cpy F_water B_water 0 0 24) (cpy F_goods B_goods 0 0 24) (cpy F_people B_people 0 0 24) (cpy F_state B_state 0 0 24) B_x B_y B_piece F_number F_column F_row F_lift F_leak F_water F_goods F_people F_state F_x F_y F_piece) kwX0_copyFrom_2 kwX0_copyFrom_3 kwX0_copyFrom_4 kwX0_copyFrom_5 rfl rfl hcp ⟨Nat.le_of_ble_eq_true rfl, Nat.le_of_ble_eq_true rfl⟩ rfl dX0_copyFrom_117 120 rfl ?_
  refine vv_aload_n C dX0_copyFrom_120 rfl 1 rfl 121 rfl ?_
  refine vv_get C (q0 := 12) (ci := 0) (k := 8) kinX0_copyFrom_X0 rfl rfl (by decide) kwX0_copyFrom_13 rfl rfl dX0_copyFrom_121 124 rfl ?_
  refine vv_iconst C (v := 0) dX0_copyFrom_124 (by decide) 125 rfl ?_
  refine vv_aload_n C dX0_copyFrom_125 rfl 0 rfl 126 rfl ?_
  refine vv_get C (q0 := 0) (ci := 0) (k := 8) kinX0_copyFrom_X0 rfl rfl (by decide) kwX0_copyFrom_13 rfl rfl dX0_copyFrom_126 129 rfl ?_
  refine vv_iconst C (v := 0) dX0_copyFrom_129 (by decide) 130 rfl ?_
  refine vv_bipush C (v := 24) dX0_copyFrom_130 (by decide) 132 rfl ?_
  obtain ⟨hcp, h⟩ := chkP_s h
  refine vv_copy C (q0 := 21) (q1 := 9) (wX0_copyFrom c B F B_number (cpy F_column B_column 0 0 24) (cpy F_row B_row 0 0 24) (cpy F_lift B_lift 0 0 24) (cpy F_leak B_leak 0 0 24) (cpy F_water B_water 0 0 24) (cpy F_goods B_goods 0 0 24) (cpy F_people B_people 0 0 24) (cpy F_state B_state 0 0 24) (cpy F_x B_x 0 0 24) B_y B_piece F_number F_column F_row F_lift F_leak F_water F_goods F_people F_state F_x F_y F_piece) kwX0_copyFrom_2 kwX0_copyFrom_3 kwX0_copyFrom_4 kwX0_copyFrom_5 rfl rfl hcp ⟨Nat.le_of_ble_eq_true rfl, Nat.le_of_ble_eq_true rfl⟩ rfl dX0_copyFrom_132 135 rfl ?_
  refine vv_aload_n C dX0_copyFrom_135 rfl 1 rfl 136 rfl ?_
  refine vv_get C (q0 := 12) (ci := 0) (k := 9) kinX0_copyFrom_X0 rfl rfl (by decide) kwX0_copyFrom_14 rfl rfl dX0_copyFrom_136 139 rfl ?_
  refine vv_iconst C (v := 0) dX0_copyFrom_139 (by decide) 140 rfl ?_
  refine vv_aload_n C dX0_copyFrom_140 rfl 0 rfl 141 rfl ?_
  refine vv_get C (q0 := 0) (ci := 0) (k := 9) kinX0_copyFrom_X0 rfl rfl (by decide) kwX0_copyFrom_14 rfl rfl dX0_copyFrom_141 144 rfl ?_
  refine vv_iconst C (v := 0) dX0_copyFrom_144 (by decide) 145 rfl ?_
  refine vv_bipush C (v := 24) dX0_copyFrom_145 (by decide) 147 rfl ?_
  obtain ⟨hcp, h⟩ := chkP_s h
  refine vv_copy C (q0 := 22) (q1 := 10) (wX0_copyFrom c B F B_number (cpy F_column B_column 0 0 24) (cpy F_row B_row 0 0 24) (cpy F_lift B_lift 0 0 24) (cpy F_leak B_leak 0 0 24) (cpy F_water B_water 0 0 24) (cpy F_goods B_goods 0 0 24) (cpy F_people B_people 0 0 24) (cpy F_state B_state 0 0 24) (cpy F_x B_x 0 0 24) (cpy F_y B_y 0 0 24) B_piece F_number F_column F_row F_lift F_leak F_water F_goods F_people F_state F_x F_y F_piece) kwX0_copyFrom_2 kwX0_copyFrom_3 kwX0_copyFrom_4 kwX0_copyFrom_5 rfl rfl hcp ⟨Nat.le_of_ble_eq_true rfl, Nat.le_of_ble_eq_true rfl⟩ rfl dX0_copyFrom_147 150 rfl ?_
  refine vv_aload_n C dX0_copyFrom_150 rfl 1 rfl 151 rfl ?_
  refine vv_get C (q0 := 12) (ci := 0) (k := 10) kinX0_copyFrom_X0 rfl rfl (by decide) kwX0_copyFrom_15 rfl rfl dX0_copyFrom_151 154 rfl ?_
  refine vv_iconst C (v := 0) dX0_copyFrom_154 (by decide) 155 rfl ?_
  refine vv_aload_n C dX0_copyFrom_155 rfl 0 rfl 156 rfl ?_
  refine vv_get C (q0 := 0) (ci := 0) (k := 10) kinX0_copyFrom_X0 rfl rfl (by decide) kwX0_copyFrom_15 rfl rfl dX0_copyFrom_156 159 rfl ?_
  refine vv_iconst C (v := 0) dX0_copyFrom_159 (by decide) 160 rfl ?_
  refine vv_bipush C (v := 24) dX0_copyFrom_160 (by decide) 162 rfl ?_
  obtain ⟨hcp, h⟩ := chkP_s h
  refine vv_copy C (q0 := 23) (q1 := 11) (wX0_copyFrom c B F B_number (cpy F_column B_column 0 0 24) (cpy F_row B_row 0 0 24) (cpy F_lift B_lift 0 0 24) (cpy F_leak B_leak 0 0 24) (cpy F_water B_water 0 0 24) (cpy F_goods B_goods 0 0 24) (cpy F_people B_people 0 0 24) (cpy F_state B_state 0 0 24) (cpy F_x B_x 0 0 24) (cpy F_y B_y 0 0 24) (cpy F_piece B_piece 0 0 24) F_number F_column F_row F_lift F_leak F_water F_goods F_people F_state F_x F_y F_piece) kwX0_copyFrom_2 kwX0_copyFrom_3 kwX0_copyFrom_4 kwX0_copyFrom_5 rfl rfl hcp ⟨Nat.le_of_ble_eq_true rfl, Nat.le_of_ble_eq_true rfl⟩ rfl dX0_copyFrom_162 165 rfl ?_
  refine vv_aload_n C dX0_copyFrom_165 rfl 0 rfl 166 rfl ?_
  refine vv_aload_n C dX0_copyFrom_166 rfl 1 rfl 167 rfl ?_
  refine vv_get C (q0 := 12) (ci := 0) (k := 11) kinX0_copyFrom_X0 rfl rfl (by decide) kwX0_copyFrom_16 rfl rfl dX0_copyFrom_167 170 rfl ?_
  refine vv_put C (q0 := 0) (ci := 0) (k := 11) (ty := .int) (wX0_copyFrom c B F F_number (cpy F_column B_column 0 0 24) (cpy F_row B_row 0 0 24) (cpy F_lift B_lift 0 0 24) (cpy F_leak B_leak 0 0 24) (cpy F_water B_water 0 0 24) (cpy F_goods B_goods 0 0 24) (cpy F_people B_people 0 0 24) (cpy F_state B_state 0 0 24) (cpy F_x B_x 0 0 24) (cpy F_y B_y 0 0 24) (cpy F_piece B_piece 0 0 24) F_number F_column F_row F_lift F_leak F_water F_goods F_people F_state F_x F_y F_piece) tyX0 tyX0_ok nmX0 kinX0_copyFrom_X0 rfl rfl (by decide) kwX0_copyFrom_16 rfl rfl rfl rfl rfl (Nat.le_of_ble_eq_true rfl) rfl dX0_copyFrom_170 173 rfl ?_
  obtain rfl := Option.some.inj h
  exact ret _ _ dX0_copyFrom_173
abbrev wX0_countOf (c : Nat → ClassId) (B : Nat → Nat) (B_number : Int32) (B_state : Nat → Int32) : va_W := [(B 0, .inr (0, [.ref (B 1), .ref (B 2), .ref (B 3), .ref (B 4), .ref (B 5), .ref (B 6), .ref (B 7), .ref (B 8), .ref (B 9), .ref (B 10), .ref (B 11), .int B_number])), aI c (B 8) 24 B_state]
abbrev rmX0_countOf : Room := { frames := 0, cells := 0, slots := 0, locals := 0 }
theorem yd_X0_countOf : yX0_countOf.cls = RX0 ∧ yX0_countOf.cls ≠ "java/lang/invoke/MethodHandle" ∧ yX0_countOf.cls ≠ "java/lang/invoke/VarHandle" ∧ (parseMethodDescriptor yX0_countOf.desc).map (fun d => d.parameters.length) = some 1 := by decide +kernel
theorem kwX0_countOf_1 : Cond.fieldLink RX0 45 "BarrelRaft$Barrels" "number" "I" ∈ wsX0_countOf := List.mem_of_getElem? (i := 1) rfl
set_option maxRecDepth 20000 in
theorem kinX0_countOf_X0 : ∀ w ∈ u_ws RX0 TX0 12, w ∈ wsX0_countOf := by decide +kernel
theorem kwX0_countOf_2 : Cond.fieldLink RX0 33 "BarrelRaft$Barrels" "state" "[I" ∈ wsX0_countOf := List.mem_of_getElem? (i := 2) rfl
def jX0_countOf_L4 (B_number : Int32) (B_state : Nat → Int32) (u1 : Int32) (n : Nat) (v2_4 : Int32) (v3_4 : Int32) : Option (Int32) :=
  match n with
  | 0 => none
  | n + 1 => (if B_number ≤ v3_4 then some v2_4 else chk 24 v3_4 ((if rd B_state v3_4 = u1 then jX0_countOf_L4 B_number B_state u1 n (v2_4 + 1) (v3_4 + 1) else jX0_countOf_L4 B_number B_state u1 n v2_4 (v3_4 + 1))))
def jX0_countOf (B_number : Int32) (B_state : Nat → Int32) (a1 : Int32) : Option (Int32) :=
  bnd (jX0_countOf_L4 B_number B_state a1 FU 0 0) (fun r1 => some r1)
set_option maxHeartbeats 4000000 in
set_option maxRecDepth 100000 in
theorem mt_X0_countOf (l : Launch) (D : va_G) (c : Nat → ClassId) (B : Nat → Nat) (B_number : Int32) (B_state : Nat → Int32) (a1 : Int32) (q0 : Int32) (h : jX0_countOf B_number B_state a1 = some q0) : DTi l yX0_countOf wsX0_countOf rmX0_countOf D c (wX0_countOf c B B_number B_state) [.ref (B 0), .int a1] q0 (wX0_countOf c B B_number B_state) 0 0 := by
  refine DTi_of (cc := cX0_countOf) (nL := 4) RX0 rfl (by decide) rfl (Nat.le_of_ble_eq_true rfl) (fun g C ret => ?_)
  unfold jX0_countOf at h
  refine vv_lv [0, 1] [(0, .ref (B 0)), (1, .int a1)] rfl ?_
  refine vv_iconst C (v := 0) dX0_countOf_0 (by decide) 1 rfl ?_
  refine vv_istore_n C [(2, .int 0), (0, .ref (B 0)), (1, .int a1)] dX0_countOf_1 rfl (by decide) rfl 2 rfl ?_
  refine vv_iconst C (v := 0) dX0_countOf_2 (by decide) 3 rfl ?_
  refine vv_istore_n C [(3, .int 0), (2, .int 0), (0, .ref (B 0)), (1, .int a1)] dX0_countOf_3 rfl (by decide) rfl 4 rfl ?_
  refine vv_lv [2, 3, 1, 0] [(0, .ref (B 0)), (1, .int a1), (2, .int 0), (3, .int 0)] rfl ?_
  have L4 : ∀ (n : Nat) (v2_4 : Int32) (v3_4 : Int32) (q4 : Int32), jX0_countOf_L4 B_number B_state a1 n v2_4 v3_4 = some q4 → (VV g D 4 0 0 (wX0_countOf c B B_number B_state) [(2, .int q4)] 31 []) → VV g D 4 0 0 (wX0_countOf c B B_number B_state) [(0, .ref (B 0)), (1, .int a1), (2, .int v2_4), (3, .int v3_4)] 4 [] := by
    intro n
    induction n with
    | zero =>
      intro v2_4 v3_4 q4 h _
      rw [jX0_countOf_L4] at h
      cases h
    | succ n ih4 =>
      intro v2_4 v3_4 q4 h kk4
      rw [jX0_countOf_L4] at h
      refine vv_iload_n C dX0_countOf_4 rfl 3 rfl 5 rfl ?_
      refine vv_aload_n C dX0_countOf_5 rfl 0 rfl 6 rfl ?_
      refine vv_get C (q0 := 0) (ci := 0) (k := 11) kinX0_countOf_X0 rfl rfl (by decide) kwX0_countOf_1 rfl rfl dX0_countOf_6 9 rfl ?_
      refine vv_icmp_ge C 31 12 dX0_countOf_9 (by decide) rfl (fun hc => ?_) (fun hc => ?_)
      · replace h := ite_t hc h
        refine vv_lv [2] [(2, .int v2_4)] rfl ?_
        obtain rfl := Option.some.inj h
        exact kk4
      · replace h := ite_f hc h
        refine vv_aload_n C dX0_countOf_12 rfl 0 rfl 13 rfl ?_
        refine vv_get C (q0 := 0) (ci := 0) (k := 7) kinX0_countOf_X0 rfl rfl (by decide) kwX0_countOf_2 rfl rfl dX0_countOf_13 16 rfl ?_
        refine vv_iload_n C dX0_countOf_16 rfl 3 rfl 17 rfl ?_
        obtain ⟨hi, h⟩ := chk_s h
        refine vv_iald C (q0 := 1) rfl hi dX0_countOf_17 18 rfl ?_
        refine vv_iload_n C dX0_countOf_18 rfl 1 rfl 19 rfl ?_
        refine vv_icmp_ne C 25 22 dX0_countOf_19 (by decide) rfl (fun hc => ?_) (fun hc => ?_)
        · replace h := ite_f hc h
          refine vv_iinc C (k := 3) [(3, .int (v3_4 + 1)), (0, .ref (B 0)), (1, .int a1), (2, .int v2_4)] dX0_countOf_25 rfl rfl (by decide) rfl 28 rfl ?_
          refine vv_goto C 4 dX0_countOf_28 (by decide) ?_
          refine vv_lv [1, 2, 3, 0] [(0, .ref (B 0)), (1, .int a1), (2, .int v2_4), (3, .int (v3_4 + 1))] rfl ?_
          exact ih4 v2_4 (v3_4 + 1) _ h kk4
        · replace h := ite_t hc h
          refine vv_iinc C (k := 2) [(2, .int (v2_4 + 1)), (0, .ref (B 0)), (1, .int a1), (3, .int v3_4)] dX0_countOf_22 rfl rfl (by decide) rfl 25 rfl ?_
          refine vv_iinc C (k := 3) [(3, .int (v3_4 + 1)), (2, .int (v2_4 + 1)), (0, .ref (B 0)), (1, .int a1)] dX0_countOf_25 rfl rfl (by decide) rfl 28 rfl ?_
          refine vv_goto C 4 dX0_countOf_28 (by decide) ?_
          refine vv_lv [2, 3, 1, 0] [(0, .ref (B 0)), (1, .int a1), (2, .int (v2_4 + 1)), (3, .int (v3_4 + 1))] rfl ?_
          exact ih4 (v2_4 + 1) (v3_4 + 1) _ h kk4
  obtain ⟨r1, hr1, h⟩ := bnd_s h
  refine L4 FU 0 0 r1 hr1 ?_
  refine vv_iload_n C dX0_countOf_31 rfl 0 rfl 32 rfl ?_
  obtain rfl := Option.some.inj h
  exact ret _ _ dX0_countOf_32
abbrev wX0_end (c : Nat → ClassId) (B : Nat → Nat) (B_number : Int32) (B_goods : Nat → Int32) (B_people : Nat → Int32) (B_state : Nat → Int32) (B_piece : Nat → Int32) : va_W := [(B 0, .inr (0, [.ref (B 1), .ref (B 2), .ref (B 3), .ref (B 4), .ref (B 5), .ref (B 6), .ref (B 7), .ref (B 8), .ref (B 9), .ref (B 10), .ref (B 11), .int B_number])), aI c (B 6) 24 B_goods, aI c (B 7) 24 B_people, aI c (B 8) 24 B_state, aI c (B 11) 24 B_piece]
abbrev rmX0_end : Room := { frames := 0, cells := 0, slots := 0, locals := 0 }
theorem yd_X0_end : yX0_end.cls = RX0 ∧ yX0_end.cls ≠ "java/lang/invoke/MethodHandle" ∧ yX0_end.cls ≠ "java/lang/invoke/VarHandle" ∧ (parseMethodDescriptor yX0_end.desc).map (fun d => d.parameters.length) = some 2 := by decide +kernel
theorem kwX0_end_1 : Cond.fieldLink RX0 33 "BarrelRaft$Barrels" "state" "[I" ∈ wsX0_end := List.mem_of_getElem? (i := 1) rfl
set_option maxRecDepth 20000 in
theorem kinX0_end_X0 : ∀ w ∈ u_ws RX0 TX0 12, w ∈ wsX0_end := by decide +kernel
theorem kwX0_end_2 : Cond.fieldLink RX0 42 "BarrelRaft$Barrels" "piece" "[I" ∈ wsX0_end := List.mem_of_getElem? (i := 2) rfl
theorem kwX0_end_3 : Cond.fieldLink RX0 30 "BarrelRaft$Barrels" "people" "[I" ∈ wsX0_end := List.mem_of_getElem? (i := 3) rfl
theorem kwX0_end_4 : Cond.fieldLink RX0 27 "BarrelRaft$Barrels" "goods" "[I" ∈ wsX0_end := List.mem_of_getElem? (i := 4) rfl
def jX0_end (B_goods : Nat → Int32) (B_people : Nat → Int32) (B_state : Nat → Int32) (B_piece : Nat → Int32) (a1 : Int32) (a2 : Int32) : Option ((Nat → Int32) × (Nat → Int32) × (Nat → Int32) × (Nat → Int32)) :=
  chk 24 a1 (chk 24 a1 (chk 24 a1 ((if a2 = 1 then chk 24 a1 (some (wr B_goods a1 0, wr B_people a1 0, wr B_state a1 a2, wr B_piece a1 (-1))) else some (B_goods, wr B_people a1 0, wr B_state a1 a2, wr B_piece a1 (-1))))))
set_option maxHeartbeats 4000000 in
set_option maxRecDepth 100000 in
theorem mt_X0_end (l : Launch) (D : va_G) (c : Nat → ClassId) (B : Nat → Nat) (B_number : Int32) (B_goods : Nat → Int32) (B_people : Nat → Int32) (B_state : Nat → Int32) (B_piece : Nat → Int32) (a1 : Int32) (a2 : Int32) (q0 : (Nat → Int32) × (Nat → Int32) × (Nat → Int32) × (Nat → Int32)) (h : jX0_end B_goods B_people B_state B_piece a1 a2 = some q0) : DTv l yX0_end wsX0_end rmX0_end D c (wX0_end c B B_number B_goods B_people B_state B_piece) [.ref (B 0), .int a1, .int a2] (wX0_end c B B_number q0.1 q0.2.1 q0.2.2.1 q0.2.2.2) 0 0 := by
  refine DTv_of (cc := cX0_end) (nL := 3) RX0 rfl (by decide) rfl (Nat.le_of_ble_eq_true rfl) (fun g C ret => ?_)
  unfold jX0_end at h
  refine vv_lv [0, 1, 2] [(0, .ref (B 0)), (1, .int a1), (2, .int a2)] rfl ?_
  refine vv_aload_n C dX0_end_0 rfl 0 rfl 1 rfl ?_
  refine vv_get C (q0 := 0) (ci := 0) (k := 7) kinX0_end_X0 rfl rfl (by decide) kwX0_end_1 rfl rfl dX0_end_1 4 rfl ?_
  refine vv_iload_n C dX0_end_4 rfl 1 rfl 5 rfl ?_
  refine vv_iload_n C dX0_end_5 rfl 2 rfl 6 rfl ?_
  obtain ⟨hi, h⟩ := chk_s h
  refine vv_iast C (q0 := 3) (wX0_end c B B_number B_goods B_people (wr B_state a1 a2) B_piece) rfl hi rfl dX0_end_6 7 rfl ?_
  refine vv_aload_n C dX0_end_7 rfl 0 rfl 8 rfl ?_
  refine vv_get C (q0 := 0) (ci := 0) (k := 10) kinX0_end_X0 rfl rfl (by decide) kwX0_end_2 rfl rfl dX0_end_8 11 rfl ?_
  refine vv_iload_n C dX0_end_11 rfl 1 rfl 12 rfl ?_
  refine vv_iconst C (v := (-1)) dX0_end_12 (by decide) 13 rfl ?_
  obtain ⟨hi, h⟩ := chk_s h
  refine vv_iast C (q0 := 4) (wX0_end c B B_number B_goods B_people (wr B_state a1 a2) (wr B_piece a1 (-1))) rfl hi rfl dX0_end_13 14 rfl ?_
  refine vv_aload_n C dX0_end_14 rfl 0 rfl 15 rfl ?_
  refine vv_get C (q0 := 0) (ci := 0) (k := 6) kinX0_end_X0 rfl rfl (by decide) kwX0_end_3 rfl rfl dX0_end_15 18 rfl ?_
  refine vv_iload_n C dX0_end_18 rfl 1 rfl 19 rfl ?_
  refine vv_iconst C (v := 0) dX0_end_19 (by decide) 20 rfl ?_
  obtain ⟨hi, h⟩ := chk_s h
  refine vv_iast C (q0 := 2) (wX0_end c B B_number B_goods (wr B_people a1 0) (wr B_state a1 a2) (wr B_piece a1 (-1))) rfl hi rfl dX0_end_20 21 rfl ?_
  refine vv_iload_n C dX0_end_21 rfl 2 rfl 22 rfl ?_
  refine vv_iconst C (v := 1) dX0_end_22 (by decide) 23 rfl ?_
  refine vv_icmp_ne C 33 26 dX0_end_23 (by decide) rfl (fun hc => ?_) (fun hc => ?_)
  · replace h := ite_f hc h
    obtain rfl := Option.some.inj h
    exact ret _ _ dX0_end_33
  · replace h := ite_t hc h
    refine vv_aload_n C dX0_end_26 rfl 0 rfl 27 rfl ?_
    refine vv_get C (q0 := 0) (ci := 0) (k := 5) kinX0_end_X0 rfl rfl (by decide) kwX0_end_4 rfl rfl dX0_end_27 30 rfl ?_
    refine vv_iload_n C dX0_end_30 rfl 1 rfl 31 rfl ?_
    refine vv_iconst C (v := 0) dX0_end_31 (by decide) 32 rfl ?_
    obtain ⟨hi, h⟩ := chk_s h
    refine vv_iast C (q0 := 1) (wX0_end c B B_number (wr B_goods a1 0) (wr B_people a1 0) (wr B_state a1 a2) (wr B_piece a1 (-1))) rfl hi rfl dX0_end_32 33 rfl ?_
    obtain rfl := Option.some.inj h
    exact ret _ _ dX0_end_33
abbrev wX0_goodsSaved (c : Nat → ClassId) (B : Nat → Nat) (B_number : Int32) (B_goods : Nat → Int32) (B_state : Nat → Int32) : va_W := [(B 0, .inr (0, [.ref (B 1), .ref (B 2), .ref (B 3), .ref (B 4), .ref (B 5), .ref (B 6), .ref (B 7), .ref (B 8), .ref (B 9), .ref (B 10), .ref (B 11), .int B_number])), aI c (B 6) 24 B_goods, aI c (B 8) 24 B_state]
abbrev rmX0_goodsSaved : Room := { frames := 0, cells := 0, slots := 0, locals := 0 }
theorem yd_X0_goodsSaved : yX0_goodsSaved.cls = RX0 ∧ yX0_goodsSaved.cls ≠ "java/lang/invoke/MethodHandle" ∧ yX0_goodsSaved.cls ≠ "java/lang/invoke/VarHandle" ∧ (parseMethodDescriptor yX0_goodsSaved.desc).map (fun d => d.parameters.length) = some 0 := by decide +kernel
theorem kwX0_goodsSaved_1 : Cond.fieldLink RX0 45 "BarrelRaft$Barrels" "number" "I" ∈ wsX0_goodsSaved := List.mem_of_getElem? (i := 1) rfl
set_option maxRecDepth 20000 in
theorem kinX0_goodsSaved_X0 : ∀ w ∈ u_ws RX0 TX0 12, w ∈ wsX0_goodsSaved := by decide +kernel
theorem kwX0_goodsSaved_2 : Cond.fieldLink RX0 33 "BarrelRaft$Barrels" "state" "[I" ∈ wsX0_goodsSaved := List.mem_of_getElem? (i := 2) rfl
theorem kwX0_goodsSaved_3 : Cond.fieldLink RX0 27 "BarrelRaft$Barrels" "goods" "[I" ∈ wsX0_goodsSaved := List.mem_of_getElem? (i := 3) rfl
def jX0_goodsSaved_L4 (B_number : Int32) (B_goods : Nat → Int32) (B_state : Nat → Int32) (n : Nat) (v1_4 : Int32) (v2_4 : Int32) : Option (Int32) :=
  match n with
  | 0 => none
  | n + 1 => (if B_number ≤ v2_4 then some v1_4 else chk 24 v2_4 ((if rd B_state v2_4 = 2 then chk 24 v2_4 (jX0_goodsSaved_L4 B_number B_goods B_state n (v1_4 + (rd B_goods v2_4)) (v2_4 + 1)) else jX0_goodsSaved_L4 B_number B_goods B_state n v1_4 (v2_4 + 1))))
def jX0_goodsSaved (B_number : Int32) (B_goods : Nat → Int32) (B_state : Nat → Int32) : Option (Int32) :=
  bnd (jX0_goodsSaved_L4 B_number B_goods B_state FU 0 0) (fun r1 => some r1)
set_option maxHeartbeats 4000000 in
set_option maxRecDepth 100000 in
theorem mt_X0_goodsSaved (l : Launch) (D : va_G) (c : Nat → ClassId) (B : Nat → Nat) (B_number : Int32) (B_goods : Nat → Int32) (B_state : Nat → Int32) (q0 : Int32) (h : jX0_goodsSaved B_number B_goods B_state = some q0) : DTi l yX0_goodsSaved wsX0_goodsSaved rmX0_goodsSaved D c (wX0_goodsSaved c B B_number B_goods B_state) [.ref (B 0)] q0 (wX0_goodsSaved c B B_number B_goods B_state) 0 0 := by
  refine DTi_of (cc := cX0_goodsSaved) (nL := 3) RX0 rfl (by decide) rfl (Nat.le_of_ble_eq_true rfl) (fun g C ret => ?_)
  unfold jX0_goodsSaved at h
  refine vv_lv [0] [(0, .ref (B 0))] rfl ?_
  refine vv_iconst C (v := 0) dX0_goodsSaved_0 (by decide) 1 rfl ?_
  refine vv_istore_n C [(1, .int 0), (0, .ref (B 0))] dX0_goodsSaved_1 rfl (by decide) rfl 2 rfl ?_
  refine vv_iconst C (v := 0) dX0_goodsSaved_2 (by decide) 3 rfl ?_
  refine vv_istore_n C [(2, .int 0), (1, .int 0), (0, .ref (B 0))] dX0_goodsSaved_3 rfl (by decide) rfl 4 rfl ?_
  refine vv_lv [2, 1, 0] [(0, .ref (B 0)), (1, .int 0), (2, .int 0)] rfl ?_
  have L4 : ∀ (n : Nat) (v1_4 : Int32) (v2_4 : Int32) (q4 : Int32), jX0_goodsSaved_L4 B_number B_goods B_state n v1_4 v2_4 = some q4 → (VV g D 3 0 0 (wX0_goodsSaved c B B_number B_goods B_state) [(1, .int q4)] 37 []) → VV g D 3 0 0 (wX0_goodsSaved c B B_number B_goods B_state) [(0, .ref (B 0)), (1, .int v1_4), (2, .int v2_4)] 4 [] := by
    intro n
    induction n with
    | zero =>
      intro v1_4 v2_4 q4 h _
      rw [jX0_goodsSaved_L4] at h
      cases h
    | succ n ih4 =>
      intro v1_4 v2_4 q4 h kk4
      rw [jX0_goodsSaved_L4] at h
      refine vv_iload_n C dX0_goodsSaved_4 rfl 2 rfl 5 rfl ?_
      refine vv_aload_n C dX0_goodsSaved_5 rfl 0 rfl 6 rfl ?_
      refine vv_get C (q0 := 0) (ci := 0) (k := 11) kinX0_goodsSaved_X0 rfl rfl (by decide) kwX0_goodsSaved_1 rfl rfl dX0_goodsSaved_6 9 rfl ?_
      refine vv_icmp_ge C 37 12 dX0_goodsSaved_9 (by decide) rfl (fun hc => ?_) (fun hc => ?_)
      · replace h := ite_t hc h
        refine vv_lv [1] [(1, .int v1_4)] rfl ?_
        obtain rfl := Option.some.inj h
        exact kk4
      · replace h := ite_f hc h
        refine vv_aload_n C dX0_goodsSaved_12 rfl 0 rfl 13 rfl ?_
        refine vv_get C (q0 := 0) (ci := 0) (k := 7) kinX0_goodsSaved_X0 rfl rfl (by decide) kwX0_goodsSaved_2 rfl rfl dX0_goodsSaved_13 16 rfl ?_
        refine vv_iload_n C dX0_goodsSaved_16 rfl 2 rfl 17 rfl ?_
        obtain ⟨hi, h⟩ := chk_s h
        refine vv_iald C (q0 := 2) rfl hi dX0_goodsSaved_17 18 rfl ?_
        refine vv_iconst C (v := 2) dX0_goodsSaved_18 (by decide) 19 rfl ?_
        refine vv_icmp_ne C 31 22 dX0_goodsSaved_19 (by decide) rfl (fun hc => ?_) (fun hc => ?_)
        · replace h := ite_f hc h
          refine vv_iinc C (k := 2) [(2, .int (v2_4 + 1)), (0, .ref (B 0)), (1, .int v1_4)] dX0_goodsSaved_31 rfl rfl (by decide) rfl 34 rfl ?_
          refine vv_goto C 4 dX0_goodsSaved_34 (by decide) ?_
          refine vv_lv [1, 2, 0] [(0, .ref (B 0)), (1, .int v1_4), (2, .int (v2_4 + 1))] rfl ?_
          exact ih4 v1_4 (v2_4 + 1) _ h kk4
        · replace h := ite_t hc h
          refine vv_iload_n C dX0_goodsSaved_22 rfl 1 rfl 23 rfl ?_
          refine vv_aload_n C dX0_goodsSaved_23 rfl 0 rfl 24 rfl ?_
          refine vv_get C (q0 := 0) (ci := 0) (k := 5) kinX0_goodsSaved_X0 rfl rfl (by decide) kwX0_goodsSaved_3 rfl rfl dX0_goodsSaved_24 27 rfl ?_
          refine vv_iload_n C dX0_goodsSaved_27 rfl 2 rfl 28 rfl ?_
          obtain ⟨hi, h⟩ := chk_s h
          refine vv_iald C (q0 := 1) rfl hi dX0_goodsSaved_28 29 rfl ?_
          refine vv_iadd C dX0_goodsSaved_29 30 rfl ?_
          refine vv_istore_n C [(1, .int (v1_4 + (rd B_goods v2_4))), (0, .ref (B 0)), (2, .int v2_4)] dX0_goodsSaved_30 rfl (by decide) rfl 31 rfl ?_
          refine vv_iinc C (k := 2) [(2, .int (v2_4 + 1)), (1, .int (v1_4 + (rd B_goods v2_4))), (0, .ref (B 0))] dX0_goodsSaved_31 rfl rfl (by decide) rfl 34 rfl ?_
          refine vv_goto C 4 dX0_goodsSaved_34 (by decide) ?_
          refine vv_lv [2, 1, 0] [(0, .ref (B 0)), (1, .int (v1_4 + (rd B_goods v2_4))), (2, .int (v2_4 + 1))] rfl ?_
          exact ih4 (v1_4 + (rd B_goods v2_4)) (v2_4 + 1) _ h kk4
  obtain ⟨r1, hr1, h⟩ := bnd_s h
  refine L4 FU 0 0 r1 hr1 ?_
  refine vv_iload_n C dX0_goodsSaved_37 rfl 0 rfl 38 rfl ?_
  obtain rfl := Option.some.inj h
  exact ret _ _ dX0_goodsSaved_38
abbrev wX0_join (c : Nat → ClassId) (B : Nat → Nat) (B_number : Int32) (B_piece : Nat → Int32) : va_W := [(B 0, .inr (0, [.ref (B 1), .ref (B 2), .ref (B 3), .ref (B 4), .ref (B 5), .ref (B 6), .ref (B 7), .ref (B 8), .ref (B 9), .ref (B 10), .ref (B 11), .int B_number])), aI c (B 11) 24 B_piece]
abbrev rmX0_join : Room := { frames := 1, cells := 0, slots := 0, locals := 21 }
theorem yd_X0_join : yX0_join.cls = RX0 ∧ yX0_join.cls ≠ "java/lang/invoke/MethodHandle" ∧ yX0_join.cls ≠ "java/lang/invoke/VarHandle" ∧ (parseMethodDescriptor yX0_join.desc).map (fun d => d.parameters.length) = some 2 := by decide +kernel
theorem kwX0_join_1 : Cond.fieldLink RX0 42 "BarrelRaft$Barrels" "piece" "[I" ∈ wsX0_join := List.mem_of_getElem? (i := 1) rfl
set_option maxRecDepth 20000 in
theorem kinX0_join_X0 : ∀ w ∈ u_ws RX0 TX0 12, w ∈ wsX0_join := by decide +kernel
theorem kwX0_join_2 : Cond.methodLink RX0 66 Lib.Math.min.name ∈ wsX0_join := List.mem_of_getElem? (i := 2) rfl
theorem kwX0_join_3 : Cond.static Lib.Math.min.name ∈ wsX0_join := List.mem_of_getElem? (i := 3) rfl
theorem kwX0_join_4 : Cond.initialized "java/lang/Math" ∈ wsX0_join := List.mem_of_getElem? (i := 4) rfl
theorem kwX0_join_5 : Cond.code Lib.Math.min.name Lib.Math.min.code 2 (some .int) ∈ wsX0_join := List.mem_of_getElem? (i := 5) rfl
theorem kwX0_join_6 : Cond.methodLink RX0 70 Lib.Math.max.name ∈ wsX0_join := List.mem_of_getElem? (i := 6) rfl
theorem kwX0_join_7 : Cond.static Lib.Math.max.name ∈ wsX0_join := List.mem_of_getElem? (i := 7) rfl
theorem kwX0_join_8 : Cond.code Lib.Math.max.name Lib.Math.max.code 2 (some .int) ∈ wsX0_join := List.mem_of_getElem? (i := 8) rfl
theorem kwX0_join_9 : Cond.fieldLink RX0 45 "BarrelRaft$Barrels" "number" "I" ∈ wsX0_join := List.mem_of_getElem? (i := 9) rfl
def jX0_join_L48 (B_number : Int32) (u3 : Int32) (u4 : Int32) (n : Nat) (B_piece_48 : Nat → Int32) (v5_48 : Int32) : Option ((Nat → Int32)) :=
  match n with
  | 0 => none
  | n + 1 => (if B_number ≤ v5_48 then some B_piece_48 else chk 24 v5_48 ((if rd B_piece_48 v5_48 = u4 then chk 24 v5_48 (jX0_join_L48 B_number u3 u4 n (wr B_piece_48 v5_48 u3) (v5_48 + 1)) else jX0_join_L48 B_number u3 u4 n B_piece_48 (v5_48 + 1))))
def jX0_join (B_number : Int32) (B_piece : Nat → Int32) (a1 : Int32) (a2 : Int32) : Option ((Nat → Int32)) :=
  chk 24 a1 (chk 24 a2 (chk 24 a1 (chk 24 a2 ((if mmin (rd B_piece a1) (rd B_piece a2) < 0 then some B_piece else (if mmin (rd B_piece a1) (rd B_piece a2) = mmax (rd B_piece a1) (rd B_piece a2) then some B_piece else bnd (jX0_join_L48 B_number (mmin (rd B_piece a1) (rd B_piece a2)) (mmax (rd B_piece a1) (rd B_piece a2)) FU B_piece (mmax (rd B_piece a1) (rd B_piece a2))) (fun r1 => some r1)))))))
set_option maxHeartbeats 4000000 in
set_option maxRecDepth 100000 in
theorem mt_X0_join (l : Launch) (D : va_G) (c : Nat → ClassId) (B : Nat → Nat) (B_number : Int32) (B_piece : Nat → Int32) (a1 : Int32) (a2 : Int32) (q0 : (Nat → Int32)) (h : jX0_join B_number B_piece a1 a2 = some q0) : DTv l yX0_join wsX0_join rmX0_join D c (wX0_join c B B_number B_piece) [.ref (B 0), .int a1, .int a2] (wX0_join c B B_number q0) 0 0 := by
  refine DTv_of (cc := cX0_join) (nL := 6) RX0 rfl (by decide) rfl (Nat.le_of_ble_eq_true rfl) (fun g C ret => ?_)
  unfold jX0_join at h
  refine vv_lv [0, 1, 2] [(0, .ref (B 0)), (1, .int a1), (2, .int a2)] rfl ?_
  refine vv_aload_n C dX0_join_0 rfl 0 rfl 1 rfl ?_
  refine vv_get C (q0 := 0) (ci := 0) (k := 10) kinX0_join_X0 rfl rfl (by decide) kwX0_join_1 rfl rfl dX0_join_1 4 rfl ?_
  refine vv_iload_n C dX0_join_4 rfl 1 rfl 5 rfl ?_
  obtain ⟨hi, h⟩ := chk_s h
  refine vv_iald C (q0 := 1) rfl hi dX0_join_5 6 rfl ?_
  refine vv_aload_n C dX0_join_6 rfl 0 rfl 7 rfl ?_
  refine vv_get C (q0 := 0) (ci := 0) (k := 10) kinX0_join_X0 rfl rfl (by decide) kwX0_join_1 rfl rfl dX0_join_7 10 rfl ?_
  refine vv_iload_n C dX0_join_10 rfl 2 rfl 11 rfl ?_
  obtain ⟨hi, h⟩ := chk_s h
  refine vv_iald C (q0 := 1) rfl hi dX0_join_11 12 rfl ?_
  refine vv_mmin C kwX0_join_2 kwX0_join_3 kwX0_join_4 kwX0_join_5 ⟨Nat.le_of_ble_eq_true rfl, Nat.le_of_ble_eq_true rfl⟩ ⟨Nat.le_of_ble_eq_true rfl, Nat.le_of_ble_eq_true rfl⟩ dX0_join_12 15 rfl ?_
  refine vv_istore_n C [(3, .int (mmin (rd B_piece a1) (rd B_piece a2))), (0, .ref (B 0)), (1, .int a1), (2, .int a2)] dX0_join_15 rfl (by decide) rfl 16 rfl ?_
  refine vv_aload_n C dX0_join_16 rfl 1 rfl 17 rfl ?_
  refine vv_get C (q0 := 0) (ci := 0) (k := 10) kinX0_join_X0 rfl rfl (by decide) kwX0_join_1 rfl rfl dX0_join_17 20 rfl ?_
  refine vv_iload_n C dX0_join_20 rfl 2 rfl 21 rfl ?_
  obtain ⟨hi, h⟩ := chk_s h
  refine vv_iald C (q0 := 1) rfl hi dX0_join_21 22 rfl ?_
  refine vv_aload_n C dX0_join_22 rfl 1 rfl 23 rfl ?_
  refine vv_get C (q0 := 0) (ci := 0) (k := 10) kinX0_join_X0 rfl rfl (by decide) kwX0_join_1 rfl rfl dX0_join_23 26 rfl ?_
  refine vv_iload_n C dX0_join_26 rfl 3 rfl 27 rfl ?_
  obtain ⟨hi, h⟩ := chk_s h
  refine vv_iald C (q0 := 1) rfl hi dX0_join_27 28 rfl ?_
  refine vv_mmax C kwX0_join_6 kwX0_join_7 kwX0_join_4 kwX0_join_8 ⟨Nat.le_of_ble_eq_true rfl, Nat.le_of_ble_eq_true rfl⟩ ⟨Nat.le_of_ble_eq_true rfl, Nat.le_of_ble_eq_true rfl⟩ dX0_join_28 31 rfl ?_
  refine vv_istore C [(4, .int (mmax (rd B_piece a1) (rd B_piece a2))), (3, .int (mmin (rd B_piece a1) (rd B_piece a2))), (0, .ref (B 0)), (1, .int a1), (2, .int a2)] dX0_join_31 (by decide) rfl 33 rfl ?_
  refine vv_iload_n C dX0_join_33 rfl 1 rfl 34 rfl ?_
  refine vv_if_lt C 43 37 dX0_join_34 (by decide) rfl (fun hc => ?_) (fun hc => ?_)
  · replace h := ite_t hc h
    obtain rfl := Option.some.inj h
    exact ret _ _ dX0_join_43
  · replace h := ite_f hc h
    refine vv_iload_n C dX0_join_37 rfl 1 rfl 38 rfl ?_
    refine vv_iload C dX0_join_38 0 rfl 40 rfl ?_
    refine vv_icmp_ne C 44 43 dX0_join_40 (by decide) rfl (fun hc => ?_) (fun hc => ?_)
    · replace h := ite_f hc h
      refine vv_iload C dX0_join_44 0 rfl 46 rfl ?_
      refine vv_istore C [(5, .int (mmax (rd B_piece a1) (rd B_piece a2))), (4, .int (mmax (rd B_piece a1) (rd B_piece a2))), (3, .int (mmin (rd B_piece a1) (rd B_piece a2))), (0, .ref (B 0)), (1, .int a1), (2, .int a2)] dX0_join_46 (by decide) rfl 48 rfl ?_
      refine vv_lv [3, 2, 1, 0] [(0, .ref (B 0)), (3, .int (mmin (rd B_piece a1) (rd B_piece a2))), (4, .int (mmax (rd B_piece a1) (rd B_piece a2))), (5, .int (mmax (rd B_piece a1) (rd B_piece a2)))] rfl ?_
      have L48 : ∀ (n : Nat) (B_piece_48 : Nat → Int32) (v5_48 : Int32) (q48 : (Nat → Int32)), jX0_join_L48 B_number (mmin (rd B_piece a1) (rd B_piece a2)) (mmax (rd B_piece a1) (rd B_piece a2)) n B_piece_48 v5_48 = some q48 → (VV g D 6 0 0 (wX0_join c B B_number q48) [] 83 []) → VV g D 6 0 0 (wX0_join c B B_number B_piece_48) [(0, .ref (B 0)), (3, .int (mmin (rd B_piece a1) (rd B_piece a2))), (4, .int (mmax (rd B_piece a1) (rd B_piece a2))), (5, .int v5_48)] 48 [] := by
        intro n
        induction n with
        | zero =>
          intro B_piece_48 v5_48 q48 h _
          rw [jX0_join_L48] at h
          cases h
        | succ n ih48 =>
          intro B_piece_48 v5_48 q48 h kk48
          rw [jX0_join_L48] at h
          refine vv_iload C dX0_join_48 3 rfl 50 rfl ?_
          refine vv_aload_n C dX0_join_50 rfl 0 rfl 51 rfl ?_
          refine vv_get C (q0 := 0) (ci := 0) (k := 11) kinX0_join_X0 rfl rfl (by decide) kwX0_join_9 rfl rfl dX0_join_51 54 rfl ?_
          refine vv_icmp_ge C 83 57 dX0_join_54 (by decide) rfl (fun hc => ?_) (fun hc => ?_)
          · replace h := ite_t hc h
            refine vv_lv [] [] rfl ?_
            obtain rfl := Option.some.inj h
            exact kk48
          · replace h := ite_f hc h
            refine vv_aload_n C dX0_join_57 rfl 0 rfl 58 rfl ?_
            refine vv_get C (q0 := 0) (ci := 0) (k := 10) kinX0_join_X0 rfl rfl (by decide) kwX0_join_1 rfl rfl dX0_join_58 61 rfl ?_
            refine vv_iload C dX0_join_61 3 rfl 63 rfl ?_
            obtain ⟨hi, h⟩ := chk_s h
            refine vv_iald C (q0 := 1) rfl hi dX0_join_63 64 rfl ?_
            refine vv_iload C dX0_join_64 2 rfl 66 rfl ?_
            refine vv_icmp_ne C 77 69 dX0_join_66 (by decide) rfl (fun hc => ?_) (fun hc => ?_)
            · replace h := ite_f hc h
              refine vv_iinc C (k := 3) [(5, .int (v5_48 + 1)), (0, .ref (B 0)), (3, .int (mmin (rd B_piece a1) (rd B_piece a2))), (4, .int (mmax (rd B_piece a1) (rd B_piece a2)))] dX0_join_77 rfl rfl (by decide) rfl 80 rfl ?_
              refine vv_goto C 48 dX0_join_80 (by decide) ?_
              refine vv_lv [1, 2, 3, 0] [(0, .ref (B 0)), (3, .int (mmin (rd B_piece a1) (rd B_piece a2))), (4, .int (mmax (rd B_piece a1) (rd B_piece a2))), (5, .int (v5_48 + 1))] rfl ?_
              exact ih48 B_piece_48 (v5_48 + 1) _ h kk48
            · replace h := ite_t hc h
              refine vv_aload_n C dX0_join_69 rfl 0 rfl 70 rfl ?_
              refine vv_get C (q0 := 0) (ci := 0) (k := 10) kinX0_join_X0 rfl rfl (by decide) kwX0_join_1 rfl rfl dX0_join_70 73 rfl ?_
              refine vv_iload C dX0_join_73 3 rfl 75 rfl ?_
              refine vv_iload_n C dX0_join_75 rfl 1 rfl 76 rfl ?_
              obtain ⟨hi, h⟩ := chk_s h
              refine vv_iast C (q0 := 1) (wX0_join c B B_number (wr B_piece_48 v5_48 (mmin (rd B_piece a1) (rd B_piece a2)))) rfl hi rfl dX0_join_76 77 rfl ?_
              refine vv_iinc C (k := 3) [(5, .int (v5_48 + 1)), (0, .ref (B 0)), (3, .int (mmin (rd B_piece a1) (rd B_piece a2))), (4, .int (mmax (rd B_piece a1) (rd B_piece a2)))] dX0_join_77 rfl rfl (by decide) rfl 80 rfl ?_
              refine vv_goto C 48 dX0_join_80 (by decide) ?_
              refine vv_lv [1, 2, 3, 0] [(0, .ref (B 0)), (3, .int (mmin (rd B_piece a1) (rd B_piece a2))), (4, .int (mmax (rd B_piece a1) (rd B_piece a2))), (5, .int (v5_48 + 1))] rfl ?_
              exact ih48 (wr B_piece_48 v5_48 (mmin (rd B_piece a1) (rd B_piece a2))) (v5_48 + 1) _ h kk48
      obtain ⟨r1, hr1, h⟩ := bnd_s h
      refine L48 FU B_piece (mmax (rd B_piece a1) (rd B_piece a2)) r1 hr1 ?_
      obtain rfl := Option.some.inj h
      exact ret _ _ dX0_join_83
    · replace h := ite_t hc h
      obtain rfl := Option.some.inj h
      exact ret _ _ dX0_join_43
abbrev wX0_liesAt (c : Nat → ClassId) (B : Nat → Nat) (B_number : Int32) (B_column : Nat → Int32) (B_row : Nat → Int32) : va_W := [(B 0, .inr (0, [.ref (B 1), .ref (B 2), .ref (B 3), .ref (B 4), .ref (B 5), .ref (B 6), .ref (B 7), .ref (B 8), .ref (B 9), .ref (B 10), .ref (B 11), .int B_number])), aI c (B 1) 24 B_column, aI c (B 2) 24 B_row]
abbrev rmX0_liesAt : Room := { frames := 0, cells := 0, slots := 0, locals := 0 }
theorem yd_X0_liesAt : yX0_liesAt.cls = RX0 ∧ yX0_liesAt.cls ≠ "java/lang/invoke/MethodHandle" ∧ yX0_liesAt.cls ≠ "java/lang/invoke/VarHandle" ∧ (parseMethodDescriptor yX0_liesAt.desc).map (fun d => d.parameters.length) = some 2 := by decide +kernel
theorem kwX0_liesAt_1 : Cond.fieldLink RX0 45 "BarrelRaft$Barrels" "number" "I" ∈ wsX0_liesAt := List.mem_of_getElem? (i := 1) rfl
set_option maxRecDepth 20000 in
theorem kinX0_liesAt_X0 : ∀ w ∈ u_ws RX0 TX0 12, w ∈ wsX0_liesAt := by decide +kernel
theorem kwX0_liesAt_2 : Cond.fieldLink RX0 9 "BarrelRaft$Barrels" "column" "[I" ∈ wsX0_liesAt := List.mem_of_getElem? (i := 2) rfl
theorem kwX0_liesAt_3 : Cond.fieldLink RX0 15 "BarrelRaft$Barrels" "row" "[I" ∈ wsX0_liesAt := List.mem_of_getElem? (i := 3) rfl
def jX0_liesAt_L2 (B_number : Int32) (B_column : Nat → Int32) (B_row : Nat → Int32) (u1 : Int32) (u2 : Int32) (n : Nat) (v3_2 : Int32) : Option ((Unit) ⊕ (Unit)) :=
  match n with
  | 0 => none
  | n + 1 => (if B_number ≤ v3_2 then some (Sum.inr ()) else chk 24 v3_2 ((if rd B_column v3_2 = u1 then chk 24 v3_2 ((if rd B_row v3_2 = u2 then some (Sum.inl ()) else jX0_liesAt_L2 B_number B_column B_row u1 u2 n (v3_2 + 1))) else jX0_liesAt_L2 B_number B_column B_row u1 u2 n (v3_2 + 1))))
def jX0_liesAt (B_number : Int32) (B_column : Nat → Int32) (B_row : Nat → Int32) (a1 : Int32) (a2 : Int32) : Option (Int32) :=
  bnd (jX0_liesAt_L2 B_number B_column B_row a1 a2 FU 0) (fun r1 => sel r1 (fun r1_0 => chkZ 1 (some 1)) (fun r1_1 => chkZ 0 (some 0)))
set_option maxHeartbeats 4000000 in
set_option maxRecDepth 100000 in
theorem mt_X0_liesAt (l : Launch) (D : va_G) (c : Nat → ClassId) (B : Nat → Nat) (B_number : Int32) (B_column : Nat → Int32) (B_row : Nat → Int32) (a1 : Int32) (a2 : Int32) (q0 : Int32) (h : jX0_liesAt B_number B_column B_row a1 a2 = some q0) : DTi l yX0_liesAt wsX0_liesAt rmX0_liesAt D c (wX0_liesAt c B B_number B_column B_row) [.ref (B 0), .int a1, .int a2] q0 (wX0_liesAt c B B_number B_column B_row) 0 0 := by
  refine DTz_of (cc := cX0_liesAt) (nL := 4) RX0 rfl (by decide) rfl (Nat.le_of_ble_eq_true rfl) (fun g C ret => ?_)
  unfold jX0_liesAt at h
  refine vv_lv [0, 1, 2] [(0, .ref (B 0)), (1, .int a1), (2, .int a2)] rfl ?_
  refine vv_iconst C (v := 0) dX0_liesAt_0 (by decide) 1 rfl ?_
  refine vv_istore_n C [(3, .int 0), (0, .ref (B 0)), (1, .int a1), (2, .int a2)] dX0_liesAt_1 rfl (by decide) rfl 2 rfl ?_
  refine vv_lv [1, 2, 3, 0] [(0, .ref (B 0)), (1, .int a1), (2, .int a2), (3, .int 0)] rfl ?_
  have L2 : ∀ (n : Nat) (v3_2 : Int32) (q2 : (Unit) ⊕ (Unit)), jX0_liesAt_L2 B_number B_column B_row a1 a2 n v3_2 = some q2 → ((∀ w, q2 = (Sum.inl w) → VV g D 4 0 0 (wX0_liesAt c B B_number B_column B_row) [] 30 []) ∧ (∀ w, q2 = (Sum.inr w) → VV g D 4 0 0 (wX0_liesAt c B B_number B_column B_row) [] 38 [])) → VV g D 4 0 0 (wX0_liesAt c B B_number B_column B_row) [(0, .ref (B 0)), (1, .int a1), (2, .int a2), (3, .int v3_2)] 2 [] := by
    intro n
    induction n with
    | zero =>
      intro v3_2 q2 h _
      rw [jX0_liesAt_L2] at h
      cases h
    | succ n ih2 =>
      intro v3_2 q2 h kk2
      rw [jX0_liesAt_L2] at h
      refine vv_iload_n C dX0_liesAt_2 rfl 3 rfl 3 rfl ?_
      refine vv_aload_n C dX0_liesAt_3 rfl 0 rfl 4 rfl ?_
      refine vv_get C (q0 := 0) (ci := 0) (k := 11) kinX0_liesAt_X0 rfl rfl (by decide) kwX0_liesAt_1 rfl rfl dX0_liesAt_4 7 rfl ?_
      refine vv_icmp_ge C 38 10 dX0_liesAt_7 (by decide) rfl (fun hc => ?_) (fun hc => ?_)
      · replace h := ite_t hc h
        refine vv_lv [] [] rfl ?_
        exact kk2.2 _ (Option.some.inj h).symm
      · replace h := ite_f hc h
        refine vv_aload_n C dX0_liesAt_10 rfl 0 rfl 11 rfl ?_
        refine vv_get C (q0 := 0) (ci := 0) (k := 0) kinX0_liesAt_X0 rfl rfl (by decide) kwX0_liesAt_2 rfl rfl dX0_liesAt_11 14 rfl ?_
        refine vv_iload_n C dX0_liesAt_14 rfl 3 rfl 15 rfl ?_
        obtain ⟨hi, h⟩ := chk_s h
        refine vv_iald C (q0 := 1) rfl hi dX0_liesAt_15 16 rfl ?_
        refine vv_iload_n C dX0_liesAt_16 rfl 1 rfl 17 rfl ?_
        refine vv_icmp_ne C 32 20 dX0_liesAt_17 (by decide) rfl (fun hc => ?_) (fun hc => ?_)
        · replace h := ite_f hc h
          refine vv_iinc C (k := 3) [(3, .int (v3_2 + 1)), (0, .ref (B 0)), (1, .int a1), (2, .int a2)] dX0_liesAt_32 rfl rfl (by decide) rfl 35 rfl ?_
          refine vv_goto C 2 dX0_liesAt_35 (by decide) ?_
          refine vv_lv [1, 2, 3, 0] [(0, .ref (B 0)), (1, .int a1), (2, .int a2), (3, .int (v3_2 + 1))] rfl ?_
          exact ih2 (v3_2 + 1) _ h kk2
        · replace h := ite_t hc h
          refine vv_aload_n C dX0_liesAt_20 rfl 0 rfl 21 rfl ?_
          refine vv_get C (q0 := 0) (ci := 0) (k := 1) kinX0_liesAt_X0 rfl rfl (by decide) kwX0_liesAt_3 rfl rfl dX0_liesAt_21 24 rfl ?_
          refine vv_iload_n C dX0_liesAt_24 rfl 3 rfl 25 rfl ?_
          obtain ⟨hi, h⟩ := chk_s h
          refine vv_iald C (q0 := 2) rfl hi dX0_liesAt_25 26 rfl ?_
          refine vv_iload_n C dX0_liesAt_26 rfl 2 rfl 27 rfl ?_
          refine vv_icmp_ne C 32 30 dX0_liesAt_27 (by decide) rfl (fun hc => ?_) (fun hc => ?_)
          · replace h := ite_f hc h
            refine vv_iinc C (k := 3) [(3, .int (v3_2 + 1)), (0, .ref (B 0)), (1, .int a1), (2, .int a2)] dX0_liesAt_32 rfl rfl (by decide) rfl 35 rfl ?_
            refine vv_goto C 2 dX0_liesAt_35 (by decide) ?_
            refine vv_lv [1, 2, 3, 0] [(0, .ref (B 0)), (1, .int a1), (2, .int a2), (3, .int (v3_2 + 1))] rfl ?_
            exact ih2 (v3_2 + 1) _ h kk2
          · replace h := ite_t hc h
            refine vv_lv [] [] rfl ?_
            exact kk2.1 _ (Option.some.inj h).symm
  obtain ⟨r1, hr1, h⟩ := bnd_s h
  refine L2 FU 0 r1 hr1 ⟨fun r1_0 e => ?_, fun r1_1 e => ?_⟩
  · subst e
    replace h := sel_l h
    refine vv_iconst C (v := 1) dX0_liesAt_30 (by decide) 31 rfl ?_
    obtain ⟨hz, h⟩ := chkZ_s h
    obtain rfl := Option.some.inj h
    exact ret _ _ hz dX0_liesAt_31
  · subst e
    replace h := sel_r h
    refine vv_iconst C (v := 0) dX0_liesAt_38 (by decide) 39 rfl ?_
    obtain ⟨hz, h⟩ := chkZ_s h
    obtain rfl := Option.some.inj h
    exact ret _ _ hz dX0_liesAt_39
abbrev wX0_liftNow (c : Nat → ClassId) (B : Nat → Nat) (B_number : Int32) (B_lift : Nat → Int32) (B_water : Nat → Int32) : va_W := [(B 0, .inr (0, [.ref (B 1), .ref (B 2), .ref (B 3), .ref (B 4), .ref (B 5), .ref (B 6), .ref (B 7), .ref (B 8), .ref (B 9), .ref (B 10), .ref (B 11), .int B_number])), aI c (B 3) 24 B_lift, aI c (B 5) 24 B_water]
abbrev rmX0_liftNow : Room := { frames := 0, cells := 0, slots := 0, locals := 0 }
theorem yd_X0_liftNow : yX0_liftNow.cls = RX0 ∧ yX0_liftNow.cls ≠ "java/lang/invoke/MethodHandle" ∧ yX0_liftNow.cls ≠ "java/lang/invoke/VarHandle" ∧ (parseMethodDescriptor yX0_liftNow.desc).map (fun d => d.parameters.length) = some 1 := by decide +kernel
theorem kwX0_liftNow_1 : Cond.fieldLink RX0 18 "BarrelRaft$Barrels" "lift" "[I" ∈ wsX0_liftNow := List.mem_of_getElem? (i := 1) rfl
set_option maxRecDepth 20000 in
theorem kinX0_liftNow_X0 : ∀ w ∈ u_ws RX0 TX0 12, w ∈ wsX0_liftNow := by decide +kernel
theorem kwX0_liftNow_2 : Cond.fieldLink RX0 24 "BarrelRaft$Barrels" "water" "[I" ∈ wsX0_liftNow := List.mem_of_getElem? (i := 2) rfl
def jX0_liftNow (B_lift : Nat → Int32) (B_water : Nat → Int32) (a1 : Int32) : Option (Int32) :=
  chk 24 a1 (chk 24 a1 (some (((rd B_lift a1) * (100 - (rd B_water a1))) / 100)))
set_option maxHeartbeats 4000000 in
set_option maxRecDepth 100000 in
theorem mt_X0_liftNow (l : Launch) (D : va_G) (c : Nat → ClassId) (B : Nat → Nat) (B_number : Int32) (B_lift : Nat → Int32) (B_water : Nat → Int32) (a1 : Int32) (q0 : Int32) (h : jX0_liftNow B_lift B_water a1 = some q0) : DTi l yX0_liftNow wsX0_liftNow rmX0_liftNow D c (wX0_liftNow c B B_number B_lift B_water) [.ref (B 0), .int a1] q0 (wX0_liftNow c B B_number B_lift B_water) 0 0 := by
  refine DTi_of (cc := cX0_liftNow) (nL := 2) RX0 rfl (by decide) rfl (Nat.le_of_ble_eq_true rfl) (fun g C ret => ?_)
  unfold jX0_liftNow at h
  refine vv_lv [0, 1] [(0, .ref (B 0)), (1, .int a1)] rfl ?_
  refine vv_aload_n C dX0_liftNow_0 rfl 0 rfl 1 rfl ?_
  refine vv_get C (q0 := 0) (ci := 0) (k := 2) kinX0_liftNow_X0 rfl rfl (by decide) kwX0_liftNow_1 rfl rfl dX0_liftNow_1 4 rfl ?_
  refine vv_iload_n C dX0_liftNow_4 rfl 1 rfl 5 rfl ?_
  obtain ⟨hi, h⟩ := chk_s h
  refine vv_iald C (q0 := 1) rfl hi dX0_liftNow_5 6 rfl ?_
  refine vv_bipush C (v := 100) dX0_liftNow_6 (by decide) 8 rfl ?_
  refine vv_aload_n C dX0_liftNow_8 rfl 0 rfl 9 rfl ?_
  refine vv_get C (q0 := 0) (ci := 0) (k := 4) kinX0_liftNow_X0 rfl rfl (by decide) kwX0_liftNow_2 rfl rfl dX0_liftNow_9 12 rfl ?_
  refine vv_iload_n C dX0_liftNow_12 rfl 1 rfl 13 rfl ?_
  obtain ⟨hi, h⟩ := chk_s h
  refine vv_iald C (q0 := 2) rfl hi dX0_liftNow_13 14 rfl ?_
  refine vv_isub C dX0_liftNow_14 15 rfl ?_
  refine vv_imul C dX0_liftNow_15 16 rfl ?_
  refine vv_bipush C (v := 100) dX0_liftNow_16 (by decide) 18 rfl ?_
  refine vv_idiv C dX0_liftNow_18 (by decide) 19 rfl ?_
  obtain rfl := Option.some.inj h
  exact ret _ _ dX0_liftNow_19
abbrev wX0_loadOf (c : Nat → ClassId) (B : Nat → Nat) (B_number : Int32) (B_goods : Nat → Int32) (B_people : Nat → Int32) : va_W := [(B 0, .inr (0, [.ref (B 1), .ref (B 2), .ref (B 3), .ref (B 4), .ref (B 5), .ref (B 6), .ref (B 7), .ref (B 8), .ref (B 9), .ref (B 10), .ref (B 11), .int B_number])), aI c (B 6) 24 B_goods, aI c (B 7) 24 B_people]
abbrev rmX0_loadOf : Room := { frames := 0, cells := 0, slots := 0, locals := 0 }
theorem yd_X0_loadOf : yX0_loadOf.cls = RX0 ∧ yX0_loadOf.cls ≠ "java/lang/invoke/MethodHandle" ∧ yX0_loadOf.cls ≠ "java/lang/invoke/VarHandle" ∧ (parseMethodDescriptor yX0_loadOf.desc).map (fun d => d.parameters.length) = some 1 := by decide +kernel
theorem kwX0_loadOf_1 : Cond.fieldLink RX0 27 "BarrelRaft$Barrels" "goods" "[I" ∈ wsX0_loadOf := List.mem_of_getElem? (i := 1) rfl
set_option maxRecDepth 20000 in
theorem kinX0_loadOf_X0 : ∀ w ∈ u_ws RX0 TX0 12, w ∈ wsX0_loadOf := by decide +kernel
theorem kwX0_loadOf_2 : Cond.fieldLink RX0 30 "BarrelRaft$Barrels" "people" "[I" ∈ wsX0_loadOf := List.mem_of_getElem? (i := 2) rfl
def jX0_loadOf (B_goods : Nat → Int32) (B_people : Nat → Int32) (a1 : Int32) : Option (Int32) :=
  chk 24 a1 (chk 24 a1 (some ((rd B_goods a1) + (7 * (rd B_people a1)))))
set_option maxHeartbeats 4000000 in
set_option maxRecDepth 100000 in
theorem mt_X0_loadOf (l : Launch) (D : va_G) (c : Nat → ClassId) (B : Nat → Nat) (B_number : Int32) (B_goods : Nat → Int32) (B_people : Nat → Int32) (a1 : Int32) (q0 : Int32) (h : jX0_loadOf B_goods B_people a1 = some q0) : DTi l yX0_loadOf wsX0_loadOf rmX0_loadOf D c (wX0_loadOf c B B_number B_goods B_people) [.ref (B 0), .int a1] q0 (wX0_loadOf c B B_number B_goods B_people) 0 0 := by
  refine DTi_of (cc := cX0_loadOf) (nL := 2) RX0 rfl (by decide) rfl (Nat.le_of_ble_eq_true rfl) (fun g C ret => ?_)
  unfold jX0_loadOf at h
  refine vv_lv [0, 1] [(0, .ref (B 0)), (1, .int a1)] rfl ?_
  refine vv_aload_n C dX0_loadOf_0 rfl 0 rfl 1 rfl ?_
  refine vv_get C (q0 := 0) (ci := 0) (k := 5) kinX0_loadOf_X0 rfl rfl (by decide) kwX0_loadOf_1 rfl rfl dX0_loadOf_1 4 rfl ?_
  refine vv_iload_n C dX0_loadOf_4 rfl 1 rfl 5 rfl ?_
  obtain ⟨hi, h⟩ := chk_s h
  refine vv_iald C (q0 := 1) rfl hi dX0_loadOf_5 6 rfl ?_
  refine vv_bipush C (v := 7) dX0_loadOf_6 (by decide) 8 rfl ?_
  refine vv_aload_n C dX0_loadOf_8 rfl 0 rfl 9 rfl ?_
  refine vv_get C (q0 := 0) (ci := 0) (k := 6) kinX0_loadOf_X0 rfl rfl (by decide) kwX0_loadOf_2 rfl rfl dX0_loadOf_9 12 rfl ?_
  refine vv_iload_n C dX0_loadOf_12 rfl 1 rfl 13 rfl ?_
  obtain ⟨hi, h⟩ := chk_s h
  refine vv_iald C (q0 := 2) rfl hi dX0_loadOf_13 14 rfl ?_
  refine vv_imul C dX0_loadOf_14 15 rfl ?_
  refine vv_iadd C dX0_loadOf_15 16 rfl ?_
  obtain rfl := Option.some.inj h
  exact ret _ _ dX0_loadOf_16
abbrev wX0_pieces (c : Nat → ClassId) (B : Nat → Nat) (B_number : Int32) (B_piece : Nat → Int32) : va_W := [(B 0, .inr (0, [.ref (B 1), .ref (B 2), .ref (B 3), .ref (B 4), .ref (B 5), .ref (B 6), .ref (B 7), .ref (B 8), .ref (B 9), .ref (B 10), .ref (B 11), .int B_number])), aI c (B 11) 24 B_piece]
abbrev rmX0_pieces : Room := { frames := 0, cells := 0, slots := 0, locals := 0 }
theorem yd_X0_pieces : yX0_pieces.cls = RX0 ∧ yX0_pieces.cls ≠ "java/lang/invoke/MethodHandle" ∧ yX0_pieces.cls ≠ "java/lang/invoke/VarHandle" ∧ (parseMethodDescriptor yX0_pieces.desc).map (fun d => d.parameters.length) = some 0 := by decide +kernel
theorem kwX0_pieces_1 : Cond.fieldLink RX0 45 "BarrelRaft$Barrels" "number" "I" ∈ wsX0_pieces := List.mem_of_getElem? (i := 1) rfl
set_option maxRecDepth 20000 in
theorem kinX0_pieces_X0 : ∀ w ∈ u_ws RX0 TX0 12, w ∈ wsX0_pieces := by decide +kernel
theorem kwX0_pieces_2 : Cond.fieldLink RX0 42 "BarrelRaft$Barrels" "piece" "[I" ∈ wsX0_pieces := List.mem_of_getElem? (i := 2) rfl
def jX0_pieces_L4 (B_number : Int32) (B_piece : Nat → Int32) (n : Nat) (v1_4 : Int32) (v2_4 : Int32) : Option (Int32) :=
  match n with
  | 0 => none
  | n + 1 => (if B_number ≤ v2_4 then some v1_4 else chk 24 v2_4 ((if rd B_piece v2_4 = v2_4 then jX0_pieces_L4 B_number B_piece n (v1_4 + 1) (v2_4 + 1) else jX0_pieces_L4 B_number B_piece n v1_4 (v2_4 + 1))))
def jX0_pieces (B_number : Int32) (B_piece : Nat → Int32) : Option (Int32) :=
  bnd (jX0_pieces_L4 B_number B_piece FU 0 0) (fun r1 => some r1)
set_option maxHeartbeats 4000000 in
set_option maxRecDepth 100000 in
theorem mt_X0_pieces (l : Launch) (D : va_G) (c : Nat → ClassId) (B : Nat → Nat) (B_number : Int32) (B_piece : Nat → Int32) (q0 : Int32) (h : jX0_pieces B_number B_piece = some q0) : DTi l yX0_pieces wsX0_pieces rmX0_pieces D c (wX0_pieces c B B_number B_piece) [.ref (B 0)] q0 (wX0_pieces c B B_number B_piece) 0 0 := by
  refine DTi_of (cc := cX0_pieces) (nL := 3) RX0 rfl (by decide) rfl (Nat.le_of_ble_eq_true rfl) (fun g C ret => ?_)
  unfold jX0_pieces at h
  refine vv_lv [0] [(0, .ref (B 0))] rfl ?_
  refine vv_iconst C (v := 0) dX0_pieces_0 (by decide) 1 rfl ?_
  refine vv_istore_n C [(1, .int 0), (0, .ref (B 0))] dX0_pieces_1 rfl (by decide) rfl 2 rfl ?_
  refine vv_iconst C (v := 0) dX0_pieces_2 (by decide) 3 rfl ?_
  refine vv_istore_n C [(2, .int 0), (1, .int 0), (0, .ref (B 0))] dX0_pieces_3 rfl (by decide) rfl 4 rfl ?_
  refine vv_lv [2, 1, 0] [(0, .ref (B 0)), (1, .int 0), (2, .int 0)] rfl ?_
  have L4 : ∀ (n : Nat) (v1_4 : Int32) (v2_4 : Int32) (q4 : Int32), jX0_pieces_L4 B_number B_piece n v1_4 v2_4 = some q4 → (VV g D 3 0 0 (wX0_pieces c B B_number B_piece) [(1, .int q4)] 31 []) → VV g D 3 0 0 (wX0_pieces c B B_number B_piece) [(0, .ref (B 0)), (1, .int v1_4), (2, .int v2_4)] 4 [] := by
    intro n
    induction n with
    | zero =>
      intro v1_4 v2_4 q4 h _
      rw [jX0_pieces_L4] at h
      cases h
    | succ n ih4 =>
      intro v1_4 v2_4 q4 h kk4
      rw [jX0_pieces_L4] at h
      refine vv_iload_n C dX0_pieces_4 rfl 2 rfl 5 rfl ?_
      refine vv_aload_n C dX0_pieces_5 rfl 0 rfl 6 rfl ?_
      refine vv_get C (q0 := 0) (ci := 0) (k := 11) kinX0_pieces_X0 rfl rfl (by decide) kwX0_pieces_1 rfl rfl dX0_pieces_6 9 rfl ?_
      refine vv_icmp_ge C 31 12 dX0_pieces_9 (by decide) rfl (fun hc => ?_) (fun hc => ?_)
      · replace h := ite_t hc h
        refine vv_lv [1] [(1, .int v1_4)] rfl ?_
        obtain rfl := Option.some.inj h
        exact kk4
      · replace h := ite_f hc h
        refine vv_aload_n C dX0_pieces_12 rfl 0 rfl 13 rfl ?_
        refine vv_get C (q0 := 0) (ci := 0) (k := 10) kinX0_pieces_X0 rfl rfl (by decide) kwX0_pieces_2 rfl rfl dX0_pieces_13 16 rfl ?_
        refine vv_iload_n C dX0_pieces_16 rfl 2 rfl 17 rfl ?_
        obtain ⟨hi, h⟩ := chk_s h
        refine vv_iald C (q0 := 1) rfl hi dX0_pieces_17 18 rfl ?_
        refine vv_iload_n C dX0_pieces_18 rfl 2 rfl 19 rfl ?_
        refine vv_icmp_ne C 25 22 dX0_pieces_19 (by decide) rfl (fun hc => ?_) (fun hc => ?_)
        · replace h := ite_f hc h
          refine vv_iinc C (k := 2) [(2, .int (v2_4 + 1)), (0, .ref (B 0)), (1, .int v1_4)] dX0_pieces_25 rfl rfl (by decide) rfl 28 rfl ?_
          refine vv_goto C 4 dX0_pieces_28 (by decide) ?_
          refine vv_lv [1, 2, 0] [(0, .ref (B 0)), (1, .int v1_4), (2, .int (v2_4 + 1))] rfl ?_
          exact ih4 v1_4 (v2_4 + 1) _ h kk4
        · replace h := ite_t hc h
          refine vv_iinc C (k := 1) [(1, .int (v1_4 + 1)), (0, .ref (B 0)), (2, .int v2_4)] dX0_pieces_22 rfl rfl (by decide) rfl 25 rfl ?_
          refine vv_iinc C (k := 2) [(2, .int (v2_4 + 1)), (1, .int (v1_4 + 1)), (0, .ref (B 0))] dX0_pieces_25 rfl rfl (by decide) rfl 28 rfl ?_
          refine vv_goto C 4 dX0_pieces_28 (by decide) ?_
          refine vv_lv [2, 1, 0] [(0, .ref (B 0)), (1, .int (v1_4 + 1)), (2, .int (v2_4 + 1))] rfl ?_
          exact ih4 (v1_4 + 1) (v2_4 + 1) _ h kk4
  obtain ⟨r1, hr1, h⟩ := bnd_s h
  refine L4 FU 0 0 r1 hr1 ?_
  refine vv_iload_n C dX0_pieces_31 rfl 0 rfl 32 rfl ?_
  obtain rfl := Option.some.inj h
  exact ret _ _ dX0_pieces_32
abbrev wX0_standAlone (c : Nat → ClassId) (B : Nat → Nat) (B_number : Int32) (B_state : Nat → Int32) (B_piece : Nat → Int32) : va_W := [(B 0, .inr (0, [.ref (B 1), .ref (B 2), .ref (B 3), .ref (B 4), .ref (B 5), .ref (B 6), .ref (B 7), .ref (B 8), .ref (B 9), .ref (B 10), .ref (B 11), .int B_number])), aI c (B 8) 24 B_state, aI c (B 11) 24 B_piece]
abbrev rmX0_standAlone : Room := { frames := 0, cells := 0, slots := 0, locals := 0 }
theorem yd_X0_standAlone : yX0_standAlone.cls = RX0 ∧ yX0_standAlone.cls ≠ "java/lang/invoke/MethodHandle" ∧ yX0_standAlone.cls ≠ "java/lang/invoke/VarHandle" ∧ (parseMethodDescriptor yX0_standAlone.desc).map (fun d => d.parameters.length) = some 0 := by decide +kernel
theorem kwX0_standAlone_1 : Cond.fieldLink RX0 45 "BarrelRaft$Barrels" "number" "I" ∈ wsX0_standAlone := List.mem_of_getElem? (i := 1) rfl
set_option maxRecDepth 20000 in
theorem kinX0_standAlone_X0 : ∀ w ∈ u_ws RX0 TX0 12, w ∈ wsX0_standAlone := by decide +kernel
theorem kwX0_standAlone_2 : Cond.fieldLink RX0 42 "BarrelRaft$Barrels" "piece" "[I" ∈ wsX0_standAlone := List.mem_of_getElem? (i := 2) rfl
theorem kwX0_standAlone_3 : Cond.fieldLink RX0 33 "BarrelRaft$Barrels" "state" "[I" ∈ wsX0_standAlone := List.mem_of_getElem? (i := 3) rfl
def jX0_standAlone_L2 (B_number : Int32) (B_state : Nat → Int32) (n : Nat) (B_piece_2 : Nat → Int32) (v1_2 : Int32) : Option ((Nat → Int32)) :=
  match n with
  | 0 => none
  | n + 1 => (if B_number ≤ v1_2 then some B_piece_2 else chk 24 v1_2 ((if rd B_state v1_2 = 0 then chk 24 v1_2 (jX0_standAlone_L2 B_number B_state n (wr B_piece_2 v1_2 v1_2) (v1_2 + 1)) else chk 24 v1_2 (jX0_standAlone_L2 B_number B_state n (wr B_piece_2 v1_2 (-1)) (v1_2 + 1)))))
def jX0_standAlone (B_number : Int32) (B_state : Nat → Int32) (B_piece : Nat → Int32) : Option ((Nat → Int32)) :=
  bnd (jX0_standAlone_L2 B_number B_state FU B_piece 0) (fun r1 => some r1)
set_option maxHeartbeats 4000000 in
set_option maxRecDepth 100000 in
theorem mt_X0_standAlone (l : Launch) (D : va_G) (c : Nat → ClassId) (B : Nat → Nat) (B_number : Int32) (B_state : Nat → Int32) (B_piece : Nat → Int32) (q0 : (Nat → Int32)) (h : jX0_standAlone B_number B_state B_piece = some q0) : DTv l yX0_standAlone wsX0_standAlone rmX0_standAlone D c (wX0_standAlone c B B_number B_state B_piece) [.ref (B 0)] (wX0_standAlone c B B_number B_state q0) 0 0 := by
  refine DTv_of (cc := cX0_standAlone) (nL := 2) RX0 rfl (by decide) rfl (Nat.le_of_ble_eq_true rfl) (fun g C ret => ?_)
  unfold jX0_standAlone at h
  refine vv_lv [0] [(0, .ref (B 0))] rfl ?_
  refine vv_iconst C (v := 0) dX0_standAlone_0 (by decide) 1 rfl ?_
  refine vv_istore_n C [(1, .int 0), (0, .ref (B 0))] dX0_standAlone_1 rfl (by decide) rfl 2 rfl ?_
  refine vv_lv [1, 0] [(0, .ref (B 0)), (1, .int 0)] rfl ?_
  have L2 : ∀ (n : Nat) (B_piece_2 : Nat → Int32) (v1_2 : Int32) (q2 : (Nat → Int32)), jX0_standAlone_L2 B_number B_state n B_piece_2 v1_2 = some q2 → (VV g D 2 0 0 (wX0_standAlone c B B_number B_state q2) [] 36 []) → VV g D 2 0 0 (wX0_standAlone c B B_number B_state B_piece_2) [(0, .ref (B 0)), (1, .int v1_2)] 2 [] := by
    intro n
    induction n with
    | zero =>
      intro B_piece_2 v1_2 q2 h _
      rw [jX0_standAlone_L2] at h
      cases h
    | succ n ih2 =>
      intro B_piece_2 v1_2 q2 h kk2
      rw [jX0_standAlone_L2] at h
      refine vv_iload_n C dX0_standAlone_2 rfl 1 rfl 3 rfl ?_
      refine vv_aload_n C dX0_standAlone_3 rfl 0 rfl 4 rfl ?_
      refine vv_get C (q0 := 0) (ci := 0) (k := 11) kinX0_standAlone_X0 rfl rfl (by decide) kwX0_standAlone_1 rfl rfl dX0_standAlone_4 7 rfl ?_
      refine vv_icmp_ge C 36 10 dX0_standAlone_7 (by decide) rfl (fun hc => ?_) (fun hc => ?_)
      · replace h := ite_t hc h
        refine vv_lv [] [] rfl ?_
        obtain rfl := Option.some.inj h
        exact kk2
      · replace h := ite_f hc h
        refine vv_aload_n C dX0_standAlone_10 rfl 0 rfl 11 rfl ?_
        refine vv_get C (q0 := 0) (ci := 0) (k := 10) kinX0_standAlone_X0 rfl rfl (by decide) kwX0_standAlone_2 rfl rfl dX0_standAlone_11 14 rfl ?_
        refine vv_iload_n C dX0_standAlone_14 rfl 1 rfl 15 rfl ?_
        refine vv_aload_n C dX0_standAlone_15 rfl 0 rfl 16 rfl ?_
        refine vv_get C (q0 := 0) (ci := 0) (k := 7) kinX0_standAlone_X0 rfl rfl (by decide) kwX0_standAlone_3 rfl rfl dX0_standAlone_16 19 rfl ?_
        refine vv_iload_n C dX0_standAlone_19 rfl 1 rfl 20 rfl ?_
        obtain ⟨hi, h⟩ := chk_s h
        refine vv_iald C (q0 := 1) rfl hi dX0_standAlone_20 21 rfl ?_
        refine vv_if_ne C 28 24 dX0_standAlone_21 (by decide) rfl (fun hc => ?_) (fun hc => ?_)
        · replace h := ite_f hc h
          refine vv_iconst C (v := (-1)) dX0_standAlone_28 (by decide) 29 rfl ?_
          obtain ⟨hi, h⟩ := chk_s h
          refine vv_iast C (q0 := 2) (wX0_standAlone c B B_number B_state (wr B_piece_2 v1_2 (-1))) rfl hi rfl dX0_standAlone_29 30 rfl ?_
          refine vv_iinc C (k := 1) [(1, .int (v1_2 + 1)), (0, .ref (B 0))] dX0_standAlone_30 rfl rfl (by decide) rfl 33 rfl ?_
          refine vv_goto C 2 dX0_standAlone_33 (by decide) ?_
          refine vv_lv [1, 0] [(0, .ref (B 0)), (1, .int (v1_2 + 1))] rfl ?_
          exact ih2 (wr B_piece_2 v1_2 (-1)) (v1_2 + 1) _ h kk2
        · replace h := ite_t hc h
          refine vv_iload_n C dX0_standAlone_24 rfl 1 rfl 25 rfl ?_
          refine vv_goto C 29 dX0_standAlone_25 (by decide) ?_
          obtain ⟨hi, h⟩ := chk_s h
          refine vv_iast C (q0 := 2) (wX0_standAlone c B B_number B_state (wr B_piece_2 v1_2 v1_2)) rfl hi rfl dX0_standAlone_29 30 rfl ?_
          refine vv_iinc C (k := 1) [(1, .int (v1_2 + 1)), (0, .ref (B 0))] dX0_standAlone_30 rfl rfl (by decide) rfl 33 rfl ?_
          refine vv_goto C 2 dX0_standAlone_33 (by decide) ?_
          refine vv_lv [1, 0] [(0, .ref (B 0)), (1, .int (v1_2 + 1))] rfl ?_
          exact ih2 (wr B_piece_2 v1_2 v1_2) (v1_2 + 1) _ h kk2
  obtain ⟨r1, hr1, h⟩ := bnd_s h
  refine L2 FU B_piece 0 r1 hr1 ?_
  obtain rfl := Option.some.inj h
  exact ret _ _ dX0_standAlone_36
abbrev wX0_takeInWater (c : Nat → ClassId) (B : Nat → Nat) (B_number : Int32) (B_leak : Nat → Int32) (B_water : Nat → Int32) (B_state : Nat → Int32) : va_W := [(B 0, .inr (0, [.ref (B 1), .ref (B 2), .ref (B 3), .ref (B 4), .ref (B 5), .ref (B 6), .ref (B 7), .ref (B 8), .ref (B 9), .ref (B 10), .ref (B 11), .int B_number])), aI c (B 4) 24 B_leak, aI c (B 5) 24 B_water, aI c (B 8) 24 B_state]
abbrev rmX0_takeInWater : Room := { frames := 1, cells := 0, slots := 0, locals := 21 }
theorem yd_X0_takeInWater : yX0_takeInWater.cls = RX0 ∧ yX0_takeInWater.cls ≠ "java/lang/invoke/MethodHandle" ∧ yX0_takeInWater.cls ≠ "java/lang/invoke/VarHandle" ∧ (parseMethodDescriptor yX0_takeInWater.desc).map (fun d => d.parameters.length) = some 0 := by decide +kernel
theorem kwX0_takeInWater_1 : Cond.fieldLink RX0 45 "BarrelRaft$Barrels" "number" "I" ∈ wsX0_takeInWater := List.mem_of_getElem? (i := 1) rfl
set_option maxRecDepth 20000 in
theorem kinX0_takeInWater_X0 : ∀ w ∈ u_ws RX0 TX0 12, w ∈ wsX0_takeInWater := by decide +kernel
theorem kwX0_takeInWater_2 : Cond.fieldLink RX0 33 "BarrelRaft$Barrels" "state" "[I" ∈ wsX0_takeInWater := List.mem_of_getElem? (i := 2) rfl
theorem kwX0_takeInWater_3 : Cond.fieldLink RX0 24 "BarrelRaft$Barrels" "water" "[I" ∈ wsX0_takeInWater := List.mem_of_getElem? (i := 3) rfl
theorem kwX0_takeInWater_4 : Cond.fieldLink RX0 21 "BarrelRaft$Barrels" "leak" "[I" ∈ wsX0_takeInWater := List.mem_of_getElem? (i := 4) rfl
theorem kwX0_takeInWater_5 : Cond.methodLink RX0 66 Lib.Math.min.name ∈ wsX0_takeInWater := List.mem_of_getElem? (i := 5) rfl
theorem kwX0_takeInWater_6 : Cond.static Lib.Math.min.name ∈ wsX0_takeInWater := List.mem_of_getElem? (i := 6) rfl
theorem kwX0_takeInWater_7 : Cond.initialized "java/lang/Math" ∈ wsX0_takeInWater := List.mem_of_getElem? (i := 7) rfl
theorem kwX0_takeInWater_8 : Cond.code Lib.Math.min.name Lib.Math.min.code 2 (some .int) ∈ wsX0_takeInWater := List.mem_of_getElem? (i := 8) rfl
def jX0_takeInWater_L2 (B_number : Int32) (B_leak : Nat → Int32) (B_state : Nat → Int32) (n : Nat) (B_water_2 : Nat → Int32) (v1_2 : Int32) : Option ((Nat → Int32)) :=
  match n with
  | 0 => none
  | n + 1 => (if B_number ≤ v1_2 then some B_water_2 else chk 24 v1_2 ((if rd B_state v1_2 = 0 then chk 24 v1_2 (chk 24 v1_2 (chk 24 v1_2 (jX0_takeInWater_L2 B_number B_leak B_state n (wr B_water_2 v1_2 (mmin 100 ((rd B_water_2 v1_2) + (rd B_leak v1_2)))) (v1_2 + 1)))) else jX0_takeInWater_L2 B_number B_leak B_state n B_water_2 (v1_2 + 1))))
def jX0_takeInWater (B_number : Int32) (B_leak : Nat → Int32) (B_water : Nat → Int32) (B_state : Nat → Int32) : Option ((Nat → Int32)) :=
  bnd (jX0_takeInWater_L2 B_number B_leak B_state FU B_water 0) (fun r1 => some r1)
set_option maxHeartbeats 4000000 in
set_option maxRecDepth 100000 in
theorem mt_X0_takeInWater (l : Launch) (D : va_G) (c : Nat → ClassId) (B : Nat → Nat) (B_number : Int32) (B_leak : Nat → Int32) (B_water : Nat → Int32) (B_state : Nat → Int32) (q0 : (Nat → Int32)) (h : jX0_takeInWater B_number B_leak B_water B_state = some q0) : DTv l yX0_takeInWater wsX0_takeInWater rmX0_takeInWater D c (wX0_takeInWater c B B_number B_leak B_water B_state) [.ref (B 0)] (wX0_takeInWater c B B_number B_leak q0 B_state) 0 0 := by
  refine DTv_of (cc := cX0_takeInWater) (nL := 2) RX0 rfl (by decide) rfl (Nat.le_of_ble_eq_true rfl) (fun g C ret => ?_)
  unfold jX0_takeInWater at h
  refine vv_lv [0] [(0, .ref (B 0))] rfl ?_
  refine vv_iconst C (v := 0) dX0_takeInWater_0 (by decide) 1 rfl ?_
  refine vv_istore_n C [(1, .int 0), (0, .ref (B 0))] dX0_takeInWater_1 rfl (by decide) rfl 2 rfl ?_
  refine vv_lv [1, 0] [(0, .ref (B 0)), (1, .int 0)] rfl ?_
  have L2 : ∀ (n : Nat) (B_water_2 : Nat → Int32) (v1_2 : Int32) (q2 : (Nat → Int32)), jX0_takeInWater_L2 B_number B_leak B_state n B_water_2 v1_2 = some q2 → (VV g D 2 0 0 (wX0_takeInWater c B B_number B_leak q2 B_state) [] 49 []) → VV g D 2 0 0 (wX0_takeInWater c B B_number B_leak B_water_2 B_state) [(0, .ref (B 0)), (1, .int v1_2)] 2 [] := by
    intro n
    induction n with
    | zero =>
      intro B_water_2 v1_2 q2 h _
      rw [jX0_takeInWater_L2] at h
      cases h
    | succ n ih2 =>
      intro B_water_2 v1_2 q2 h kk2
      rw [jX0_takeInWater_L2] at h
      refine vv_iload_n C dX0_takeInWater_2 rfl 1 rfl 3 rfl ?_
      refine vv_aload_n C dX0_takeInWater_3 rfl 0 rfl 4 rfl ?_
      refine vv_get C (q0 := 0) (ci := 0) (k := 11) kinX0_takeInWater_X0 rfl rfl (by decide) kwX0_takeInWater_1 rfl rfl dX0_takeInWater_4 7 rfl ?_
      refine vv_icmp_ge C 49 10 dX0_takeInWater_7 (by decide) rfl (fun hc => ?_) (fun hc => ?_)
      · replace h := ite_t hc h
        refine vv_lv [] [] rfl ?_
        obtain rfl := Option.some.inj h
        exact kk2
      · replace h := ite_f hc h
        refine vv_aload_n C dX0_takeInWater_10 rfl 0 rfl 11 rfl ?_
        refine vv_get C (q0 := 0) (ci := 0) (k := 7) kinX0_takeInWater_X0 rfl rfl (by decide) kwX0_takeInWater_2 rfl rfl dX0_takeInWater_11 14 rfl ?_
        refine vv_iload_n C dX0_takeInWater_14 rfl 1 rfl 15 rfl ?_
        obtain ⟨hi, h⟩ := chk_s h
        refine vv_iald C (q0 := 3) rfl hi dX0_takeInWater_15 16 rfl ?_
        refine vv_if_ne C 43 19 dX0_takeInWater_16 (by decide) rfl (fun hc => ?_) (fun hc => ?_)
        · replace h := ite_f hc h
          refine vv_iinc C (k := 1) [(1, .int (v1_2 + 1)), (0, .ref (B 0))] dX0_takeInWater_43 rfl rfl (by decide) rfl 46 rfl ?_
          refine vv_goto C 2 dX0_takeInWater_46 (by decide) ?_
          refine vv_lv [1, 0] [(0, .ref (B 0)), (1, .int (v1_2 + 1))] rfl ?_
          exact ih2 B_water_2 (v1_2 + 1) _ h kk2
        · replace h := ite_t hc h
          refine vv_aload_n C dX0_takeInWater_19 rfl 0 rfl 20 rfl ?_
          refine vv_get C (q0 := 0) (ci := 0) (k := 4) kinX0_takeInWater_X0 rfl rfl (by decide) kwX0_takeInWater_3 rfl rfl dX0_takeInWater_20 23 rfl ?_
          refine vv_iload_n C dX0_takeInWater_23 rfl 1 rfl 24 rfl ?_
          refine vv_bipush C (v := 100) dX0_takeInWater_24 (by decide) 26 rfl ?_
          refine vv_aload_n C dX0_takeInWater_26 rfl 0 rfl 27 rfl ?_
          refine vv_get C (q0 := 0) (ci := 0) (k := 4) kinX0_takeInWater_X0 rfl rfl (by decide) kwX0_takeInWater_3 rfl rfl dX0_takeInWater_27 30 rfl ?_
          refine vv_iload_n C dX0_takeInWater_30 rfl 1 rfl 31 rfl ?_
          obtain ⟨hi, h⟩ := chk_s h
          refine vv_iald C (q0 := 2) rfl hi dX0_takeInWater_31 32 rfl ?_
          refine vv_aload_n C dX0_takeInWater_32 rfl 0 rfl 33 rfl ?_
          refine vv_get C (q0 := 0) (ci := 0) (k := 3) kinX0_takeInWater_X0 rfl rfl (by decide) kwX0_takeInWater_4 rfl rfl dX0_takeInWater_33 36 rfl ?_
          refine vv_iload_n C dX0_takeInWater_36 rfl 1 rfl 37 rfl ?_
          obtain ⟨hi, h⟩ := chk_s h
          refine vv_iald C (q0 := 1) rfl hi dX0_takeInWater_37 38 rfl ?_
          refine vv_iadd C dX0_takeInWater_38 39 rfl ?_
          refine vv_mmin C kwX0_takeInWater_5 kwX0_takeInWater_6 kwX0_takeInWater_7 kwX0_takeInWater_8 ⟨Nat.le_of_ble_eq_true rfl, Nat.le_of_ble_eq_true rfl⟩ ⟨Nat.le_of_ble_eq_true rfl, Nat.le_of_ble_eq_true rfl⟩ dX0_takeInWater_39 42 rfl ?_
          obtain ⟨hi, h⟩ := chk_s h
          refine vv_iast C (q0 := 2) (wX0_takeInWater c B B_number B_leak (wr B_water_2 v1_2 (mmin 100 ((rd B_water_2 v1_2) + (rd B_leak v1_2)))) B_state) rfl hi rfl dX0_takeInWater_42 43 rfl ?_
          refine vv_iinc C (k := 1) [(1, .int (v1_2 + 1)), (0, .ref (B 0))] dX0_takeInWater_43 rfl rfl (by decide) rfl 46 rfl ?_
          refine vv_goto C 2 dX0_takeInWater_46 (by decide) ?_
          refine vv_lv [1, 0] [(0, .ref (B 0)), (1, .int (v1_2 + 1))] rfl ?_
          exact ih2 (wr B_water_2 v1_2 (mmin 100 ((rd B_water_2 v1_2) + (rd B_leak v1_2)))) (v1_2 + 1) _ h kk2
  obtain ⟨r1, hr1, h⟩ := bnd_s h
  refine L2 FU B_water 0 r1 hr1 ?_
  obtain rfl := Option.some.inj h
  exact ret _ _ dX0_takeInWater_49
