abbrev wX6_addBarrel (c : Nat → ClassId) (X : Nat → Nat) (W : Nat → Nat) (R : Nat → Nat) (B : Nat → Nat) (K : Nat → Nat) (Q : Nat → Nat) (T : Nat → Nat) (Y : Nat → Nat) (X_ropes : Int32) (R_hour : Int32) (R_broken : Int32) (B_number : Int32) (B_column : Nat → Int32) (B_row : Nat → Int32) (B_lift : Nat → Int32) (B_leak : Nat → Int32) (B_state : Nat → Int32) (B_x : Nat → Int32) (B_y : Nat → Int32) (B_piece : Nat → Int32) : va_W := [(X 0, .inr (6, [.ref (W 0), .ref (R 0), .ref (T 0), .ref (Y 0), .int X_ropes])), (R 0, .inr (3, [.ref (B 0), .ref (K 0), .ref (Q 0), .ref (R 1), .ref (R 2), .int R_hour, .int R_broken])), (B 0, .inr (0, [.ref (B 1), .ref (B 2), .ref (B 3), .ref (B 4), .ref (B 5), .ref (B 6), .ref (B 7), .ref (B 8), .ref (B 9), .ref (B 10), .ref (B 11), .int B_number])), aI c (B 1) 24 B_column, aI c (B 2) 24 B_row, aI c (B 3) 24 B_lift, aI c (B 4) 24 B_leak, aI c (B 8) 24 B_state, aI c (B 9) 24 B_x, aI c (B 10) 24 B_y, aI c (B 11) 24 B_piece]
abbrev rmX6_addBarrel : Room := { frames := 6, cells := 1, slots := 6, locals := 90 }
theorem yd_X6_addBarrel : yX6_addBarrel.cls = RX6 ∧ yX6_addBarrel.cls ≠ "java/lang/invoke/MethodHandle" ∧ yX6_addBarrel.cls ≠ "java/lang/invoke/VarHandle" ∧ (parseMethodDescriptor yX6_addBarrel.desc).map (fun d => d.parameters.length) = some 4 := by decide +kernel
theorem kwX6_addBarrel_1 : Cond.classLink RX6 41 "java/lang/IllegalArgumentException" ∈ wsX6_addBarrel := List.mem_of_getElem? (i := 1) rfl
theorem kwX6_addBarrel_2 : Cond.initialized "java/lang/IllegalArgumentException" ∈ wsX6_addBarrel := List.mem_of_getElem? (i := 2) rfl
theorem kwX6_addBarrel_5 : Cond.fieldLink RX6 19 "BarrelRaft" "raft" "LBarrelRaft$Raft;" ∈ wsX6_addBarrel := List.mem_of_getElem? (i := 5) rfl
set_option maxRecDepth 20000 in
theorem kinX6_addBarrel_X6 : ∀ w ∈ u_ws RX6 TX6 5, w ∈ wsX6_addBarrel := by decide +kernel
theorem kwX6_addBarrel_6 : Cond.fieldLink RX6 94 "BarrelRaft$Raft" "barrels" "LBarrelRaft$Barrels;" ∈ wsX6_addBarrel := List.mem_of_getElem? (i := 6) rfl
set_option maxRecDepth 20000 in
theorem kinX6_addBarrel_X3 : ∀ w ∈ u_ws RX3 TX3 7, w ∈ wsX6_addBarrel := by decide +kernel
theorem kwX6_addBarrel_3 : Cond.classLink RX6 59 "java/lang/IllegalStateException" ∈ wsX6_addBarrel := List.mem_of_getElem? (i := 3) rfl
theorem kwX6_addBarrel_4 : Cond.initialized "java/lang/IllegalStateException" ∈ wsX6_addBarrel := List.mem_of_getElem? (i := 4) rfl
theorem kwX6_addBarrel_7 : Cond.fieldLink RX6 118 "BarrelRaft$Barrels" "number" "I" ∈ wsX6_addBarrel := List.mem_of_getElem? (i := 7) rfl
set_option maxRecDepth 20000 in
theorem kinX6_addBarrel_X0 : ∀ w ∈ u_ws RX0 TX0 12, w ∈ wsX6_addBarrel := by decide +kernel
def jX6_addBarrel (B_number : Int32) (B_column : Nat → Int32) (B_row : Nat → Int32) (B_lift : Nat → Int32) (B_leak : Nat → Int32) (B_state : Nat → Int32) (B_x : Nat → Int32) (B_y : Nat → Int32) (B_piece : Nat → Int32) (a1 : Int32) (a2 : Int32) (a3 : Int32) (a4 : Int32) : Option (Nat ⊕ (Int32 × Int32 × (Nat → Int32) × (Nat → Int32) × (Nat → Int32) × (Nat → Int32) × (Nat → Int32) × (Nat → Int32) × (Nat → Int32))) :=
  bnd (jX6_isBelow a1 8) (fun r1 => (if r1 = 0 then some (Sum.inl 1) else bnd (jX6_isBelow a2 8) (fun r2 => (if r2 = 0 then some (Sum.inl 1) else (if a3 < 1 then some (Sum.inl 1) else (if 40 < a3 then some (Sum.inl 1) else (if a4 < 0 then some (Sum.inl 1) else (if a4 ≤ 9 then bnd (jX0_liesAt B_number B_column B_row a1 a2) (fun r3 => (if r3 = 0 then (if B_number < 24 then bnd (jX0_append B_number B_column B_row B_lift B_leak B_state B_x B_y B_piece a1 a2 a3 a4) (fun r4 => some (Sum.inr (r4.1, r4.2.1, r4.2.2.1, r4.2.2.2.1, r4.2.2.2.2.1, r4.2.2.2.2.2.1, r4.2.2.2.2.2.2.1, r4.2.2.2.2.2.2.2.1, r4.2.2.2.2.2.2.2.2))) else some (Sum.inl 2)) else some (Sum.inl 2))) else some (Sum.inl 1)))))))))
theorem thX6_addBarrel_1 : ThOK wsX6_addBarrel rmX6_addBarrel 1 41 45 := ⟨kwX6_addBarrel_1, kwX6_addBarrel_2, fun w hw => List.mem_cons_of_mem _ (List.mem_append_left _ (List.mem_append_right _ hw)), th1_n, th1_o, by decide, by decide, by decide, by decide, by decide⟩
theorem thX6_addBarrel_2 : ThOK wsX6_addBarrel rmX6_addBarrel 2 59 63 := ⟨kwX6_addBarrel_3, kwX6_addBarrel_4, fun w hw => List.mem_cons_of_mem _ (List.mem_append_right _ hw), th2_n, th2_o, by decide, by decide, by decide, by decide, by decide⟩
set_option maxHeartbeats 4000000 in
set_option maxRecDepth 100000 in
theorem mt_X6_addBarrel (l : Launch) (hfl : l.stackTraces = false) (D : va_G) (c : Nat → ClassId) (X : Nat → Nat) (W : Nat → Nat) (R : Nat → Nat) (B : Nat → Nat) (K : Nat → Nat) (Q : Nat → Nat) (T : Nat → Nat) (Y : Nat → Nat) (X_ropes : Int32) (R_hour : Int32) (R_broken : Int32) (B_number : Int32) (B_column : Nat → Int32) (B_row : Nat → Int32) (B_lift : Nat → Int32) (B_leak : Nat → Int32) (B_state : Nat → Int32) (B_x : Nat → Int32) (B_y : Nat → Int32) (B_piece : Nat → Int32) (a1 : Int32) (a2 : Int32) (a3 : Int32) (a4 : Int32) (q0 : Nat ⊕ (Int32 × Int32 × (Nat → Int32) × (Nat → Int32) × (Nat → Int32) × (Nat → Int32) × (Nat → Int32) × (Nat → Int32) × (Nat → Int32))) (h : jX6_addBarrel B_number B_column B_row B_lift B_leak B_state B_x B_y B_piece a1 a2 a3 a4 = some q0) : DXi l yX6_addBarrel wsX6_addBarrel rmX6_addBarrel D c (wX6_addBarrel c X W R B K Q T Y X_ropes R_hour R_broken B_number B_column B_row B_lift B_leak B_state B_x B_y B_piece) [.ref (X 0), .int a1, .int a2, .int a3, .int a4] q0 (fun (q0 : Int32 × Int32 × (Nat → Int32) × (Nat → Int32) × (Nat → Int32) × (Nat → Int32) × (Nat → Int32) × (Nat → Int32) × (Nat → Int32)) => q0.1) (fun q0 => (wX6_addBarrel c X W R B K Q T Y X_ropes R_hour R_broken q0.2.1 q0.2.2.1 q0.2.2.2.1 q0.2.2.2.2.1 q0.2.2.2.2.2.1 B_state q0.2.2.2.2.2.2.1 q0.2.2.2.2.2.2.2.1 q0.2.2.2.2.2.2.2.2)) 1 6 := by
  refine DXi_of (cc := cX6_addBarrel) (nL := 5) rfl (by decide) rfl (Nat.le_of_ble_eq_true rfl) hfl ⟨by decide, by decide⟩ (fun g C ret thr => ?_)
  unfold jX6_addBarrel at h
  refine vv_lv [0, 1, 2, 3, 4] [(0, .ref (X 0)), (1, .int a1), (2, .int a2), (3, .int a3), (4, .int a4)] rfl ?_
  refine vv_iload_n C dX6_addBarrel_0 rfl 1 rfl 1 rfl ?_
  refine vv_bipush C (v := 8) dX6_addBarrel_1 (by decide) 3 rfl ?_
  obtain ⟨r1, hr1, h⟩ := bnd_s h
  refine vv_callSi C (fun l => mt_X6_isBelow l D c a1 8 r1 hr1) gX6_addBarrel_X6_isBelow rfl rfl rfl yd_X6_isBelow ⟨Nat.le_of_ble_eq_true rfl, Nat.le_of_ble_eq_true rfl⟩ [] rfl (by decide) (wX6_addBarrel c X W R B K Q T Y X_ropes R_hour R_broken B_number B_column B_row B_lift B_leak B_state B_x B_y B_piece) [(false, 0), (false, 1), (false, 2), (false, 3), (false, 4), (false, 5), (false, 6), (false, 7), (false, 8), (false, 9), (false, 10)] rfl (by decide) rfl rfl [] rfl (Nat.le_of_ble_eq_true rfl) ⟨Nat.le_of_ble_eq_true rfl, Nat.le_of_ble_eq_true rfl⟩ dX6_addBarrel_3 6 0 0 rfl ⟨rfl, rfl⟩ ?_
  refine vv_if_eq C 18 9 dX6_addBarrel_6 (by decide) rfl (fun hc => ?_) (fun hc => ?_)
  · replace h := ite_t hc h
    exact thr 1 (Option.some.inj h).symm 41 111 45 "not on the board" _ _ thX6_addBarrel_1 (by decide) dX6_addBarrel_18 dX6_addBarrel_21 dX6_addBarrel_22 dX6_addBarrel_24 dX6_addBarrel_27
  · replace h := ite_f hc h
    refine vv_iload_n C dX6_addBarrel_9 rfl 2 rfl 10 rfl ?_
    refine vv_bipush C (v := 8) dX6_addBarrel_10 (by decide) 12 rfl ?_
    obtain ⟨r2, hr2, h⟩ := bnd_s h
    refine vv_callSi C (fun l => mt_X6_isBelow l D c a2 8 r2 hr2) gX6_addBarrel_X6_isBelow rfl rfl rfl yd_X6_isBelow ⟨Nat.le_of_ble_eq_true rfl, Nat.le_of_ble_eq_true rfl⟩ [] rfl (by decide) (wX6_addBarrel c X W R B K Q T Y X_ropes R_hour R_broken B_number B_column B_row B_lift B_leak B_state B_x B_y B_piece) [(false, 0), (false, 1), (false, 2), (false, 3), (false, 4), (false, 5), (false, 6), (false, 7), (false, 8), (false, 9), (false, 10)] rfl (by decide) rfl rfl [] rfl (Nat.le_of_ble_eq_true rfl) ⟨Nat.le_of_ble_eq_true rfl, Nat.le_of_ble_eq_true rfl⟩ dX6_addBarrel_12 15 0 0 rfl ⟨rfl, rfl⟩ ?_
    refine vv_if_ne C 28 18 dX6_addBarrel_15 (by decide) rfl (fun hc => ?_) (fun hc => ?_)
    · replace h := ite_f hc h
      refine vv_iload_n C dX6_addBarrel_28 rfl 3 rfl 29 rfl ?_
      refine vv_iconst C (v := 1) dX6_addBarrel_29 (by decide) 30 rfl ?_
      refine vv_icmp_lt C 51 33 dX6_addBarrel_30 (by decide) rfl (fun hc => ?_) (fun hc => ?_)
      · replace h := ite_t hc h
        exact thr 1 (Option.some.inj h).symm 41 113 45 "no such lift or leak" _ _ thX6_addBarrel_1 (by decide) dX6_addBarrel_51 dX6_addBarrel_54 dX6_addBarrel_55 dX6_addBarrel_57 dX6_addBarrel_60
      · replace h := ite_f hc h
        refine vv_iload_n C dX6_addBarrel_33 rfl 3 rfl 34 rfl ?_
        refine vv_bipush C (v := 40) dX6_addBarrel_34 (by decide) 36 rfl ?_
        refine vv_icmp_gt C 51 39 dX6_addBarrel_36 (by decide) rfl (fun hc => ?_) (fun hc => ?_)
        · replace h := ite_t hc h
          exact thr 1 (Option.some.inj h).symm 41 113 45 "no such lift or leak" _ _ thX6_addBarrel_1 (by decide) dX6_addBarrel_51 dX6_addBarrel_54 dX6_addBarrel_55 dX6_addBarrel_57 dX6_addBarrel_60
        · replace h := ite_f hc h
          refine vv_iload C dX6_addBarrel_39 4 rfl 41 rfl ?_
          refine vv_if_lt C 51 44 dX6_addBarrel_41 (by decide) rfl (fun hc => ?_) (fun hc => ?_)
          · replace h := ite_t hc h
            exact thr 1 (Option.some.inj h).symm 41 113 45 "no such lift or leak" _ _ thX6_addBarrel_1 (by decide) dX6_addBarrel_51 dX6_addBarrel_54 dX6_addBarrel_55 dX6_addBarrel_57 dX6_addBarrel_60
          · replace h := ite_f hc h
            refine vv_iload C dX6_addBarrel_44 4 rfl 46 rfl ?_
            refine vv_bipush C (v := 9) dX6_addBarrel_46 (by decide) 48 rfl ?_
            refine vv_icmp_le C 61 51 dX6_addBarrel_48 (by decide) rfl (fun hc => ?_) (fun hc => ?_)
            · replace h := ite_t hc h
              refine vv_aload_n C dX6_addBarrel_61 rfl 0 rfl 62 rfl ?_
              refine vv_get C (q0 := 0) (ci := 6) (k := 1) kinX6_addBarrel_X6 rfl rfl (by decide) kwX6_addBarrel_5 rfl rfl dX6_addBarrel_62 65 rfl ?_
              refine vv_get C (q0 := 1) (ci := 3) (k := 0) kinX6_addBarrel_X3 rfl rfl (by decide) kwX6_addBarrel_6 rfl rfl dX6_addBarrel_65 68 rfl ?_
              refine vv_iload_n C dX6_addBarrel_68 rfl 1 rfl 69 rfl ?_
              refine vv_iload_n C dX6_addBarrel_69 rfl 2 rfl 70 rfl ?_
              obtain ⟨r3, hr3, h⟩ := bnd_s h
              refine vv_callVi C (fun l => mt_X0_liesAt l D c B B_number B_column B_row a1 a2 r3 hr3) gX6_addBarrel_X0_liesAt rfl rfl rfl yd_X0_liesAt ⟨Nat.le_of_ble_eq_true rfl, Nat.le_of_ble_eq_true rfl⟩ [2, 3, 4] rfl (by decide) 0 rfl rfl (wX6_addBarrel c X W R B K Q T Y X_ropes R_hour R_broken B_number B_column B_row B_lift B_leak B_state B_x B_y B_piece) [(false, 0), (false, 1), (true, 0), (true, 1), (true, 2), (false, 5), (false, 6), (false, 7), (false, 8), (false, 9), (false, 10)] rfl (by decide) rfl rfl [] rfl (Nat.le_of_ble_eq_true rfl) ⟨Nat.le_of_ble_eq_true rfl, Nat.le_of_ble_eq_true rfl⟩ dX6_addBarrel_70 73 0 0 rfl ⟨rfl, rfl⟩ ?_
              refine vv_if_ne C 91 76 dX6_addBarrel_73 (by decide) rfl (fun hc => ?_) (fun hc => ?_)
              · replace h := ite_f hc h
                exact thr 2 (Option.some.inj h).symm 59 119 63 "no room for a barrel" _ _ thX6_addBarrel_2 (by decide) dX6_addBarrel_91 dX6_addBarrel_94 dX6_addBarrel_95 dX6_addBarrel_97 dX6_addBarrel_100
              · replace h := ite_t hc h
                refine vv_aload_n C dX6_addBarrel_76 rfl 0 rfl 77 rfl ?_
                refine vv_get C (q0 := 0) (ci := 6) (k := 1) kinX6_addBarrel_X6 rfl rfl (by decide) kwX6_addBarrel_5 rfl rfl dX6_addBarrel_77 80 rfl ?_
                refine vv_get C (q0 := 1) (ci := 3) (k := 0) kinX6_addBarrel_X3 rfl rfl (by decide) kwX6_addBarrel_6 rfl rfl dX6_addBarrel_80 83 rfl ?_
                refine vv_get C (q0 := 2) (ci := 0) (k := 11) kinX6_addBarrel_X0 rfl rfl (by decide) kwX6_addBarrel_7 rfl rfl dX6_addBarrel_83 86 rfl ?_
                refine vv_bipush C (v := 24) dX6_addBarrel_86 (by decide) 88 rfl ?_
                refine vv_icmp_lt C 101 91 dX6_addBarrel_88 (by decide) rfl (fun hc => ?_) (fun hc => ?_)
                · replace h := ite_t hc h
                  refine vv_aload_n C dX6_addBarrel_101 rfl 0 rfl 102 rfl ?_
                  refine vv_get C (q0 := 0) (ci := 6) (k := 1) kinX6_addBarrel_X6 rfl rfl (by decide) kwX6_addBarrel_5 rfl rfl dX6_addBarrel_102 105 rfl ?_
                  refine vv_get C (q0 := 1) (ci := 3) (k := 0) kinX6_addBarrel_X3 rfl rfl (by decide) kwX6_addBarrel_6 rfl rfl dX6_addBarrel_105 108 rfl ?_
                  refine vv_iload_n C dX6_addBarrel_108 rfl 1 rfl 109 rfl ?_
                  refine vv_iload_n C dX6_addBarrel_109 rfl 2 rfl 110 rfl ?_
                  refine vv_iload_n C dX6_addBarrel_110 rfl 3 rfl 111 rfl ?_
                  refine vv_iload C dX6_addBarrel_111 4 rfl 113 rfl ?_
                  obtain ⟨r4, hr4, h⟩ := bnd_s h
                  refine vv_callVi C (fun l => mt_X0_append l D c B B_number B_column B_row B_lift B_leak B_state B_x B_y B_piece a1 a2 a3 a4 r4 hr4) gX6_addBarrel_X0_append rfl rfl rfl yd_X0_append ⟨Nat.le_of_ble_eq_true rfl, Nat.le_of_ble_eq_true rfl⟩ [2, 3, 4, 5, 6, 7, 8, 9, 10] rfl (by decide) 0 rfl rfl (wX6_addBarrel c X W R B K Q T Y X_ropes R_hour R_broken r4.2.1 r4.2.2.1 r4.2.2.2.1 r4.2.2.2.2.1 r4.2.2.2.2.2.1 B_state r4.2.2.2.2.2.2.1 r4.2.2.2.2.2.2.2.1 r4.2.2.2.2.2.2.2.2) [(false, 0), (false, 1), (true, 0), (true, 1), (true, 2), (true, 3), (true, 4), (true, 5), (true, 6), (true, 7), (true, 8)] rfl (by decide) rfl rfl [] rfl (Nat.le_of_ble_eq_true rfl) ⟨Nat.le_of_ble_eq_true rfl, Nat.le_of_ble_eq_true rfl⟩ dX6_addBarrel_113 116 0 0 rfl ⟨rfl, rfl⟩ ?_
                  refine vv_widen (k := 1) (n := 6) (by decide) (by decide) ?_
                  exact ret _ (Option.some.inj h).symm _ _ dX6_addBarrel_116
                · replace h := ite_f hc h
                  exact thr 2 (Option.some.inj h).symm 59 119 63 "no room for a barrel" _ _ thX6_addBarrel_2 (by decide) dX6_addBarrel_91 dX6_addBarrel_94 dX6_addBarrel_95 dX6_addBarrel_97 dX6_addBarrel_100
            · replace h := ite_f hc h
              exact thr 1 (Option.some.inj h).symm 41 113 45 "no such lift or leak" _ _ thX6_addBarrel_1 (by decide) dX6_addBarrel_51 dX6_addBarrel_54 dX6_addBarrel_55 dX6_addBarrel_57 dX6_addBarrel_60
    · replace h := ite_t hc h
      exact thr 1 (Option.some.inj h).symm 41 111 45 "not on the board" _ _ thX6_addBarrel_1 (by decide) dX6_addBarrel_18 dX6_addBarrel_21 dX6_addBarrel_22 dX6_addBarrel_24 dX6_addBarrel_27
abbrev wX6_addCastaway (c : Nat → ClassId) (X : Nat → Nat) (W : Nat → Nat) (R : Nat → Nat) (B : Nat → Nat) (K : Nat → Nat) (Q : Nat → Nat) (T : Nat → Nat) (Y : Nat → Nat) (X_ropes : Int32) (R_hour : Int32) (R_broken : Int32) (B_number : Int32) (B_people : Nat → Int32) (B_state : Nat → Int32) (K_number : Int32) (K_seat : Nat → Int32) (K_state : Nat → Int32) : va_W := [(X 0, .inr (6, [.ref (W 0), .ref (R 0), .ref (T 0), .ref (Y 0), .int X_ropes])), (R 0, .inr (3, [.ref (B 0), .ref (K 0), .ref (Q 0), .ref (R 1), .ref (R 2), .int R_hour, .int R_broken])), (B 0, .inr (0, [.ref (B 1), .ref (B 2), .ref (B 3), .ref (B 4), .ref (B 5), .ref (B 6), .ref (B 7), .ref (B 8), .ref (B 9), .ref (B 10), .ref (B 11), .int B_number])), aI c (B 7) 24 B_people, aI c (B 8) 24 B_state, (K 0, .inr (1, [.ref (K 1), .ref (K 2), .int K_number])), aI c (K 1) 8 K_seat, aI c (K 2) 8 K_state]
abbrev rmX6_addCastaway : Room := { frames := 6, cells := 1, slots := 6, locals := 90 }
theorem yd_X6_addCastaway : yX6_addCastaway.cls = RX6 ∧ yX6_addCastaway.cls ≠ "java/lang/invoke/MethodHandle" ∧ yX6_addCastaway.cls ≠ "java/lang/invoke/VarHandle" ∧ (parseMethodDescriptor yX6_addCastaway.desc).map (fun d => d.parameters.length) = some 1 := by decide +kernel
theorem kwX6_addCastaway_5 : Cond.fieldLink RX6 19 "BarrelRaft" "raft" "LBarrelRaft$Raft;" ∈ wsX6_addCastaway := List.mem_of_getElem? (i := 5) rfl
set_option maxRecDepth 20000 in
theorem kinX6_addCastaway_X6 : ∀ w ∈ u_ws RX6 TX6 5, w ∈ wsX6_addCastaway := by decide +kernel
theorem kwX6_addCastaway_6 : Cond.fieldLink RX6 94 "BarrelRaft$Raft" "barrels" "LBarrelRaft$Barrels;" ∈ wsX6_addCastaway := List.mem_of_getElem? (i := 6) rfl
set_option maxRecDepth 20000 in
theorem kinX6_addCastaway_X3 : ∀ w ∈ u_ws RX3 TX3 7, w ∈ wsX6_addCastaway := by decide +kernel
theorem kwX6_addCastaway_3 : Cond.classLink RX6 59 "java/lang/IllegalStateException" ∈ wsX6_addCastaway := List.mem_of_getElem? (i := 3) rfl
theorem kwX6_addCastaway_4 : Cond.initialized "java/lang/IllegalStateException" ∈ wsX6_addCastaway := List.mem_of_getElem? (i := 4) rfl
theorem kwX6_addCastaway_7 : Cond.fieldLink RX6 195 "BarrelRaft$Raft" "castaways" "LBarrelRaft$Castaways;" ∈ wsX6_addCastaway := List.mem_of_getElem? (i := 7) rfl
theorem kwX6_addCastaway_8 : Cond.fieldLink RX6 199 "BarrelRaft$Castaways" "number" "I" ∈ wsX6_addCastaway := List.mem_of_getElem? (i := 8) rfl
set_option maxRecDepth 20000 in
theorem kinX6_addCastaway_X1 : ∀ w ∈ u_ws RX1 TX1 3, w ∈ wsX6_addCastaway := by decide +kernel
theorem kwX6_addCastaway_9 : Cond.fieldLink RX6 204 "BarrelRaft$Barrels" "people" "[I" ∈ wsX6_addCastaway := List.mem_of_getElem? (i := 9) rfl
set_option maxRecDepth 20000 in
theorem kinX6_addCastaway_X0 : ∀ w ∈ u_ws RX0 TX0 12, w ∈ wsX6_addCastaway := by decide +kernel
theorem kwX6_addCastaway_1 : Cond.classLink RX6 75 "java/lang/IndexOutOfBoundsException" ∈ wsX6_addCastaway := List.mem_of_getElem? (i := 1) rfl
theorem kwX6_addCastaway_2 : Cond.initialized "java/lang/IndexOutOfBoundsException" ∈ wsX6_addCastaway := List.mem_of_getElem? (i := 2) rfl
def jX6_addCastaway (B_number : Int32) (B_people : Nat → Int32) (B_state : Nat → Int32) (K_number : Int32) (K_seat : Nat → Int32) (K_state : Nat → Int32) (a1 : Int32) : Option (Nat ⊕ (Int32 × (Nat → Int32) × Int32 × (Nat → Int32) × (Nat → Int32))) :=
  bnd (jX0_has B_number a1) (fun r1 => (if r1 = 0 then some (Sum.inl 3) else bnd (jX0_floats B_number B_state a1) (fun r2 => (if r2 = 0 then some (Sum.inl 2) else (if K_number < 8 then chk 24 a1 (chk 24 a1 (bnd (jX1_append K_number K_seat K_state a1) (fun r3 => some (Sum.inr (r3.1, wr B_people a1 ((rd B_people a1) + 1), r3.2.1, r3.2.2.1, r3.2.2.2))))) else some (Sum.inl 2))))))
theorem thX6_addCastaway_2 : ThOK wsX6_addCastaway rmX6_addCastaway 2 59 63 := ⟨kwX6_addCastaway_3, kwX6_addCastaway_4, fun w hw => List.mem_cons_of_mem _ (List.mem_append_right _ hw), th2_n, th2_o, by decide, by decide, by decide, by decide, by decide⟩
theorem thX6_addCastaway_3 : ThOK wsX6_addCastaway rmX6_addCastaway 3 75 79 := ⟨kwX6_addCastaway_1, kwX6_addCastaway_2, fun w hw => List.mem_cons_of_mem _ (List.mem_append_left _ (List.mem_append_right _ hw)), th3_n, th3_o, by decide, by decide, by decide, by decide, by decide⟩
set_option maxHeartbeats 4000000 in
set_option maxRecDepth 100000 in
theorem mt_X6_addCastaway (l : Launch) (hfl : l.stackTraces = false) (D : va_G) (c : Nat → ClassId) (X : Nat → Nat) (W : Nat → Nat) (R : Nat → Nat) (B : Nat → Nat) (K : Nat → Nat) (Q : Nat → Nat) (T : Nat → Nat) (Y : Nat → Nat) (X_ropes : Int32) (R_hour : Int32) (R_broken : Int32) (B_number : Int32) (B_people : Nat → Int32) (B_state : Nat → Int32) (K_number : Int32) (K_seat : Nat → Int32) (K_state : Nat → Int32) (a1 : Int32) (q0 : Nat ⊕ (Int32 × (Nat → Int32) × Int32 × (Nat → Int32) × (Nat → Int32))) (h : jX6_addCastaway B_number B_people B_state K_number K_seat K_state a1 = some q0) : DXi l yX6_addCastaway wsX6_addCastaway rmX6_addCastaway D c (wX6_addCastaway c X W R B K Q T Y X_ropes R_hour R_broken B_number B_people B_state K_number K_seat K_state) [.ref (X 0), .int a1] q0 (fun (q0 : Int32 × (Nat → Int32) × Int32 × (Nat → Int32) × (Nat → Int32)) => q0.1) (fun q0 => (wX6_addCastaway c X W R B K Q T Y X_ropes R_hour R_broken B_number q0.2.1 B_state q0.2.2.1 q0.2.2.2.1 q0.2.2.2.2)) 1 6 := by
  refine DXi_of (cc := cX6_addCastaway) (nL := 2) rfl (by decide) rfl (Nat.le_of_ble_eq_true rfl) hfl ⟨by decide, by decide⟩ (fun g C ret thr => ?_)
  unfold jX6_addCastaway at h
  refine vv_lv [0, 1] [(0, .ref (X 0)), (1, .int a1)] rfl ?_
  refine vv_aload_n C dX6_addCastaway_0 rfl 0 rfl 1 rfl ?_
  refine vv_get C (q0 := 0) (ci := 6) (k := 1) kinX6_addCastaway_X6 rfl rfl (by decide) kwX6_addCastaway_5 rfl rfl dX6_addCastaway_1 4 rfl ?_
  refine vv_get C (q0 := 1) (ci := 3) (k := 0) kinX6_addCastaway_X3 rfl rfl (by decide) kwX6_addCastaway_6 rfl rfl dX6_addCastaway_4 7 rfl ?_
  refine vv_iload_n C dX6_addCastaway_7 rfl 1 rfl 8 rfl ?_
  obtain ⟨r1, hr1, h⟩ := bnd_s h
  refine vv_callVi C (fun l => mt_X0_has l D c B B_number a1 r1 hr1) gX6_addCastaway_X0_has rfl rfl rfl yd_X0_has ⟨Nat.le_of_ble_eq_true rfl, Nat.le_of_ble_eq_true rfl⟩ [2] rfl (by decide) 0 rfl rfl (wX6_addCastaway c X W R B K Q T Y X_ropes R_hour R_broken B_number B_people B_state K_number K_seat K_state) [(false, 0), (false, 1), (true, 0), (false, 3), (false, 4), (false, 5), (false, 6), (false, 7)] rfl (by decide) rfl rfl [] rfl (Nat.le_of_ble_eq_true rfl) ⟨Nat.le_of_ble_eq_true rfl, Nat.le_of_ble_eq_true rfl⟩ dX6_addCastaway_8 11 0 0 rfl ⟨rfl, rfl⟩ ?_
  refine vv_if_ne C 24 14 dX6_addCastaway_11 (by decide) rfl (fun hc => ?_) (fun hc => ?_)
  · replace h := ite_f hc h
    refine vv_aload_n C dX6_addCastaway_24 rfl 0 rfl 25 rfl ?_
    refine vv_get C (q0 := 0) (ci := 6) (k := 1) kinX6_addCastaway_X6 rfl rfl (by decide) kwX6_addCastaway_5 rfl rfl dX6_addCastaway_25 28 rfl ?_
    refine vv_get C (q0 := 1) (ci := 3) (k := 0) kinX6_addCastaway_X3 rfl rfl (by decide) kwX6_addCastaway_6 rfl rfl dX6_addCastaway_28 31 rfl ?_
    refine vv_iload_n C dX6_addCastaway_31 rfl 1 rfl 32 rfl ?_
    obtain ⟨r2, hr2, h⟩ := bnd_s h
    refine vv_callVi C (fun l => mt_X0_floats l D c B B_number B_state a1 r2 hr2) gX6_addCastaway_X0_floats rfl rfl rfl yd_X0_floats ⟨Nat.le_of_ble_eq_true rfl, Nat.le_of_ble_eq_true rfl⟩ [2, 4] rfl (by decide) 0 rfl rfl (wX6_addCastaway c X W R B K Q T Y X_ropes R_hour R_broken B_number B_people B_state K_number K_seat K_state) [(false, 0), (false, 1), (true, 0), (false, 3), (true, 1), (false, 5), (false, 6), (false, 7)] rfl (by decide) rfl rfl [] rfl (Nat.le_of_ble_eq_true rfl) ⟨Nat.le_of_ble_eq_true rfl, Nat.le_of_ble_eq_true rfl⟩ dX6_addCastaway_32 35 0 0 rfl ⟨rfl, rfl⟩ ?_
    refine vv_if_eq C 53 38 dX6_addCastaway_35 (by decide) rfl (fun hc => ?_) (fun hc => ?_)
    · replace h := ite_t hc h
      exact thr 2 (Option.some.inj h).symm 59 202 63 "no castaway can come there" _ _ thX6_addCastaway_2 (by decide) dX6_addCastaway_53 dX6_addCastaway_56 dX6_addCastaway_57 dX6_addCastaway_59 dX6_addCastaway_62
    · replace h := ite_f hc h
      refine vv_aload_n C dX6_addCastaway_38 rfl 0 rfl 39 rfl ?_
      refine vv_get C (q0 := 0) (ci := 6) (k := 1) kinX6_addCastaway_X6 rfl rfl (by decide) kwX6_addCastaway_5 rfl rfl dX6_addCastaway_39 42 rfl ?_
      refine vv_get C (q0 := 1) (ci := 3) (k := 1) kinX6_addCastaway_X3 rfl rfl (by decide) kwX6_addCastaway_7 rfl rfl dX6_addCastaway_42 45 rfl ?_
      refine vv_get C (q0 := 5) (ci := 1) (k := 2) kinX6_addCastaway_X1 rfl rfl (by decide) kwX6_addCastaway_8 rfl rfl dX6_addCastaway_45 48 rfl ?_
      refine vv_bipush C (v := 8) dX6_addCastaway_48 (by decide) 50 rfl ?_
      refine vv_icmp_lt C 63 53 dX6_addCastaway_50 (by decide) rfl (fun hc => ?_) (fun hc => ?_)
      · replace h := ite_t hc h
        refine vv_aload_n C dX6_addCastaway_63 rfl 0 rfl 64 rfl ?_
        refine vv_get C (q0 := 0) (ci := 6) (k := 1) kinX6_addCastaway_X6 rfl rfl (by decide) kwX6_addCastaway_5 rfl rfl dX6_addCastaway_64 67 rfl ?_
        refine vv_get C (q0 := 1) (ci := 3) (k := 0) kinX6_addCastaway_X3 rfl rfl (by decide) kwX6_addCastaway_6 rfl rfl dX6_addCastaway_67 70 rfl ?_
        refine vv_get C (q0 := 2) (ci := 0) (k := 6) kinX6_addCastaway_X0 rfl rfl (by decide) kwX6_addCastaway_9 rfl rfl dX6_addCastaway_70 73 rfl ?_
        refine vv_iload_n C dX6_addCastaway_73 rfl 1 rfl 74 rfl ?_
        refine vv_dup2 C dX6_addCastaway_74 rfl rfl 75 rfl ?_
        obtain ⟨hi, h⟩ := chk_s h
        refine vv_iald C (q0 := 3) rfl hi dX6_addCastaway_75 76 rfl ?_
        refine vv_iconst C (v := 1) dX6_addCastaway_76 (by decide) 77 rfl ?_
        refine vv_iadd C dX6_addCastaway_77 78 rfl ?_
        obtain ⟨hi, h⟩ := chk_s h
        refine vv_iast C (q0 := 3) (wX6_addCastaway c X W R B K Q T Y X_ropes R_hour R_broken B_number (wr B_people a1 ((rd B_people a1) + 1)) B_state K_number K_seat K_state) rfl hi rfl dX6_addCastaway_78 79 rfl ?_
        refine vv_aload_n C dX6_addCastaway_79 rfl 0 rfl 80 rfl ?_
        refine vv_get C (q0 := 0) (ci := 6) (k := 1) kinX6_addCastaway_X6 rfl rfl (by decide) kwX6_addCastaway_5 rfl rfl dX6_addCastaway_80 83 rfl ?_
        refine vv_get C (q0 := 1) (ci := 3) (k := 1) kinX6_addCastaway_X3 rfl rfl (by decide) kwX6_addCastaway_7 rfl rfl dX6_addCastaway_83 86 rfl ?_
        refine vv_iload_n C dX6_addCastaway_86 rfl 1 rfl 87 rfl ?_
        obtain ⟨r3, hr3, h⟩ := bnd_s h
        refine vv_callVi C (fun l => mt_X1_append l D c K K_number K_seat K_state a1 r3 hr3) gX6_addCastaway_X1_append rfl rfl rfl yd_X1_append ⟨Nat.le_of_ble_eq_true rfl, Nat.le_of_ble_eq_true rfl⟩ [5, 6, 7] rfl (by decide) 0 rfl rfl (wX6_addCastaway c X W R B K Q T Y X_ropes R_hour R_broken B_number (wr B_people a1 ((rd B_people a1) + 1)) B_state r3.2.1 r3.2.2.1 r3.2.2.2) [(false, 0), (false, 1), (false, 2), (false, 3), (false, 4), (true, 0), (true, 1), (true, 2)] rfl (by decide) rfl rfl [] rfl (Nat.le_of_ble_eq_true rfl) ⟨Nat.le_of_ble_eq_true rfl, Nat.le_of_ble_eq_true rfl⟩ dX6_addCastaway_87 90 0 0 rfl ⟨rfl, rfl⟩ ?_
        refine vv_widen (k := 1) (n := 6) (by decide) (by decide) ?_
        exact ret _ (Option.some.inj h).symm _ _ dX6_addCastaway_90
      · replace h := ite_f hc h
        exact thr 2 (Option.some.inj h).symm 59 202 63 "no castaway can come there" _ _ thX6_addCastaway_2 (by decide) dX6_addCastaway_53 dX6_addCastaway_56 dX6_addCastaway_57 dX6_addCastaway_59 dX6_addCastaway_62
  · replace h := ite_t hc h
    exact thr 3 (Option.some.inj h).symm 75 127 79 "no such barrel" _ _ thX6_addCastaway_3 (by decide) dX6_addCastaway_14 dX6_addCastaway_17 dX6_addCastaway_18 dX6_addCastaway_20 dX6_addCastaway_23
abbrev wX6_addWater (c : Nat → ClassId) (X : Nat → Nat) (W : Nat → Nat) (R : Nat → Nat) (T : Nat → Nat) (Y : Nat → Nat) (X_ropes : Int32) (W_number : Int32) (W_windDx : Int32) (W_windDy : Int32) (W_dx : Nat → Int32) (W_dy : Nat → Int32) (W_wave : Nat → Int32) (W_counting : Nat → Int32) : va_W := [(X 0, .inr (6, [.ref (W 0), .ref (R 0), .ref (T 0), .ref (Y 0), .int X_ropes])), (W 0, .inr (4, [.ref (W 1), .ref (W 2), .ref (W 3), .ref (W 4), .int W_number, .int W_windDx, .int W_windDy])), aI c (W 1) 8 W_dx, aI c (W 2) 8 W_dy, aI c (W 3) 8 W_wave, aI c (W 4) 600 W_counting]
abbrev rmX6_addWater : Room := { frames := 6, cells := 1, slots := 6, locals := 90 }
theorem yd_X6_addWater : yX6_addWater.cls = RX6 ∧ yX6_addWater.cls ≠ "java/lang/invoke/MethodHandle" ∧ yX6_addWater.cls ≠ "java/lang/invoke/VarHandle" ∧ (parseMethodDescriptor yX6_addWater.desc).map (fun d => d.parameters.length) = some 7 := by decide +kernel
theorem kwX6_addWater_1 : Cond.classLink RX6 41 "java/lang/IllegalArgumentException" ∈ wsX6_addWater := List.mem_of_getElem? (i := 1) rfl
theorem kwX6_addWater_2 : Cond.initialized "java/lang/IllegalArgumentException" ∈ wsX6_addWater := List.mem_of_getElem? (i := 2) rfl
theorem kwX6_addWater_5 : Cond.fieldLink RX6 12 "BarrelRaft" "waters" "LBarrelRaft$Waters;" ∈ wsX6_addWater := List.mem_of_getElem? (i := 5) rfl
set_option maxRecDepth 20000 in
theorem kinX6_addWater_X6 : ∀ w ∈ u_ws RX6 TX6 5, w ∈ wsX6_addWater := by decide +kernel
theorem kwX6_addWater_6 : Cond.fieldLink RX6 56 "BarrelRaft$Waters" "number" "I" ∈ wsX6_addWater := List.mem_of_getElem? (i := 6) rfl
set_option maxRecDepth 20000 in
theorem kinX6_addWater_X4 : ∀ w ∈ u_ws RX4 TX4 7, w ∈ wsX6_addWater := by decide +kernel
theorem kwX6_addWater_3 : Cond.classLink RX6 59 "java/lang/IllegalStateException" ∈ wsX6_addWater := List.mem_of_getElem? (i := 3) rfl
theorem kwX6_addWater_4 : Cond.initialized "java/lang/IllegalStateException" ∈ wsX6_addWater := List.mem_of_getElem? (i := 4) rfl
def jX6_addWater (W_number : Int32) (W_dx : Nat → Int32) (W_dy : Nat → Int32) (W_wave : Nat → Int32) (W_counting : Nat → Int32) (a1 : Int32) (a2 : Int32) (a3 : Int32) (a4 : Int32) (a5 : Int32) (a6 : Int32) (a7 : Int32) : Option (Nat ⊕ (Int32 × Int32 × (Nat → Int32) × (Nat → Int32) × (Nat → Int32) × (Nat → Int32))) :=
  bnd (jX6_isSea a1 a2) (fun r1 => (if r1 = 0 then some (Sum.inl 1) else (if a3 < 1 then some (Sum.inl 1) else (if 1 ≤ a4 then (if 30 - a1 < a3 then some (Sum.inl 1) else (if a4 ≤ 20 - a2 then bnd (jX6_isFlow a5) (fun r2 => (if r2 = 0 then some (Sum.inl 1) else bnd (jX6_isFlow a6) (fun r3 => (if r3 = 0 then some (Sum.inl 1) else (if a7 < 0 then some (Sum.inl 1) else (if a7 ≤ 20 then (if W_number < 8 then bnd (jX4_cover W_number W_counting a1 a2 a3 a4) (fun r4 => bnd (jX4_append W_number W_dx W_dy W_wave a5 a6 a7) (fun r5 => some (Sum.inr (r5.1, r5.2.1, r5.2.2.1, r5.2.2.2.1, r5.2.2.2.2, r4)))) else some (Sum.inl 2)) else some (Sum.inl 1))))))) else some (Sum.inl 1))) else some (Sum.inl 1)))))
theorem thX6_addWater_1 : ThOK wsX6_addWater rmX6_addWater 1 41 45 := ⟨kwX6_addWater_1, kwX6_addWater_2, fun w hw => List.mem_cons_of_mem _ (List.mem_append_left _ (List.mem_append_right _ hw)), th1_n, th1_o, by decide, by decide, by decide, by decide, by decide⟩
theorem thX6_addWater_2 : ThOK wsX6_addWater rmX6_addWater 2 59 63 := ⟨kwX6_addWater_3, kwX6_addWater_4, fun w hw => List.mem_cons_of_mem _ (List.mem_append_right _ hw), th2_n, th2_o, by decide, by decide, by decide, by decide, by decide⟩
set_option maxHeartbeats 4000000 in
set_option maxRecDepth 100000 in
theorem mt_X6_addWater (l : Launch) (hfl : l.stackTraces = false) (D : va_G) (c : Nat → ClassId) (X : Nat → Nat) (W : Nat → Nat) (R : Nat → Nat) (T : Nat → Nat) (Y : Nat → Nat) (X_ropes : Int32) (W_number : Int32) (W_windDx : Int32) (W_windDy : Int32) (W_dx : Nat → Int32) (W_dy : Nat → Int32) (W_wave : Nat → Int32) (W_counting : Nat → Int32) (a1 : Int32) (a2 : Int32) (a3 : Int32) (a4 : Int32) (a5 : Int32) (a6 : Int32) (a7 : Int32) (q0 : Nat ⊕ (Int32 × Int32 × (Nat → Int32) × (Nat → Int32) × (Nat → Int32) × (Nat → Int32))) (h : jX6_addWater W_number W_dx W_dy W_wave W_counting a1 a2 a3 a4 a5 a6 a7 = some q0) : DXi l yX6_addWater wsX6_addWater rmX6_addWater D c (wX6_addWater c X W R T Y X_ropes W_number W_windDx W_windDy W_dx W_dy W_wave W_counting) [.ref (X 0), .int a1, .int a2, .int a3, .int a4, .int a5, .int a6, .int a7] q0 (fun (q0 : Int32 × Int32 × (Nat → Int32) × (Nat → Int32) × (Nat → Int32) × (Nat → Int32)) => q0.1) (fun q0 => (wX6_addWater c X W R T Y X_ropes q0.2.1 W_windDx W_windDy q0.2.2.1 q0.2.2.2.1 q0.2.2.2.2.1 q0.2.2.2.2.2)) 1 6 := by
  refine DXi_of (cc := cX6_addWater) (nL := 8) rfl (by decide) rfl (Nat.le_of_ble_eq_true rfl) hfl ⟨by decide, by decide⟩ (fun g C ret thr => ?_)
  unfold jX6_addWater at h
  refine vv_lv [0, 1, 2, 3, 4, 5, 6, 7] [(0, .ref (X 0)), (1, .int a1), (2, .int a2), (3, .int a3), (4, .int a4), (5, .int a5), (6, .int a6), (7, .int a7)] rfl ?_
  refine vv_iload_n C dX6_addWater_0 rfl 1 rfl 1 rfl ?_
  refine vv_iload_n C dX6_addWater_1 rfl 2 rfl 2 rfl ?_
  obtain ⟨r1, hr1, h⟩ := bnd_s h
  refine vv_callSi C (fun l => mt_X6_isSea l D c a1 a2 r1 hr1) gX6_addWater_X6_isSea rfl rfl rfl yd_X6_isSea ⟨Nat.le_of_ble_eq_true rfl, Nat.le_of_ble_eq_true rfl⟩ [] rfl (by decide) (wX6_addWater c X W R T Y X_ropes W_number W_windDx W_windDy W_dx W_dy W_wave W_counting) [(false, 0), (false, 1), (false, 2), (false, 3), (false, 4), (false, 5)] rfl (by decide) rfl rfl [] rfl (Nat.le_of_ble_eq_true rfl) ⟨Nat.le_of_ble_eq_true rfl, Nat.le_of_ble_eq_true rfl⟩ dX6_addWater_2 5 0 0 rfl ⟨rfl, rfl⟩ ?_
  refine vv_if_eq C 19 8 dX6_addWater_5 (by decide) rfl (fun hc => ?_) (fun hc => ?_)
  · replace h := ite_t hc h
    exact thr 1 (Option.some.inj h).symm 41 43 45 "no such place or size" _ _ thX6_addWater_1 (by decide) dX6_addWater_19 dX6_addWater_22 dX6_addWater_23 dX6_addWater_25 dX6_addWater_28
  · replace h := ite_f hc h
    refine vv_iload_n C dX6_addWater_8 rfl 3 rfl 9 rfl ?_
    refine vv_iconst C (v := 1) dX6_addWater_9 (by decide) 10 rfl ?_
    refine vv_icmp_lt C 19 13 dX6_addWater_10 (by decide) rfl (fun hc => ?_) (fun hc => ?_)
    · replace h := ite_t hc h
      exact thr 1 (Option.some.inj h).symm 41 43 45 "no such place or size" _ _ thX6_addWater_1 (by decide) dX6_addWater_19 dX6_addWater_22 dX6_addWater_23 dX6_addWater_25 dX6_addWater_28
    · replace h := ite_f hc h
      refine vv_iload C dX6_addWater_13 4 rfl 15 rfl ?_
      refine vv_iconst C (v := 1) dX6_addWater_15 (by decide) 16 rfl ?_
      refine vv_icmp_ge C 29 19 dX6_addWater_16 (by decide) rfl (fun hc => ?_) (fun hc => ?_)
      · replace h := ite_t hc h
        refine vv_iload_n C dX6_addWater_29 rfl 3 rfl 30 rfl ?_
        refine vv_bipush C (v := 30) dX6_addWater_30 (by decide) 32 rfl ?_
        refine vv_iload_n C dX6_addWater_32 rfl 1 rfl 33 rfl ?_
        refine vv_isub C dX6_addWater_33 34 rfl ?_
        refine vv_icmp_gt C 46 37 dX6_addWater_34 (by decide) rfl (fun hc => ?_) (fun hc => ?_)
        · replace h := ite_t hc h
          exact thr 1 (Option.some.inj h).symm 41 48 45 "not all in the sea" _ _ thX6_addWater_1 (by decide) dX6_addWater_46 dX6_addWater_49 dX6_addWater_50 dX6_addWater_52 dX6_addWater_55
        · replace h := ite_f hc h
          refine vv_iload C dX6_addWater_37 4 rfl 39 rfl ?_
          refine vv_bipush C (v := 20) dX6_addWater_39 (by decide) 41 rfl ?_
          refine vv_iload_n C dX6_addWater_41 rfl 2 rfl 42 rfl ?_
          refine vv_isub C dX6_addWater_42 43 rfl ?_
          refine vv_icmp_le C 56 46 dX6_addWater_43 (by decide) rfl (fun hc => ?_) (fun hc => ?_)
          · replace h := ite_t hc h
            refine vv_iload C dX6_addWater_56 5 rfl 58 rfl ?_
            obtain ⟨r2, hr2, h⟩ := bnd_s h
            refine vv_callSi C (fun l => mt_X6_isFlow l D c a5 r2 hr2) gX6_addWater_X6_isFlow rfl rfl rfl yd_X6_isFlow ⟨Nat.le_of_ble_eq_true rfl, Nat.le_of_ble_eq_true rfl⟩ [] rfl (by decide) (wX6_addWater c X W R T Y X_ropes W_number W_windDx W_windDy W_dx W_dy W_wave W_counting) [(false, 0), (false, 1), (false, 2), (false, 3), (false, 4), (false, 5)] rfl (by decide) rfl rfl [] rfl (Nat.le_of_ble_eq_true rfl) ⟨Nat.le_of_ble_eq_true rfl, Nat.le_of_ble_eq_true rfl⟩ dX6_addWater_58 61 0 0 rfl ⟨rfl, rfl⟩ ?_
            refine vv_if_eq C 84 64 dX6_addWater_61 (by decide) rfl (fun hc => ?_) (fun hc => ?_)
            · replace h := ite_t hc h
              exact thr 1 (Option.some.inj h).symm 41 54 45 "no such current or waves" _ _ thX6_addWater_1 (by decide) dX6_addWater_84 dX6_addWater_87 dX6_addWater_88 dX6_addWater_90 dX6_addWater_93
            · replace h := ite_f hc h
              refine vv_iload C dX6_addWater_64 6 rfl 66 rfl ?_
              obtain ⟨r3, hr3, h⟩ := bnd_s h
              refine vv_callSi C (fun l => mt_X6_isFlow l D c a6 r3 hr3) gX6_addWater_X6_isFlow rfl rfl rfl yd_X6_isFlow ⟨Nat.le_of_ble_eq_true rfl, Nat.le_of_ble_eq_true rfl⟩ [] rfl (by decide) (wX6_addWater c X W R T Y X_ropes W_number W_windDx W_windDy W_dx W_dy W_wave W_counting) [(false, 0), (false, 1), (false, 2), (false, 3), (false, 4), (false, 5)] rfl (by decide) rfl rfl [] rfl (Nat.le_of_ble_eq_true rfl) ⟨Nat.le_of_ble_eq_true rfl, Nat.le_of_ble_eq_true rfl⟩ dX6_addWater_66 69 0 0 rfl ⟨rfl, rfl⟩ ?_
              refine vv_if_eq C 84 72 dX6_addWater_69 (by decide) rfl (fun hc => ?_) (fun hc => ?_)
              · replace h := ite_t hc h
                exact thr 1 (Option.some.inj h).symm 41 54 45 "no such current or waves" _ _ thX6_addWater_1 (by decide) dX6_addWater_84 dX6_addWater_87 dX6_addWater_88 dX6_addWater_90 dX6_addWater_93
              · replace h := ite_f hc h
                refine vv_iload C dX6_addWater_72 7 rfl 74 rfl ?_
                refine vv_if_lt C 84 77 dX6_addWater_74 (by decide) rfl (fun hc => ?_) (fun hc => ?_)
                · replace h := ite_t hc h
                  exact thr 1 (Option.some.inj h).symm 41 54 45 "no such current or waves" _ _ thX6_addWater_1 (by decide) dX6_addWater_84 dX6_addWater_87 dX6_addWater_88 dX6_addWater_90 dX6_addWater_93
                · replace h := ite_f hc h
                  refine vv_iload C dX6_addWater_77 7 rfl 79 rfl ?_
                  refine vv_bipush C (v := 20) dX6_addWater_79 (by decide) 81 rfl ?_
                  refine vv_icmp_le C 94 84 dX6_addWater_81 (by decide) rfl (fun hc => ?_) (fun hc => ?_)
                  · replace h := ite_t hc h
                    refine vv_aload_n C dX6_addWater_94 rfl 0 rfl 95 rfl ?_
                    refine vv_get C (q0 := 0) (ci := 6) (k := 0) kinX6_addWater_X6 rfl rfl (by decide) kwX6_addWater_5 rfl rfl dX6_addWater_95 98 rfl ?_
                    refine vv_get C (q0 := 1) (ci := 4) (k := 4) kinX6_addWater_X4 rfl rfl (by decide) kwX6_addWater_6 rfl rfl dX6_addWater_98 101 rfl ?_
                    refine vv_bipush C (v := 8) dX6_addWater_101 (by decide) 103 rfl ?_
                    refine vv_icmp_lt C 116 106 dX6_addWater_103 (by decide) rfl (fun hc => ?_) (fun hc => ?_)
                    · replace h := ite_t hc h
                      refine vv_aload_n C dX6_addWater_116 rfl 0 rfl 117 rfl ?_
                      refine vv_get C (q0 := 0) (ci := 6) (k := 0) kinX6_addWater_X6 rfl rfl (by decide) kwX6_addWater_5 rfl rfl dX6_addWater_117 120 rfl ?_
                      refine vv_iload_n C dX6_addWater_120 rfl 1 rfl 121 rfl ?_
                      refine vv_iload_n C dX6_addWater_121 rfl 2 rfl 122 rfl ?_
                      refine vv_iload_n C dX6_addWater_122 rfl 3 rfl 123 rfl ?_
                      refine vv_iload C dX6_addWater_123 4 rfl 125 rfl ?_
                      obtain ⟨r4, hr4, h⟩ := bnd_s h
                      refine vv_callVv C (fun l => mt_X4_cover l D c W W_number W_windDx W_windDy W_counting a1 a2 a3 a4 r4 hr4) gX6_addWater_X4_cover rfl rfl rfl yd_X4_cover ⟨Nat.le_of_ble_eq_true rfl, Nat.le_of_ble_eq_true rfl⟩ [1, 5] rfl (by decide) 0 rfl rfl (wX6_addWater c X W R T Y X_ropes W_number W_windDx W_windDy W_dx W_dy W_wave r4) [(false, 0), (true, 0), (false, 2), (false, 3), (false, 4), (true, 1)] rfl (by decide) rfl rfl [] rfl (Nat.le_of_ble_eq_true rfl) ⟨Nat.le_of_ble_eq_true rfl, Nat.le_of_ble_eq_true rfl⟩ dX6_addWater_125 128 0 0 rfl ⟨rfl, rfl⟩ ?_
                      refine vv_aload_n C dX6_addWater_128 rfl 0 rfl 129 rfl ?_
                      refine vv_get C (q0 := 0) (ci := 6) (k := 0) kinX6_addWater_X6 rfl rfl (by decide) kwX6_addWater_5 rfl rfl dX6_addWater_129 132 rfl ?_
                      refine vv_iload C dX6_addWater_132 5 rfl 134 rfl ?_
                      refine vv_iload C dX6_addWater_134 6 rfl 136 rfl ?_
                      refine vv_iload C dX6_addWater_136 7 rfl 138 rfl ?_
                      obtain ⟨r5, hr5, h⟩ := bnd_s h
                      refine vv_callVi C (fun l => mt_X4_append l D c W W_number W_windDx W_windDy W_dx W_dy W_wave a5 a6 a7 r5 hr5) gX6_addWater_X4_append rfl rfl rfl yd_X4_append ⟨Nat.le_of_ble_eq_true rfl, Nat.le_of_ble_eq_true rfl⟩ [1, 2, 3, 4] rfl (by decide) 0 rfl rfl (wX6_addWater c X W R T Y X_ropes r5.2.1 W_windDx W_windDy r5.2.2.1 r5.2.2.2.1 r5.2.2.2.2 r4) [(false, 0), (true, 0), (true, 1), (true, 2), (true, 3), (false, 5)] rfl (by decide) rfl rfl [] rfl (Nat.le_of_ble_eq_true rfl) ⟨Nat.le_of_ble_eq_true rfl, Nat.le_of_ble_eq_true rfl⟩ dX6_addWater_138 141 0 0 rfl ⟨rfl, rfl⟩ ?_
                      refine vv_widen (k := 1) (n := 6) (by decide) (by decide) ?_
                      exact ret _ (Option.some.inj h).symm _ _ dX6_addWater_141
                    · replace h := ite_f hc h
                      exact thr 2 (Option.some.inj h).symm 59 61 63 "no more waters" _ _ thX6_addWater_2 (by decide) dX6_addWater_106 dX6_addWater_109 dX6_addWater_110 dX6_addWater_112 dX6_addWater_115
                  · replace h := ite_f hc h
                    exact thr 1 (Option.some.inj h).symm 41 54 45 "no such current or waves" _ _ thX6_addWater_1 (by decide) dX6_addWater_84 dX6_addWater_87 dX6_addWater_88 dX6_addWater_90 dX6_addWater_93
          · replace h := ite_f hc h
            exact thr 1 (Option.some.inj h).symm 41 48 45 "not all in the sea" _ _ thX6_addWater_1 (by decide) dX6_addWater_46 dX6_addWater_49 dX6_addWater_50 dX6_addWater_52 dX6_addWater_55
      · replace h := ite_f hc h
        exact thr 1 (Option.some.inj h).symm 41 43 45 "no such place or size" _ _ thX6_addWater_1 (by decide) dX6_addWater_19 dX6_addWater_22 dX6_addWater_23 dX6_addWater_25 dX6_addWater_28
abbrev wX6_bail (c : Nat → ClassId) (X : Nat → Nat) (W : Nat → Nat) (R : Nat → Nat) (B : Nat → Nat) (K : Nat → Nat) (Q : Nat → Nat) (T : Nat → Nat) (Y : Nat → Nat) (X_ropes : Int32) (R_hour : Int32) (R_broken : Int32) (B_number : Int32) (B_water : Nat → Int32) (K_number : Int32) (K_seat : Nat → Int32) : va_W := [(X 0, .inr (6, [.ref (W 0), .ref (R 0), .ref (T 0), .ref (Y 0), .int X_ropes])), (R 0, .inr (3, [.ref (B 0), .ref (K 0), .ref (Q 0), .ref (R 1), .ref (R 2), .int R_hour, .int R_broken])), (B 0, .inr (0, [.ref (B 1), .ref (B 2), .ref (B 3), .ref (B 4), .ref (B 5), .ref (B 6), .ref (B 7), .ref (B 8), .ref (B 9), .ref (B 10), .ref (B 11), .int B_number])), aI c (B 5) 24 B_water, (K 0, .inr (1, [.ref (K 1), .ref (K 2), .int K_number])), aI c (K 1) 8 K_seat]
abbrev rmX6_bail : Room := { frames := 6, cells := 1, slots := 6, locals := 90 }
theorem yd_X6_bail : yX6_bail.cls = RX6 ∧ yX6_bail.cls ≠ "java/lang/invoke/MethodHandle" ∧ yX6_bail.cls ≠ "java/lang/invoke/VarHandle" ∧ (parseMethodDescriptor yX6_bail.desc).map (fun d => d.parameters.length) = some 1 := by decide +kernel
theorem kwX6_bail_5 : Cond.fieldLink RX6 19 "BarrelRaft" "raft" "LBarrelRaft$Raft;" ∈ wsX6_bail := List.mem_of_getElem? (i := 5) rfl
set_option maxRecDepth 20000 in
theorem kinX6_bail_X6 : ∀ w ∈ u_ws RX6 TX6 5, w ∈ wsX6_bail := by decide +kernel
theorem kwX6_bail_6 : Cond.fieldLink RX6 195 "BarrelRaft$Raft" "castaways" "LBarrelRaft$Castaways;" ∈ wsX6_bail := List.mem_of_getElem? (i := 6) rfl
set_option maxRecDepth 20000 in
theorem kinX6_bail_X3 : ∀ w ∈ u_ws RX3 TX3 7, w ∈ wsX6_bail := by decide +kernel
theorem kwX6_bail_7 : Cond.fieldLink RX6 212 "BarrelRaft$Castaways" "seat" "[I" ∈ wsX6_bail := List.mem_of_getElem? (i := 7) rfl
set_option maxRecDepth 20000 in
theorem kinX6_bail_X1 : ∀ w ∈ u_ws RX1 TX1 3, w ∈ wsX6_bail := by decide +kernel
theorem kwX6_bail_8 : Cond.fieldLink RX6 94 "BarrelRaft$Raft" "barrels" "LBarrelRaft$Barrels;" ∈ wsX6_bail := List.mem_of_getElem? (i := 8) rfl
theorem kwX6_bail_9 : Cond.fieldLink RX6 221 "BarrelRaft$Barrels" "water" "[I" ∈ wsX6_bail := List.mem_of_getElem? (i := 9) rfl
set_option maxRecDepth 20000 in
theorem kinX6_bail_X0 : ∀ w ∈ u_ws RX0 TX0 12, w ∈ wsX6_bail := by decide +kernel
theorem kwX6_bail_10 : Cond.methodLink RX6 145 Lib.Math.max.name ∈ wsX6_bail := List.mem_of_getElem? (i := 10) rfl
theorem kwX6_bail_11 : Cond.static Lib.Math.max.name ∈ wsX6_bail := List.mem_of_getElem? (i := 11) rfl
theorem kwX6_bail_12 : Cond.initialized "java/lang/Math" ∈ wsX6_bail := List.mem_of_getElem? (i := 12) rfl
theorem kwX6_bail_13 : Cond.code Lib.Math.max.name Lib.Math.max.code 2 (some .int) ∈ wsX6_bail := List.mem_of_getElem? (i := 13) rfl
theorem kwX6_bail_3 : Cond.classLink RX6 59 "java/lang/IllegalStateException" ∈ wsX6_bail := List.mem_of_getElem? (i := 3) rfl
theorem kwX6_bail_4 : Cond.initialized "java/lang/IllegalStateException" ∈ wsX6_bail := List.mem_of_getElem? (i := 4) rfl
theorem kwX6_bail_1 : Cond.classLink RX6 75 "java/lang/IndexOutOfBoundsException" ∈ wsX6_bail := List.mem_of_getElem? (i := 1) rfl
theorem kwX6_bail_2 : Cond.initialized "java/lang/IndexOutOfBoundsException" ∈ wsX6_bail := List.mem_of_getElem? (i := 2) rfl
def jX6_bail (B_number : Int32) (B_water : Nat → Int32) (K_number : Int32) (K_seat : Nat → Int32) (a1 : Int32) : Option (Nat ⊕ (Int32 × (Nat → Int32))) :=
  bnd (jX1_has K_number a1) (fun r1 => (if r1 = 0 then some (Sum.inl 3) else chk 8 a1 (bnd (jX0_has B_number (rd K_seat a1)) (fun r2 => (if r2 = 0 then some (Sum.inl 2) else chk 24 (rd K_seat a1) (chk 24 (rd K_seat a1) (chk 24 (rd K_seat a1) (some (Sum.inr (rd (wr B_water (rd K_seat a1) (mmax 0 ((rd B_water (rd K_seat a1)) - 25))) (rd K_seat a1), wr B_water (rd K_seat a1) (mmax 0 ((rd B_water (rd K_seat a1)) - 25))))))))))))
theorem thX6_bail_2 : ThOK wsX6_bail rmX6_bail 2 59 63 := ⟨kwX6_bail_3, kwX6_bail_4, fun w hw => List.mem_cons_of_mem _ (List.mem_append_right _ hw), th2_n, th2_o, by decide, by decide, by decide, by decide, by decide⟩
theorem thX6_bail_3 : ThOK wsX6_bail rmX6_bail 3 75 79 := ⟨kwX6_bail_1, kwX6_bail_2, fun w hw => List.mem_cons_of_mem _ (List.mem_append_left _ (List.mem_append_right _ hw)), th3_n, th3_o, by decide, by decide, by decide, by decide, by decide⟩
set_option maxHeartbeats 4000000 in
set_option maxRecDepth 100000 in
theorem mt_X6_bail (l : Launch) (hfl : l.stackTraces = false) (D : va_G) (c : Nat → ClassId) (X : Nat → Nat) (W : Nat → Nat) (R : Nat → Nat) (B : Nat → Nat) (K : Nat → Nat) (Q : Nat → Nat) (T : Nat → Nat) (Y : Nat → Nat) (X_ropes : Int32) (R_hour : Int32) (R_broken : Int32) (B_number : Int32) (B_water : Nat → Int32) (K_number : Int32) (K_seat : Nat → Int32) (a1 : Int32) (q0 : Nat ⊕ (Int32 × (Nat → Int32))) (h : jX6_bail B_number B_water K_number K_seat a1 = some q0) : DXi l yX6_bail wsX6_bail rmX6_bail D c (wX6_bail c X W R B K Q T Y X_ropes R_hour R_broken B_number B_water K_number K_seat) [.ref (X 0), .int a1] q0 (fun (q0 : Int32 × (Nat → Int32)) => q0.1) (fun q0 => (wX6_bail c X W R B K Q T Y X_ropes R_hour R_broken B_number q0.2 K_number K_seat)) 1 6 := by
  refine DXi_of (cc := cX6_bail) (nL := 3) rfl (by decide) rfl (Nat.le_of_ble_eq_true rfl) hfl ⟨by decide, by decide⟩ (fun g C ret thr => ?_)
  unfold jX6_bail at h
  refine vv_lv [0, 1] [(0, .ref (X 0)), (1, .int a1)] rfl ?_
  refine vv_aload_n C dX6_bail_0 rfl 0 rfl 1 rfl ?_
  refine vv_get C (q0 := 0) (ci := 6) (k := 1) kinX6_bail_X6 rfl rfl (by decide) kwX6_bail_5 rfl rfl dX6_bail_1 4 rfl ?_
  refine vv_get C (q0 := 1) (ci := 3) (k := 1) kinX6_bail_X3 rfl rfl (by decide) kwX6_bail_6 rfl rfl dX6_bail_4 7 rfl ?_
  refine vv_iload_n C dX6_bail_7 rfl 1 rfl 8 rfl ?_
  obtain ⟨r1, hr1, h⟩ := bnd_s h
  refine vv_callVi C (fun l => mt_X1_has l D c K K_number a1 r1 hr1) gX6_bail_X1_has rfl rfl rfl yd_X1_has ⟨Nat.le_of_ble_eq_true rfl, Nat.le_of_ble_eq_true rfl⟩ [4] rfl (by decide) 0 rfl rfl (wX6_bail c X W R B K Q T Y X_ropes R_hour R_broken B_number B_water K_number K_seat) [(false, 0), (false, 1), (false, 2), (false, 3), (true, 0), (false, 5)] rfl (by decide) rfl rfl [] rfl (Nat.le_of_ble_eq_true rfl) ⟨Nat.le_of_ble_eq_true rfl, Nat.le_of_ble_eq_true rfl⟩ dX6_bail_8 11 0 0 rfl ⟨rfl, rfl⟩ ?_
  refine vv_if_ne C 24 14 dX6_bail_11 (by decide) rfl (fun hc => ?_) (fun hc => ?_)
  · replace h := ite_f hc h
    refine vv_aload_n C dX6_bail_24 rfl 0 rfl 25 rfl ?_
    refine vv_get C (q0 := 0) (ci := 6) (k := 1) kinX6_bail_X6 rfl rfl (by decide) kwX6_bail_5 rfl rfl dX6_bail_25 28 rfl ?_
    refine vv_get C (q0 := 1) (ci := 3) (k := 1) kinX6_bail_X3 rfl rfl (by decide) kwX6_bail_6 rfl rfl dX6_bail_28 31 rfl ?_
    refine vv_get C (q0 := 4) (ci := 1) (k := 0) kinX6_bail_X1 rfl rfl (by decide) kwX6_bail_7 rfl rfl dX6_bail_31 34 rfl ?_
    refine vv_iload_n C dX6_bail_34 rfl 1 rfl 35 rfl ?_
    obtain ⟨hi, h⟩ := chk_s h
    refine vv_iald C (q0 := 5) rfl hi dX6_bail_35 36 rfl ?_
    refine vv_istore_n C [(2, .int (rd K_seat a1)), (0, .ref (X 0)), (1, .int a1)] dX6_bail_36 rfl (by decide) rfl 37 rfl ?_
    refine vv_aload_n C dX6_bail_37 rfl 1 rfl 38 rfl ?_
    refine vv_get C (q0 := 0) (ci := 6) (k := 1) kinX6_bail_X6 rfl rfl (by decide) kwX6_bail_5 rfl rfl dX6_bail_38 41 rfl ?_
    refine vv_get C (q0 := 1) (ci := 3) (k := 0) kinX6_bail_X3 rfl rfl (by decide) kwX6_bail_8 rfl rfl dX6_bail_41 44 rfl ?_
    refine vv_iload_n C dX6_bail_44 rfl 0 rfl 45 rfl ?_
    obtain ⟨r2, hr2, h⟩ := bnd_s h
    refine vv_callVi C (fun l => mt_X0_has l D c B B_number (rd K_seat a1) r2 hr2) gX6_bail_X0_has rfl rfl rfl yd_X0_has ⟨Nat.le_of_ble_eq_true rfl, Nat.le_of_ble_eq_true rfl⟩ [2] rfl (by decide) 0 rfl rfl (wX6_bail c X W R B K Q T Y X_ropes R_hour R_broken B_number B_water K_number K_seat) [(false, 0), (false, 1), (true, 0), (false, 3), (false, 4), (false, 5)] rfl (by decide) rfl rfl [] rfl (Nat.le_of_ble_eq_true rfl) ⟨Nat.le_of_ble_eq_true rfl, Nat.le_of_ble_eq_true rfl⟩ dX6_bail_45 48 0 0 rfl ⟨rfl, rfl⟩ ?_
    refine vv_if_ne C 61 51 dX6_bail_48 (by decide) rfl (fun hc => ?_) (fun hc => ?_)
    · replace h := ite_f hc h
      refine vv_aload_n C dX6_bail_61 rfl 1 rfl 62 rfl ?_
      refine vv_get C (q0 := 0) (ci := 6) (k := 1) kinX6_bail_X6 rfl rfl (by decide) kwX6_bail_5 rfl rfl dX6_bail_62 65 rfl ?_
      refine vv_get C (q0 := 1) (ci := 3) (k := 0) kinX6_bail_X3 rfl rfl (by decide) kwX6_bail_8 rfl rfl dX6_bail_65 68 rfl ?_
      refine vv_get C (q0 := 2) (ci := 0) (k := 4) kinX6_bail_X0 rfl rfl (by decide) kwX6_bail_9 rfl rfl dX6_bail_68 71 rfl ?_
      refine vv_iload_n C dX6_bail_71 rfl 0 rfl 72 rfl ?_
      refine vv_iconst C (v := 0) dX6_bail_72 (by decide) 73 rfl ?_
      refine vv_aload_n C dX6_bail_73 rfl 1 rfl 74 rfl ?_
      refine vv_get C (q0 := 0) (ci := 6) (k := 1) kinX6_bail_X6 rfl rfl (by decide) kwX6_bail_5 rfl rfl dX6_bail_74 77 rfl ?_
      refine vv_get C (q0 := 1) (ci := 3) (k := 0) kinX6_bail_X3 rfl rfl (by decide) kwX6_bail_8 rfl rfl dX6_bail_77 80 rfl ?_
      refine vv_get C (q0 := 2) (ci := 0) (k := 4) kinX6_bail_X0 rfl rfl (by decide) kwX6_bail_9 rfl rfl dX6_bail_80 83 rfl ?_
      refine vv_iload_n C dX6_bail_83 rfl 0 rfl 84 rfl ?_
      obtain ⟨hi, h⟩ := chk_s h
      refine vv_iald C (q0 := 3) rfl hi dX6_bail_84 85 rfl ?_
      refine vv_bipush C (v := 25) dX6_bail_85 (by decide) 87 rfl ?_
      refine vv_isub C dX6_bail_87 88 rfl ?_
      refine vv_mmax C kwX6_bail_10 kwX6_bail_11 kwX6_bail_12 kwX6_bail_13 ⟨Nat.le_of_ble_eq_true rfl, Nat.le_of_ble_eq_true rfl⟩ ⟨Nat.le_of_ble_eq_true rfl, Nat.le_of_ble_eq_true rfl⟩ dX6_bail_88 91 rfl ?_
      obtain ⟨hi, h⟩ := chk_s h
      refine vv_iast C (q0 := 3) (wX6_bail c X W R B K Q T Y X_ropes R_hour R_broken B_number (wr B_water (rd K_seat a1) (mmax 0 ((rd B_water (rd K_seat a1)) - 25))) K_number K_seat) rfl hi rfl dX6_bail_91 92 rfl ?_
      refine vv_aload_n C dX6_bail_92 rfl 1 rfl 93 rfl ?_
      refine vv_get C (q0 := 0) (ci := 6) (k := 1) kinX6_bail_X6 rfl rfl (by decide) kwX6_bail_5 rfl rfl dX6_bail_93 96 rfl ?_
      refine vv_get C (q0 := 1) (ci := 3) (k := 0) kinX6_bail_X3 rfl rfl (by decide) kwX6_bail_8 rfl rfl dX6_bail_96 99 rfl ?_
      refine vv_get C (q0 := 2) (ci := 0) (k := 4) kinX6_bail_X0 rfl rfl (by decide) kwX6_bail_9 rfl rfl dX6_bail_99 102 rfl ?_
      refine vv_iload_n C dX6_bail_102 rfl 0 rfl 103 rfl ?_
      obtain ⟨hi, h⟩ := chk_s h
      refine vv_iald C (q0 := 3) rfl hi dX6_bail_103 104 rfl ?_
      refine vv_widen (k := 1) (n := 6) (by decide) (by decide) ?_
      exact ret _ (Option.some.inj h).symm _ _ dX6_bail_104
    · replace h := ite_t hc h
      exact thr 2 (Option.some.inj h).symm 59 219 63 "the castaway is on no barrel" _ _ thX6_bail_2 (by decide) dX6_bail_51 dX6_bail_54 dX6_bail_55 dX6_bail_57 dX6_bail_60
  · replace h := ite_t hc h
    exact thr 3 (Option.some.inj h).symm 75 217 79 "no such castaway" _ _ thX6_bail_3 (by decide) dX6_bail_14 dX6_bail_17 dX6_bail_18 dX6_bail_20 dX6_bail_23
abbrev wX6_barrel (c : Nat → ClassId) (X : Nat → Nat) (W : Nat → Nat) (R : Nat → Nat) (B : Nat → Nat) (K : Nat → Nat) (Q : Nat → Nat) (T : Nat → Nat) (Y : Nat → Nat) (X_ropes : Int32) (R_hour : Int32) (R_broken : Int32) (B_number : Int32) (B_column : Nat → Int32) (B_row : Nat → Int32) (B_lift : Nat → Int32) (B_leak : Nat → Int32) (B_water : Nat → Int32) (B_goods : Nat → Int32) (B_people : Nat → Int32) (B_state : Nat → Int32) (B_x : Nat → Int32) (B_y : Nat → Int32) (B_piece : Nat → Int32) (Q_number : Int32) (Q_first : Nat → Int32) (Q_second : Nat → Int32) : va_W := [(X 0, .inr (6, [.ref (W 0), .ref (R 0), .ref (T 0), .ref (Y 0), .int X_ropes])), (R 0, .inr (3, [.ref (B 0), .ref (K 0), .ref (Q 0), .ref (R 1), .ref (R 2), .int R_hour, .int R_broken])), (B 0, .inr (0, [.ref (B 1), .ref (B 2), .ref (B 3), .ref (B 4), .ref (B 5), .ref (B 6), .ref (B 7), .ref (B 8), .ref (B 9), .ref (B 10), .ref (B 11), .int B_number])), aI c (B 1) 24 B_column, aI c (B 2) 24 B_row, aI c (B 3) 24 B_lift, aI c (B 4) 24 B_leak, aI c (B 5) 24 B_water, aI c (B 6) 24 B_goods, aI c (B 7) 24 B_people, aI c (B 8) 24 B_state, aI c (B 9) 24 B_x, aI c (B 10) 24 B_y, aI c (B 11) 24 B_piece, (Q 0, .inr (2, [.ref (Q 1), .ref (Q 2), .ref (Q 3), .ref (Q 4), .int Q_number])), aI c (Q 1) 48 Q_first, aI c (Q 2) 48 Q_second]
abbrev rmX6_barrel : Room := { frames := 6, cells := 1, slots := 6, locals := 90 }
theorem yd_X6_barrel : yX6_barrel.cls = RX6 ∧ yX6_barrel.cls ≠ "java/lang/invoke/MethodHandle" ∧ yX6_barrel.cls ≠ "java/lang/invoke/VarHandle" ∧ (parseMethodDescriptor yX6_barrel.desc).map (fun d => d.parameters.length) = some 2 := by decide +kernel
theorem kwX6_barrel_3 : Cond.fieldLink RX6 19 "BarrelRaft" "raft" "LBarrelRaft$Raft;" ∈ wsX6_barrel := List.mem_of_getElem? (i := 3) rfl
set_option maxRecDepth 20000 in
theorem kinX6_barrel_X6 : ∀ w ∈ u_ws RX6 TX6 5, w ∈ wsX6_barrel := by decide +kernel
theorem kwX6_barrel_4 : Cond.fieldLink RX6 94 "BarrelRaft$Raft" "barrels" "LBarrelRaft$Barrels;" ∈ wsX6_barrel := List.mem_of_getElem? (i := 4) rfl
set_option maxRecDepth 20000 in
theorem kinX6_barrel_X3 : ∀ w ∈ u_ws RX3 TX3 7, w ∈ wsX6_barrel := by decide +kernel
theorem kwX6_barrel_1 : Cond.classLink RX6 75 "java/lang/IndexOutOfBoundsException" ∈ wsX6_barrel := List.mem_of_getElem? (i := 1) rfl
theorem kwX6_barrel_2 : Cond.initialized "java/lang/IndexOutOfBoundsException" ∈ wsX6_barrel := List.mem_of_getElem? (i := 2) rfl
def jX6_barrel (B_number : Int32) (B_column : Nat → Int32) (B_row : Nat → Int32) (B_lift : Nat → Int32) (B_leak : Nat → Int32) (B_water : Nat → Int32) (B_goods : Nat → Int32) (B_people : Nat → Int32) (B_state : Nat → Int32) (B_x : Nat → Int32) (B_y : Nat → Int32) (B_piece : Nat → Int32) (Q_number : Int32) (Q_first : Nat → Int32) (Q_second : Nat → Int32) (a1 : Int32) (a2 : Int32) : Option (Nat ⊕ (Int32)) :=
  bnd (jX0_has B_number a1) (fun r1 => (if r1 = 0 then some (Sum.inl 3) else bnd (jX6_isBelow a2 13) (fun r2 => (if r2 = 0 then some (Sum.inl 3) else bnd (jX6_barrelFact B_column B_row B_lift B_leak B_water B_goods B_people B_state B_x B_y B_piece Q_number Q_first Q_second a1 a2) (fun r3 => some (Sum.inr r3))))))
theorem thX6_barrel_3 : ThOK wsX6_barrel rmX6_barrel 3 75 79 := ⟨kwX6_barrel_1, kwX6_barrel_2, fun w hw => List.mem_cons_of_mem _ (List.mem_append_right _ hw), th3_n, th3_o, by decide, by decide, by decide, by decide, by decide⟩
set_option maxHeartbeats 4000000 in
set_option maxRecDepth 100000 in
theorem mt_X6_barrel (l : Launch) (hfl : l.stackTraces = false) (D : va_G) (c : Nat → ClassId) (X : Nat → Nat) (W : Nat → Nat) (R : Nat → Nat) (B : Nat → Nat) (K : Nat → Nat) (Q : Nat → Nat) (T : Nat → Nat) (Y : Nat → Nat) (X_ropes : Int32) (R_hour : Int32) (R_broken : Int32) (B_number : Int32) (B_column : Nat → Int32) (B_row : Nat → Int32) (B_lift : Nat → Int32) (B_leak : Nat → Int32) (B_water : Nat → Int32) (B_goods : Nat → Int32) (B_people : Nat → Int32) (B_state : Nat → Int32) (B_x : Nat → Int32) (B_y : Nat → Int32) (B_piece : Nat → Int32) (Q_number : Int32) (Q_first : Nat → Int32) (Q_second : Nat → Int32) (a1 : Int32) (a2 : Int32) (q0 : Nat ⊕ (Int32)) (h : jX6_barrel B_number B_column B_row B_lift B_leak B_water B_goods B_people B_state B_x B_y B_piece Q_number Q_first Q_second a1 a2 = some q0) : DXi l yX6_barrel wsX6_barrel rmX6_barrel D c (wX6_barrel c X W R B K Q T Y X_ropes R_hour R_broken B_number B_column B_row B_lift B_leak B_water B_goods B_people B_state B_x B_y B_piece Q_number Q_first Q_second) [.ref (X 0), .int a1, .int a2] q0 (fun (q0 : Int32) => q0) (fun q0 => (wX6_barrel c X W R B K Q T Y X_ropes R_hour R_broken B_number B_column B_row B_lift B_leak B_water B_goods B_people B_state B_x B_y B_piece Q_number Q_first Q_second)) 1 6 := by
  refine DXi_of (cc := cX6_barrel) (nL := 3) rfl (by decide) rfl (Nat.le_of_ble_eq_true rfl) hfl ⟨by decide, by decide⟩ (fun g C ret thr => ?_)
  unfold jX6_barrel at h
  refine vv_lv [0, 1, 2] [(0, .ref (X 0)), (1, .int a1), (2, .int a2)] rfl ?_
  refine vv_aload_n C dX6_barrel_0 rfl 0 rfl 1 rfl ?_
  refine vv_get C (q0 := 0) (ci := 6) (k := 1) kinX6_barrel_X6 rfl rfl (by decide) kwX6_barrel_3 rfl rfl dX6_barrel_1 4 rfl ?_
  refine vv_get C (q0 := 1) (ci := 3) (k := 0) kinX6_barrel_X3 rfl rfl (by decide) kwX6_barrel_4 rfl rfl dX6_barrel_4 7 rfl ?_
  refine vv_iload_n C dX6_barrel_7 rfl 1 rfl 8 rfl ?_
  obtain ⟨r1, hr1, h⟩ := bnd_s h
  refine vv_callVi C (fun l => mt_X0_has l D c B B_number a1 r1 hr1) gX6_barrel_X0_has rfl rfl rfl yd_X0_has ⟨Nat.le_of_ble_eq_true rfl, Nat.le_of_ble_eq_true rfl⟩ [2] rfl (by decide) 0 rfl rfl (wX6_barrel c X W R B K Q T Y X_ropes R_hour R_broken B_number B_column B_row B_lift B_leak B_water B_goods B_people B_state B_x B_y B_piece Q_number Q_first Q_second) [(false, 0), (false, 1), (true, 0), (false, 3), (false, 4), (false, 5), (false, 6), (false, 7), (false, 8), (false, 9), (false, 10), (false, 11), (false, 12), (false, 13), (false, 14), (false, 15), (false, 16)] rfl (by decide) rfl rfl [] rfl (Nat.le_of_ble_eq_true rfl) ⟨Nat.le_of_ble_eq_true rfl, Nat.le_of_ble_eq_true rfl⟩ dX6_barrel_8 11 0 0 rfl ⟨rfl, rfl⟩ ?_
  refine vv_if_eq C 23 14 dX6_barrel_11 (by decide) rfl (fun hc => ?_) (fun hc => ?_)
  · replace h := ite_t hc h
    exact thr 3 (Option.some.inj h).symm 75 180 79 "no such barrel or question" _ _ thX6_barrel_3 (by decide) dX6_barrel_23 dX6_barrel_26 dX6_barrel_27 dX6_barrel_29 dX6_barrel_32
  · replace h := ite_f hc h
    refine vv_iload_n C dX6_barrel_14 rfl 2 rfl 15 rfl ?_
    refine vv_bipush C (v := 13) dX6_barrel_15 (by decide) 17 rfl ?_
    obtain ⟨r2, hr2, h⟩ := bnd_s h
    refine vv_callSi C (fun l => mt_X6_isBelow l D c a2 13 r2 hr2) gX6_barrel_X6_isBelow rfl rfl rfl yd_X6_isBelow ⟨Nat.le_of_ble_eq_true rfl, Nat.le_of_ble_eq_true rfl⟩ [] rfl (by decide) (wX6_barrel c X W R B K Q T Y X_ropes R_hour R_broken B_number B_column B_row B_lift B_leak B_water B_goods B_people B_state B_x B_y B_piece Q_number Q_first Q_second) [(false, 0), (false, 1), (false, 2), (false, 3), (false, 4), (false, 5), (false, 6), (false, 7), (false, 8), (false, 9), (false, 10), (false, 11), (false, 12), (false, 13), (false, 14), (false, 15), (false, 16)] rfl (by decide) rfl rfl [] rfl (Nat.le_of_ble_eq_true rfl) ⟨Nat.le_of_ble_eq_true rfl, Nat.le_of_ble_eq_true rfl⟩ dX6_barrel_17 20 0 0 rfl ⟨rfl, rfl⟩ ?_
    refine vv_if_ne C 33 23 dX6_barrel_20 (by decide) rfl (fun hc => ?_) (fun hc => ?_)
    · replace h := ite_f hc h
      refine vv_aload_n C dX6_barrel_33 rfl 0 rfl 34 rfl ?_
      refine vv_iload_n C dX6_barrel_34 rfl 1 rfl 35 rfl ?_
      refine vv_iload_n C dX6_barrel_35 rfl 2 rfl 36 rfl ?_
      obtain ⟨r3, hr3, h⟩ := bnd_s h
      refine vv_callVi C (fun l => mt_X6_barrelFact l D c X W R B K Q T Y X_ropes R_hour R_broken B_number B_column B_row B_lift B_leak B_water B_goods B_people B_state B_x B_y B_piece Q_number Q_first Q_second a1 a2 r3 hr3) gX6_barrel_X6_barrelFact rfl rfl rfl yd_X6_barrelFact ⟨Nat.le_of_ble_eq_true rfl, Nat.le_of_ble_eq_true rfl⟩ [0, 1, 2, 3, 4, 5, 6, 7, 8, 9, 10, 11, 12, 13, 14, 15, 16] rfl (by decide) 0 rfl rfl (wX6_barrel c X W R B K Q T Y X_ropes R_hour R_broken B_number B_column B_row B_lift B_leak B_water B_goods B_people B_state B_x B_y B_piece Q_number Q_first Q_second) [(true, 0), (true, 1), (true, 2), (true, 3), (true, 4), (true, 5), (true, 6), (true, 7), (true, 8), (true, 9), (true, 10), (true, 11), (true, 12), (true, 13), (true, 14), (true, 15), (true, 16)] rfl (by decide) rfl rfl [] rfl (Nat.le_of_ble_eq_true rfl) ⟨Nat.le_of_ble_eq_true rfl, Nat.le_of_ble_eq_true rfl⟩ dX6_barrel_36 39 0 0 rfl ⟨rfl, rfl⟩ ?_
      refine vv_widen (k := 1) (n := 6) (by decide) (by decide) ?_
      exact ret _ (Option.some.inj h).symm _ _ dX6_barrel_39
    · replace h := ite_t hc h
      exact thr 3 (Option.some.inj h).symm 75 180 79 "no such barrel or question" _ _ thX6_barrel_3 (by decide) dX6_barrel_23 dX6_barrel_26 dX6_barrel_27 dX6_barrel_29 dX6_barrel_32
abbrev wX6_castaway (c : Nat → ClassId) (X : Nat → Nat) (W : Nat → Nat) (R : Nat → Nat) (B : Nat → Nat) (K : Nat → Nat) (Q : Nat → Nat) (T : Nat → Nat) (Y : Nat → Nat) (X_ropes : Int32) (R_hour : Int32) (R_broken : Int32) (K_number : Int32) (K_seat : Nat → Int32) (K_state : Nat → Int32) : va_W := [(X 0, .inr (6, [.ref (W 0), .ref (R 0), .ref (T 0), .ref (Y 0), .int X_ropes])), (R 0, .inr (3, [.ref (B 0), .ref (K 0), .ref (Q 0), .ref (R 1), .ref (R 2), .int R_hour, .int R_broken])), (K 0, .inr (1, [.ref (K 1), .ref (K 2), .int K_number])), aI c (K 1) 8 K_seat, aI c (K 2) 8 K_state]
abbrev rmX6_castaway : Room := { frames := 6, cells := 1, slots := 6, locals := 90 }
theorem yd_X6_castaway : yX6_castaway.cls = RX6 ∧ yX6_castaway.cls ≠ "java/lang/invoke/MethodHandle" ∧ yX6_castaway.cls ≠ "java/lang/invoke/VarHandle" ∧ (parseMethodDescriptor yX6_castaway.desc).map (fun d => d.parameters.length) = some 2 := by decide +kernel
theorem kwX6_castaway_3 : Cond.fieldLink RX6 19 "BarrelRaft" "raft" "LBarrelRaft$Raft;" ∈ wsX6_castaway := List.mem_of_getElem? (i := 3) rfl
set_option maxRecDepth 20000 in
theorem kinX6_castaway_X6 : ∀ w ∈ u_ws RX6 TX6 5, w ∈ wsX6_castaway := by decide +kernel
theorem kwX6_castaway_4 : Cond.fieldLink RX6 195 "BarrelRaft$Raft" "castaways" "LBarrelRaft$Castaways;" ∈ wsX6_castaway := List.mem_of_getElem? (i := 4) rfl
set_option maxRecDepth 20000 in
theorem kinX6_castaway_X3 : ∀ w ∈ u_ws RX3 TX3 7, w ∈ wsX6_castaway := by decide +kernel
theorem kwX6_castaway_1 : Cond.classLink RX6 75 "java/lang/IndexOutOfBoundsException" ∈ wsX6_castaway := List.mem_of_getElem? (i := 1) rfl
theorem kwX6_castaway_2 : Cond.initialized "java/lang/IndexOutOfBoundsException" ∈ wsX6_castaway := List.mem_of_getElem? (i := 2) rfl
def jX6_castaway (K_number : Int32) (K_seat : Nat → Int32) (K_state : Nat → Int32) (a1 : Int32) (a2 : Int32) : Option (Nat ⊕ (Int32)) :=
  bnd (jX1_has K_number a1) (fun r1 => (if r1 = 0 then some (Sum.inl 3) else bnd (jX6_isBelow a2 2) (fun r2 => (if r2 = 0 then some (Sum.inl 3) else bnd (jX6_castawayFact K_seat K_state a1 a2) (fun r3 => some (Sum.inr r3))))))
theorem thX6_castaway_3 : ThOK wsX6_castaway rmX6_castaway 3 75 79 := ⟨kwX6_castaway_1, kwX6_castaway_2, fun w hw => List.mem_cons_of_mem _ (List.mem_append_right _ hw), th3_n, th3_o, by decide, by decide, by decide, by decide, by decide⟩
set_option maxHeartbeats 4000000 in
set_option maxRecDepth 100000 in
theorem mt_X6_castaway (l : Launch) (hfl : l.stackTraces = false) (D : va_G) (c : Nat → ClassId) (X : Nat → Nat) (W : Nat → Nat) (R : Nat → Nat) (B : Nat → Nat) (K : Nat → Nat) (Q : Nat → Nat) (T : Nat → Nat) (Y : Nat → Nat) (X_ropes : Int32) (R_hour : Int32) (R_broken : Int32) (K_number : Int32) (K_seat : Nat → Int32) (K_state : Nat → Int32) (a1 : Int32) (a2 : Int32) (q0 : Nat ⊕ (Int32)) (h : jX6_castaway K_number K_seat K_state a1 a2 = some q0) : DXi l yX6_castaway wsX6_castaway rmX6_castaway D c (wX6_castaway c X W R B K Q T Y X_ropes R_hour R_broken K_number K_seat K_state) [.ref (X 0), .int a1, .int a2] q0 (fun (q0 : Int32) => q0) (fun q0 => (wX6_castaway c X W R B K Q T Y X_ropes R_hour R_broken K_number K_seat K_state)) 1 6 := by
  refine DXi_of (cc := cX6_castaway) (nL := 3) rfl (by decide) rfl (Nat.le_of_ble_eq_true rfl) hfl ⟨by decide, by decide⟩ (fun g C ret thr => ?_)
  unfold jX6_castaway at h
  refine vv_lv [0, 1, 2] [(0, .ref (X 0)), (1, .int a1), (2, .int a2)] rfl ?_
  refine vv_aload_n C dX6_castaway_0 rfl 0 rfl 1 rfl ?_
  refine vv_get C (q0 := 0) (ci := 6) (k := 1) kinX6_castaway_X6 rfl rfl (by decide) kwX6_castaway_3 rfl rfl dX6_castaway_1 4 rfl ?_
  refine vv_get C (q0 := 1) (ci := 3) (k := 1) kinX6_castaway_X3 rfl rfl (by decide) kwX6_castaway_4 rfl rfl dX6_castaway_4 7 rfl ?_
  refine vv_iload_n C dX6_castaway_7 rfl 1 rfl 8 rfl ?_
  obtain ⟨r1, hr1, h⟩ := bnd_s h
  refine vv_callVi C (fun l => mt_X1_has l D c K K_number a1 r1 hr1) gX6_castaway_X1_has rfl rfl rfl yd_X1_has ⟨Nat.le_of_ble_eq_true rfl, Nat.le_of_ble_eq_true rfl⟩ [2] rfl (by decide) 0 rfl rfl (wX6_castaway c X W R B K Q T Y X_ropes R_hour R_broken K_number K_seat K_state) [(false, 0), (false, 1), (true, 0), (false, 3), (false, 4)] rfl (by decide) rfl rfl [] rfl (Nat.le_of_ble_eq_true rfl) ⟨Nat.le_of_ble_eq_true rfl, Nat.le_of_ble_eq_true rfl⟩ dX6_castaway_8 11 0 0 rfl ⟨rfl, rfl⟩ ?_
  refine vv_if_eq C 22 14 dX6_castaway_11 (by decide) rfl (fun hc => ?_) (fun hc => ?_)
  · replace h := ite_t hc h
    exact thr 3 (Option.some.inj h).symm 75 224 79 "no such castaway or question" _ _ thX6_castaway_3 (by decide) dX6_castaway_22 dX6_castaway_25 dX6_castaway_26 dX6_castaway_28 dX6_castaway_31
  · replace h := ite_f hc h
    refine vv_iload_n C dX6_castaway_14 rfl 2 rfl 15 rfl ?_
    refine vv_iconst C (v := 2) dX6_castaway_15 (by decide) 16 rfl ?_
    obtain ⟨r2, hr2, h⟩ := bnd_s h
    refine vv_callSi C (fun l => mt_X6_isBelow l D c a2 2 r2 hr2) gX6_castaway_X6_isBelow rfl rfl rfl yd_X6_isBelow ⟨Nat.le_of_ble_eq_true rfl, Nat.le_of_ble_eq_true rfl⟩ [] rfl (by decide) (wX6_castaway c X W R B K Q T Y X_ropes R_hour R_broken K_number K_seat K_state) [(false, 0), (false, 1), (false, 2), (false, 3), (false, 4)] rfl (by decide) rfl rfl [] rfl (Nat.le_of_ble_eq_true rfl) ⟨Nat.le_of_ble_eq_true rfl, Nat.le_of_ble_eq_true rfl⟩ dX6_castaway_16 19 0 0 rfl ⟨rfl, rfl⟩ ?_
    refine vv_if_ne C 32 22 dX6_castaway_19 (by decide) rfl (fun hc => ?_) (fun hc => ?_)
    · replace h := ite_f hc h
      refine vv_aload_n C dX6_castaway_32 rfl 0 rfl 33 rfl ?_
      refine vv_iload_n C dX6_castaway_33 rfl 1 rfl 34 rfl ?_
      refine vv_iload_n C dX6_castaway_34 rfl 2 rfl 35 rfl ?_
      obtain ⟨r3, hr3, h⟩ := bnd_s h
      refine vv_callVi C (fun l => mt_X6_castawayFact l D c X W R B K Q T Y X_ropes R_hour R_broken K_number K_seat K_state a1 a2 r3 hr3) gX6_castaway_X6_castawayFact rfl rfl rfl yd_X6_castawayFact ⟨Nat.le_of_ble_eq_true rfl, Nat.le_of_ble_eq_true rfl⟩ [0, 1, 2, 3, 4] rfl (by decide) 0 rfl rfl (wX6_castaway c X W R B K Q T Y X_ropes R_hour R_broken K_number K_seat K_state) [(true, 0), (true, 1), (true, 2), (true, 3), (true, 4)] rfl (by decide) rfl rfl [] rfl (Nat.le_of_ble_eq_true rfl) ⟨Nat.le_of_ble_eq_true rfl, Nat.le_of_ble_eq_true rfl⟩ dX6_castaway_35 38 0 0 rfl ⟨rfl, rfl⟩ ?_
      refine vv_widen (k := 1) (n := 6) (by decide) (by decide) ?_
      exact ret _ (Option.some.inj h).symm _ _ dX6_castaway_38
    · replace h := ite_t hc h
      exact thr 3 (Option.some.inj h).symm 75 224 79 "no such castaway or question" _ _ thX6_castaway_3 (by decide) dX6_castaway_22 dX6_castaway_25 dX6_castaway_26 dX6_castaway_28 dX6_castaway_31
abbrev wX6_count (c : Nat → ClassId) (X : Nat → Nat) (W : Nat → Nat) (R : Nat → Nat) (B : Nat → Nat) (K : Nat → Nat) (Q : Nat → Nat) (T : Nat → Nat) (Y : Nat → Nat) (X_ropes : Int32) (R_hour : Int32) (R_broken : Int32) (B_number : Int32) (B_goods : Nat → Int32) (B_state : Nat → Int32) (B_piece : Nat → Int32) (K_number : Int32) (K_state : Nat → Int32) (Q_number : Int32) : va_W := [(X 0, .inr (6, [.ref (W 0), .ref (R 0), .ref (T 0), .ref (Y 0), .int X_ropes])), (R 0, .inr (3, [.ref (B 0), .ref (K 0), .ref (Q 0), .ref (R 1), .ref (R 2), .int R_hour, .int R_broken])), (B 0, .inr (0, [.ref (B 1), .ref (B 2), .ref (B 3), .ref (B 4), .ref (B 5), .ref (B 6), .ref (B 7), .ref (B 8), .ref (B 9), .ref (B 10), .ref (B 11), .int B_number])), aI c (B 6) 24 B_goods, aI c (B 8) 24 B_state, aI c (B 11) 24 B_piece, (K 0, .inr (1, [.ref (K 1), .ref (K 2), .int K_number])), aI c (K 2) 8 K_state, (Q 0, .inr (2, [.ref (Q 1), .ref (Q 2), .ref (Q 3), .ref (Q 4), .int Q_number]))]
abbrev rmX6_count : Room := { frames := 6, cells := 1, slots := 6, locals := 90 }
theorem yd_X6_count : yX6_count.cls = RX6 ∧ yX6_count.cls ≠ "java/lang/invoke/MethodHandle" ∧ yX6_count.cls ≠ "java/lang/invoke/VarHandle" ∧ (parseMethodDescriptor yX6_count.desc).map (fun d => d.parameters.length) = some 1 := by decide +kernel
theorem kwX6_count_1 : Cond.classLink RX6 75 "java/lang/IndexOutOfBoundsException" ∈ wsX6_count := List.mem_of_getElem? (i := 1) rfl
theorem kwX6_count_2 : Cond.initialized "java/lang/IndexOutOfBoundsException" ∈ wsX6_count := List.mem_of_getElem? (i := 2) rfl
def jX6_count (X_ropes : Int32) (R_hour : Int32) (R_broken : Int32) (B_number : Int32) (B_goods : Nat → Int32) (B_state : Nat → Int32) (B_piece : Nat → Int32) (K_number : Int32) (K_state : Nat → Int32) (Q_number : Int32) (a1 : Int32) : Option (Nat ⊕ (Int32)) :=
  bnd (jX6_isBelow a1 12) (fun r1 => (if r1 = 0 then some (Sum.inl 3) else bnd (jX6_countFact X_ropes R_hour R_broken B_number B_goods B_state B_piece K_number K_state Q_number a1) (fun r2 => some (Sum.inr r2))))
theorem thX6_count_3 : ThOK wsX6_count rmX6_count 3 75 79 := ⟨kwX6_count_1, kwX6_count_2, fun w hw => List.mem_cons_of_mem _ (List.mem_append_right _ hw), th3_n, th3_o, by decide, by decide, by decide, by decide, by decide⟩
set_option maxHeartbeats 4000000 in
set_option maxRecDepth 100000 in
theorem mt_X6_count (l : Launch) (hfl : l.stackTraces = false) (D : va_G) (c : Nat → ClassId) (X : Nat → Nat) (W : Nat → Nat) (R : Nat → Nat) (B : Nat → Nat) (K : Nat → Nat) (Q : Nat → Nat) (T : Nat → Nat) (Y : Nat → Nat) (X_ropes : Int32) (R_hour : Int32) (R_broken : Int32) (B_number : Int32) (B_goods : Nat → Int32) (B_state : Nat → Int32) (B_piece : Nat → Int32) (K_number : Int32) (K_state : Nat → Int32) (Q_number : Int32) (a1 : Int32) (q0 : Nat ⊕ (Int32)) (h : jX6_count X_ropes R_hour R_broken B_number B_goods B_state B_piece K_number K_state Q_number a1 = some q0) : DXi l yX6_count wsX6_count rmX6_count D c (wX6_count c X W R B K Q T Y X_ropes R_hour R_broken B_number B_goods B_state B_piece K_number K_state Q_number) [.ref (X 0), .int a1] q0 (fun (q0 : Int32) => q0) (fun q0 => (wX6_count c X W R B K Q T Y X_ropes R_hour R_broken B_number B_goods B_state B_piece K_number K_state Q_number)) 1 6 := by
  refine DXi_of (cc := cX6_count) (nL := 2) rfl (by decide) rfl (Nat.le_of_ble_eq_true rfl) hfl ⟨by decide, by decide⟩ (fun g C ret thr => ?_)
  unfold jX6_count at h
  refine vv_lv [0, 1] [(0, .ref (X 0)), (1, .int a1)] rfl ?_
  refine vv_iload_n C dX6_count_0 rfl 1 rfl 1 rfl ?_
  refine vv_bipush C (v := 12) dX6_count_1 (by decide) 3 rfl ?_
  obtain ⟨r1, hr1, h⟩ := bnd_s h
  refine vv_callSi C (fun l => mt_X6_isBelow l D c a1 12 r1 hr1) gX6_count_X6_isBelow rfl rfl rfl yd_X6_isBelow ⟨Nat.le_of_ble_eq_true rfl, Nat.le_of_ble_eq_true rfl⟩ [] rfl (by decide) (wX6_count c X W R B K Q T Y X_ropes R_hour R_broken B_number B_goods B_state B_piece K_number K_state Q_number) [(false, 0), (false, 1), (false, 2), (false, 3), (false, 4), (false, 5), (false, 6), (false, 7), (false, 8)] rfl (by decide) rfl rfl [] rfl (Nat.le_of_ble_eq_true rfl) ⟨Nat.le_of_ble_eq_true rfl, Nat.le_of_ble_eq_true rfl⟩ dX6_count_3 6 0 0 rfl ⟨rfl, rfl⟩ ?_
  refine vv_if_ne C 19 9 dX6_count_6 (by decide) rfl (fun hc => ?_) (fun hc => ?_)
  · replace h := ite_f hc h
    refine vv_aload_n C dX6_count_19 rfl 0 rfl 20 rfl ?_
    refine vv_iload_n C dX6_count_20 rfl 1 rfl 21 rfl ?_
    obtain ⟨r2, hr2, h⟩ := bnd_s h
    refine vv_callVi C (fun l => mt_X6_countFact l D c X W R B K Q T Y X_ropes R_hour R_broken B_number B_goods B_state B_piece K_number K_state Q_number a1 r2 hr2) gX6_count_X6_countFact rfl rfl rfl yd_X6_countFact ⟨Nat.le_of_ble_eq_true rfl, Nat.le_of_ble_eq_true rfl⟩ [0, 1, 2, 3, 4, 5, 6, 7, 8] rfl (by decide) 0 rfl rfl (wX6_count c X W R B K Q T Y X_ropes R_hour R_broken B_number B_goods B_state B_piece K_number K_state Q_number) [(true, 0), (true, 1), (true, 2), (true, 3), (true, 4), (true, 5), (true, 6), (true, 7), (true, 8)] rfl (by decide) rfl rfl [] rfl (Nat.le_of_ble_eq_true rfl) ⟨Nat.le_of_ble_eq_true rfl, Nat.le_of_ble_eq_true rfl⟩ dX6_count_21 24 0 0 rfl ⟨rfl, rfl⟩ ?_
    refine vv_widen (k := 1) (n := 6) (by decide) (by decide) ?_
    exact ret _ (Option.some.inj h).symm _ _ dX6_count_24
  · replace h := ite_t hc h
    exact thr 3 (Option.some.inj h).symm 75 238 79 "no such question" _ _ thX6_count_3 (by decide) dX6_count_9 dX6_count_12 dX6_count_13 dX6_count_15 dX6_count_18
abbrev wX6_cut (c : Nat → ClassId) (X : Nat → Nat) (W : Nat → Nat) (R : Nat → Nat) (B : Nat → Nat) (K : Nat → Nat) (Q : Nat → Nat) (T : Nat → Nat) (Y : Nat → Nat) (X_ropes : Int32) (R_hour : Int32) (R_broken : Int32) (B_number : Int32) (B_state : Nat → Int32) (B_piece : Nat → Int32) (Q_number : Int32) (Q_first : Nat → Int32) (Q_second : Nat → Int32) (Q_strength : Nat → Int32) (Q_wear : Nat → Int32) : va_W := [(X 0, .inr (6, [.ref (W 0), .ref (R 0), .ref (T 0), .ref (Y 0), .int X_ropes])), (R 0, .inr (3, [.ref (B 0), .ref (K 0), .ref (Q 0), .ref (R 1), .ref (R 2), .int R_hour, .int R_broken])), (B 0, .inr (0, [.ref (B 1), .ref (B 2), .ref (B 3), .ref (B 4), .ref (B 5), .ref (B 6), .ref (B 7), .ref (B 8), .ref (B 9), .ref (B 10), .ref (B 11), .int B_number])), aI c (B 8) 24 B_state, aI c (B 11) 24 B_piece, (Q 0, .inr (2, [.ref (Q 1), .ref (Q 2), .ref (Q 3), .ref (Q 4), .int Q_number])), aI c (Q 1) 48 Q_first, aI c (Q 2) 48 Q_second, aI c (Q 3) 48 Q_strength, aI c (Q 4) 48 Q_wear]
abbrev rmX6_cut : Room := { frames := 6, cells := 1, slots := 6, locals := 90 }
theorem yd_X6_cut : yX6_cut.cls = RX6 ∧ yX6_cut.cls ≠ "java/lang/invoke/MethodHandle" ∧ yX6_cut.cls ≠ "java/lang/invoke/VarHandle" ∧ (parseMethodDescriptor yX6_cut.desc).map (fun d => d.parameters.length) = some 2 := by decide +kernel
theorem kwX6_cut_5 : Cond.fieldLink RX6 19 "BarrelRaft" "raft" "LBarrelRaft$Raft;" ∈ wsX6_cut := List.mem_of_getElem? (i := 5) rfl
set_option maxRecDepth 20000 in
theorem kinX6_cut_X6 : ∀ w ∈ u_ws RX6 TX6 5, w ∈ wsX6_cut := by decide +kernel
theorem kwX6_cut_6 : Cond.fieldLink RX6 94 "BarrelRaft$Raft" "barrels" "LBarrelRaft$Barrels;" ∈ wsX6_cut := List.mem_of_getElem? (i := 6) rfl
set_option maxRecDepth 20000 in
theorem kinX6_cut_X3 : ∀ w ∈ u_ws RX3 TX3 7, w ∈ wsX6_cut := by decide +kernel
theorem kwX6_cut_1 : Cond.classLink RX6 75 "java/lang/IndexOutOfBoundsException" ∈ wsX6_cut := List.mem_of_getElem? (i := 1) rfl
theorem kwX6_cut_2 : Cond.initialized "java/lang/IndexOutOfBoundsException" ∈ wsX6_cut := List.mem_of_getElem? (i := 2) rfl
theorem kwX6_cut_7 : Cond.fieldLink RX6 136 "BarrelRaft$Raft" "lashings" "LBarrelRaft$Lashings;" ∈ wsX6_cut := List.mem_of_getElem? (i := 7) rfl
theorem kwX6_cut_8 : Cond.fieldLink RX6 33 "BarrelRaft" "ropes" "I" ∈ wsX6_cut := List.mem_of_getElem? (i := 8) rfl
theorem kwX6_cut_9 : Cond.methodLink RX6 140 Lib.Math.min.name ∈ wsX6_cut := List.mem_of_getElem? (i := 9) rfl
theorem kwX6_cut_10 : Cond.static Lib.Math.min.name ∈ wsX6_cut := List.mem_of_getElem? (i := 10) rfl
theorem kwX6_cut_11 : Cond.initialized "java/lang/Math" ∈ wsX6_cut := List.mem_of_getElem? (i := 11) rfl
theorem kwX6_cut_12 : Cond.code Lib.Math.min.name Lib.Math.min.code 2 (some .int) ∈ wsX6_cut := List.mem_of_getElem? (i := 12) rfl
theorem kwX6_cut_3 : Cond.classLink RX6 59 "java/lang/IllegalStateException" ∈ wsX6_cut := List.mem_of_getElem? (i := 3) rfl
theorem kwX6_cut_4 : Cond.initialized "java/lang/IllegalStateException" ∈ wsX6_cut := List.mem_of_getElem? (i := 4) rfl
def jX6_cut (X_ropes : Int32) (B_number : Int32) (B_state : Nat → Int32) (B_piece : Nat → Int32) (Q_number : Int32) (Q_first : Nat → Int32) (Q_second : Nat → Int32) (Q_strength : Nat → Int32) (Q_wear : Nat → Int32) (a1 : Int32) (a2 : Int32) : Option (Nat ⊕ (Int32 × Int32 × (Nat → Int32) × Int32 × (Nat → Int32) × (Nat → Int32) × (Nat → Int32) × (Nat → Int32))) :=
  bnd (jX0_has B_number a1) (fun r1 => (if r1 = 0 then some (Sum.inl 3) else bnd (jX0_has B_number a2) (fun r2 => (if r2 = 0 then some (Sum.inl 3) else bnd (jX2_find Q_number Q_first Q_second a1 a2) (fun r3 => (if 0 ≤ r3 then bnd (jX2_undo Q_strength r3) (fun r4 => bnd (jX2_sweep Q_number Q_first Q_second r4 Q_wear) (fun r5 => bnd (jX3_findPieces B_number B_state B_piece r5.1 r5.2.1 r5.2.2.1) (fun r6 => some (Sum.inr (mmin 40 (X_ropes + 1), mmin 40 (X_ropes + 1), r6, r5.1, r5.2.1, r5.2.2.1, r5.2.2.2.1, r5.2.2.2.2))))) else some (Sum.inl 2)))))))
theorem thX6_cut_3 : ThOK wsX6_cut rmX6_cut 3 75 79 := ⟨kwX6_cut_1, kwX6_cut_2, fun w hw => List.mem_cons_of_mem _ (List.mem_append_left _ (List.mem_append_right _ hw)), th3_n, th3_o, by decide, by decide, by decide, by decide, by decide⟩
theorem thX6_cut_2 : ThOK wsX6_cut rmX6_cut 2 59 63 := ⟨kwX6_cut_3, kwX6_cut_4, fun w hw => List.mem_cons_of_mem _ (List.mem_append_right _ hw), th2_n, th2_o, by decide, by decide, by decide, by decide, by decide⟩
set_option maxHeartbeats 4000000 in
set_option maxRecDepth 100000 in
theorem mt_X6_cut (l : Launch) (hfl : l.stackTraces = false) (D : va_G) (c : Nat → ClassId) (X : Nat → Nat) (W : Nat → Nat) (R : Nat → Nat) (B : Nat → Nat) (K : Nat → Nat) (Q : Nat → Nat) (T : Nat → Nat) (Y : Nat → Nat) (X_ropes : Int32) (R_hour : Int32) (R_broken : Int32) (B_number : Int32) (B_state : Nat → Int32) (B_piece : Nat → Int32) (Q_number : Int32) (Q_first : Nat → Int32) (Q_second : Nat → Int32) (Q_strength : Nat → Int32) (Q_wear : Nat → Int32) (a1 : Int32) (a2 : Int32) (q0 : Nat ⊕ (Int32 × Int32 × (Nat → Int32) × Int32 × (Nat → Int32) × (Nat → Int32) × (Nat → Int32) × (Nat → Int32))) (h : jX6_cut X_ropes B_number B_state B_piece Q_number Q_first Q_second Q_strength Q_wear a1 a2 = some q0) : DXi l yX6_cut wsX6_cut rmX6_cut D c (wX6_cut c X W R B K Q T Y X_ropes R_hour R_broken B_number B_state B_piece Q_number Q_first Q_second Q_strength Q_wear) [.ref (X 0), .int a1, .int a2] q0 (fun (q0 : Int32 × Int32 × (Nat → Int32) × Int32 × (Nat → Int32) × (Nat → Int32) × (Nat → Int32) × (Nat → Int32)) => q0.1) (fun q0 => (wX6_cut c X W R B K Q T Y q0.2.1 R_hour R_broken B_number B_state q0.2.2.1 q0.2.2.2.1 q0.2.2.2.2.1 q0.2.2.2.2.2.1 q0.2.2.2.2.2.2.1 q0.2.2.2.2.2.2.2)) 1 6 := by
  refine DXi_of (cc := cX6_cut) (nL := 4) rfl (by decide) rfl (Nat.le_of_ble_eq_true rfl) hfl ⟨by decide, by decide⟩ (fun g C ret thr => ?_)
  unfold jX6_cut at h
  refine vv_lv [0, 1, 2] [(0, .ref (X 0)), (1, .int a1), (2, .int a2)] rfl ?_
  refine vv_aload_n C dX6_cut_0 rfl 0 rfl 1 rfl ?_
  refine vv_get C (q0 := 0) (ci := 6) (k := 1) kinX6_cut_X6 rfl rfl (by decide) kwX6_cut_5 rfl rfl dX6_cut_1 4 rfl ?_
  refine vv_get C (q0 := 1) (ci := 3) (k := 0) kinX6_cut_X3 rfl rfl (by decide) kwX6_cut_6 rfl rfl dX6_cut_4 7 rfl ?_
  refine vv_iload_n C dX6_cut_7 rfl 1 rfl 8 rfl ?_
  obtain ⟨r1, hr1, h⟩ := bnd_s h
  refine vv_callVi C (fun l => mt_X0_has l D c B B_number a1 r1 hr1) gX6_cut_X0_has rfl rfl rfl yd_X0_has ⟨Nat.le_of_ble_eq_true rfl, Nat.le_of_ble_eq_true rfl⟩ [2] rfl (by decide) 0 rfl rfl (wX6_cut c X W R B K Q T Y X_ropes R_hour R_broken B_number B_state B_piece Q_number Q_first Q_second Q_strength Q_wear) [(false, 0), (false, 1), (true, 0), (false, 3), (false, 4), (false, 5), (false, 6), (false, 7), (false, 8), (false, 9)] rfl (by decide) rfl rfl [] rfl (Nat.le_of_ble_eq_true rfl) ⟨Nat.le_of_ble_eq_true rfl, Nat.le_of_ble_eq_true rfl⟩ dX6_cut_8 11 0 0 rfl ⟨rfl, rfl⟩ ?_
  refine vv_if_eq C 28 14 dX6_cut_11 (by decide) rfl (fun hc => ?_) (fun hc => ?_)
  · replace h := ite_t hc h
    exact thr 3 (Option.some.inj h).symm 75 127 79 "no such barrel" _ _ thX6_cut_3 (by decide) dX6_cut_28 dX6_cut_31 dX6_cut_32 dX6_cut_34 dX6_cut_37
  · replace h := ite_f hc h
    refine vv_aload_n C dX6_cut_14 rfl 0 rfl 15 rfl ?_
    refine vv_get C (q0 := 0) (ci := 6) (k := 1) kinX6_cut_X6 rfl rfl (by decide) kwX6_cut_5 rfl rfl dX6_cut_15 18 rfl ?_
    refine vv_get C (q0 := 1) (ci := 3) (k := 0) kinX6_cut_X3 rfl rfl (by decide) kwX6_cut_6 rfl rfl dX6_cut_18 21 rfl ?_
    refine vv_iload_n C dX6_cut_21 rfl 2 rfl 22 rfl ?_
    obtain ⟨r2, hr2, h⟩ := bnd_s h
    refine vv_callVi C (fun l => mt_X0_has l D c B B_number a2 r2 hr2) gX6_cut_X0_has rfl rfl rfl yd_X0_has ⟨Nat.le_of_ble_eq_true rfl, Nat.le_of_ble_eq_true rfl⟩ [2] rfl (by decide) 0 rfl rfl (wX6_cut c X W R B K Q T Y X_ropes R_hour R_broken B_number B_state B_piece Q_number Q_first Q_second Q_strength Q_wear) [(false, 0), (false, 1), (true, 0), (false, 3), (false, 4), (false, 5), (false, 6), (false, 7), (false, 8), (false, 9)] rfl (by decide) rfl rfl [] rfl (Nat.le_of_ble_eq_true rfl) ⟨Nat.le_of_ble_eq_true rfl, Nat.le_of_ble_eq_true rfl⟩ dX6_cut_22 25 0 0 rfl ⟨rfl, rfl⟩ ?_
    refine vv_if_ne C 38 28 dX6_cut_25 (by decide) rfl (fun hc => ?_) (fun hc => ?_)
    · replace h := ite_f hc h
      refine vv_aload_n C dX6_cut_38 rfl 0 rfl 39 rfl ?_
      refine vv_get C (q0 := 0) (ci := 6) (k := 1) kinX6_cut_X6 rfl rfl (by decide) kwX6_cut_5 rfl rfl dX6_cut_39 42 rfl ?_
      refine vv_get C (q0 := 1) (ci := 3) (k := 2) kinX6_cut_X3 rfl rfl (by decide) kwX6_cut_7 rfl rfl dX6_cut_42 45 rfl ?_
      refine vv_iload_n C dX6_cut_45 rfl 1 rfl 46 rfl ?_
      refine vv_iload_n C dX6_cut_46 rfl 2 rfl 47 rfl ?_
      obtain ⟨r3, hr3, h⟩ := bnd_s h
      refine vv_callVi C (fun l => mt_X2_find l D c Q Q_number Q_first Q_second a1 a2 r3 hr3) gX6_cut_X2_find rfl rfl rfl yd_X2_find ⟨Nat.le_of_ble_eq_true rfl, Nat.le_of_ble_eq_true rfl⟩ [5, 6, 7] rfl (by decide) 0 rfl rfl (wX6_cut c X W R B K Q T Y X_ropes R_hour R_broken B_number B_state B_piece Q_number Q_first Q_second Q_strength Q_wear) [(false, 0), (false, 1), (false, 2), (false, 3), (false, 4), (true, 0), (true, 1), (true, 2), (false, 8), (false, 9)] rfl (by decide) rfl rfl [] rfl (Nat.le_of_ble_eq_true rfl) ⟨Nat.le_of_ble_eq_true rfl, Nat.le_of_ble_eq_true rfl⟩ dX6_cut_47 50 0 0 rfl ⟨rfl, rfl⟩ ?_
      refine vv_istore_n C [(3, .int r3), (0, .ref (X 0)), (1, .int a1), (2, .int a2)] dX6_cut_50 rfl (by decide) rfl 51 rfl ?_
      refine vv_iload_n C dX6_cut_51 rfl 0 rfl 52 rfl ?_
      refine vv_if_ge C 65 55 dX6_cut_52 (by decide) rfl (fun hc => ?_) (fun hc => ?_)
      · replace h := ite_t hc h
        refine vv_aload_n C dX6_cut_65 rfl 1 rfl 66 rfl ?_
        refine vv_get C (q0 := 0) (ci := 6) (k := 1) kinX6_cut_X6 rfl rfl (by decide) kwX6_cut_5 rfl rfl dX6_cut_66 69 rfl ?_
        refine vv_get C (q0 := 1) (ci := 3) (k := 2) kinX6_cut_X3 rfl rfl (by decide) kwX6_cut_7 rfl rfl dX6_cut_69 72 rfl ?_
        refine vv_iload_n C dX6_cut_72 rfl 0 rfl 73 rfl ?_
        obtain ⟨r4, hr4, h⟩ := bnd_s h
        refine vv_callVv C (fun l => mt_X2_undo l D c Q Q_number Q_strength r3 r4 hr4) gX6_cut_X2_undo rfl rfl rfl yd_X2_undo ⟨Nat.le_of_ble_eq_true rfl, Nat.le_of_ble_eq_true rfl⟩ [5, 8] rfl (by decide) 0 rfl rfl (wX6_cut c X W R B K Q T Y X_ropes R_hour R_broken B_number B_state B_piece Q_number Q_first Q_second r4 Q_wear) [(false, 0), (false, 1), (false, 2), (false, 3), (false, 4), (true, 0), (false, 6), (false, 7), (true, 1), (false, 9)] rfl (by decide) rfl rfl [] rfl (Nat.le_of_ble_eq_true rfl) ⟨Nat.le_of_ble_eq_true rfl, Nat.le_of_ble_eq_true rfl⟩ dX6_cut_73 76 0 0 rfl ⟨rfl, rfl⟩ ?_
        refine vv_aload_n C dX6_cut_76 rfl 1 rfl 77 rfl ?_
        refine vv_get C (q0 := 0) (ci := 6) (k := 1) kinX6_cut_X6 rfl rfl (by decide) kwX6_cut_5 rfl rfl dX6_cut_77 80 rfl ?_
        refine vv_get C (q0 := 1) (ci := 3) (k := 2) kinX6_cut_X3 rfl rfl (by decide) kwX6_cut_7 rfl rfl dX6_cut_80 83 rfl ?_
        obtain ⟨r5, hr5, h⟩ := bnd_s h
        refine vv_callVv C (fun l => mt_X2_sweep l D c Q Q_number Q_first Q_second r4 Q_wear r5 hr5) gX6_cut_X2_sweep rfl rfl rfl yd_X2_sweep ⟨Nat.le_of_ble_eq_true rfl, Nat.le_of_ble_eq_true rfl⟩ [5, 6, 7, 8, 9] rfl (by decide) 0 rfl rfl (wX6_cut c X W R B K Q T Y X_ropes R_hour R_broken B_number B_state B_piece r5.1 r5.2.1 r5.2.2.1 r5.2.2.2.1 r5.2.2.2.2) [(false, 0), (false, 1), (false, 2), (false, 3), (false, 4), (true, 0), (true, 1), (true, 2), (true, 3), (true, 4)] rfl (by decide) rfl rfl [] rfl (Nat.le_of_ble_eq_true rfl) ⟨Nat.le_of_ble_eq_true rfl, Nat.le_of_ble_eq_true rfl⟩ dX6_cut_83 86 0 0 rfl ⟨rfl, rfl⟩ ?_
        refine vv_aload_n C dX6_cut_86 rfl 1 rfl 87 rfl ?_
        refine vv_get C (q0 := 0) (ci := 6) (k := 1) kinX6_cut_X6 rfl rfl (by decide) kwX6_cut_5 rfl rfl dX6_cut_87 90 rfl ?_
        obtain ⟨r6, hr6, h⟩ := bnd_s h
        refine vv_callVv C (fun l => mt_X3_findPieces l D c R B K Q R_hour R_broken B_number B_state B_piece r5.1 r5.2.1 r5.2.2.1 r6 hr6) gX6_cut_X3_findPieces rfl rfl rfl yd_X3_findPieces ⟨Nat.le_of_ble_eq_true rfl, Nat.le_of_ble_eq_true rfl⟩ [1, 2, 3, 4, 5, 6, 7] rfl (by decide) 0 rfl rfl (wX6_cut c X W R B K Q T Y X_ropes R_hour R_broken B_number B_state r6 r5.1 r5.2.1 r5.2.2.1 r5.2.2.2.1 r5.2.2.2.2) [(false, 0), (true, 0), (true, 1), (true, 2), (true, 3), (true, 4), (true, 5), (true, 6), (false, 8), (false, 9)] rfl (by decide) rfl rfl [] rfl (Nat.le_of_ble_eq_true rfl) ⟨Nat.le_of_ble_eq_true rfl, Nat.le_of_ble_eq_true rfl⟩ dX6_cut_90 93 0 0 rfl ⟨rfl, rfl⟩ ?_
        refine vv_aload_n C dX6_cut_93 rfl 1 rfl 94 rfl ?_
        refine vv_bipush C (v := 40) dX6_cut_94 (by decide) 96 rfl ?_
        refine vv_aload_n C dX6_cut_96 rfl 1 rfl 97 rfl ?_
        refine vv_get C (q0 := 0) (ci := 6) (k := 4) kinX6_cut_X6 rfl rfl (by decide) kwX6_cut_8 rfl rfl dX6_cut_97 100 rfl ?_
        refine vv_iconst C (v := 1) dX6_cut_100 (by decide) 101 rfl ?_
        refine vv_iadd C dX6_cut_101 102 rfl ?_
        refine vv_mmin C kwX6_cut_9 kwX6_cut_10 kwX6_cut_11 kwX6_cut_12 ⟨Nat.le_of_ble_eq_true rfl, Nat.le_of_ble_eq_true rfl⟩ ⟨Nat.le_of_ble_eq_true rfl, Nat.le_of_ble_eq_true rfl⟩ dX6_cut_102 105 rfl ?_
        refine vv_put C (q0 := 0) (ci := 6) (k := 4) (ty := .int) (wX6_cut c X W R B K Q T Y (mmin 40 (X_ropes + 1)) R_hour R_broken B_number B_state r6 r5.1 r5.2.1 r5.2.2.1 r5.2.2.2.1 r5.2.2.2.2) tyX6 tyX6_ok nmX6 kinX6_cut_X6 rfl rfl (by decide) kwX6_cut_8 rfl rfl rfl rfl rfl (Nat.le_of_ble_eq_true rfl) rfl dX6_cut_105 108 rfl ?_
        refine vv_aload_n C dX6_cut_108 rfl 1 rfl 109 rfl ?_
        refine vv_get C (q0 := 0) (ci := 6) (k := 4) kinX6_cut_X6 rfl rfl (by decide) kwX6_cut_8 rfl rfl dX6_cut_109 112 rfl ?_
        refine vv_widen (k := 1) (n := 6) (by decide) (by decide) ?_
        exact ret _ (Option.some.inj h).symm _ _ dX6_cut_112
      · replace h := ite_f hc h
        exact thr 2 (Option.some.inj h).symm 59 160 63 "no lashing" _ _ thX6_cut_2 (by decide) dX6_cut_55 dX6_cut_58 dX6_cut_59 dX6_cut_61 dX6_cut_64
    · replace h := ite_t hc h
      exact thr 3 (Option.some.inj h).symm 75 127 79 "no such barrel" _ _ thX6_cut_3 (by decide) dX6_cut_28 dX6_cut_31 dX6_cut_32 dX6_cut_34 dX6_cut_37
abbrev wX6_firm (c : Nat → ClassId) (X : Nat → Nat) (W : Nat → Nat) (R : Nat → Nat) (B : Nat → Nat) (K : Nat → Nat) (Q : Nat → Nat) (T : Nat → Nat) (Y : Nat → Nat) (X_ropes : Int32) (R_hour : Int32) (R_broken : Int32) (B_number : Int32) (Q_number : Int32) (Q_first : Nat → Int32) (Q_second : Nat → Int32) (Y_used : Nat → Int32) (Y_cameBy : Nat → Int32) (Y_reached : Nat → Int32) : va_W := [(X 0, .inr (6, [.ref (W 0), .ref (R 0), .ref (T 0), .ref (Y 0), .int X_ropes])), (R 0, .inr (3, [.ref (B 0), .ref (K 0), .ref (Q 0), .ref (R 1), .ref (R 2), .int R_hour, .int R_broken])), (B 0, .inr (0, [.ref (B 1), .ref (B 2), .ref (B 3), .ref (B 4), .ref (B 5), .ref (B 6), .ref (B 7), .ref (B 8), .ref (B 9), .ref (B 10), .ref (B 11), .int B_number])), (Q 0, .inr (2, [.ref (Q 1), .ref (Q 2), .ref (Q 3), .ref (Q 4), .int Q_number])), aI c (Q 1) 48 Q_first, aI c (Q 2) 48 Q_second, (Y 0, .inr (5, [.ref (Y 1), .ref (Y 2), .ref (Y 3), .ref (Y 4)])), aI c (Y 1) 48 Y_used, aI c (Y 2) 24 Y_cameBy, aI c (Y 3) 24 Y_reached]
abbrev rmX6_firm : Room := { frames := 6, cells := 1, slots := 6, locals := 99 }
theorem yd_X6_firm : yX6_firm.cls = RX6 ∧ yX6_firm.cls ≠ "java/lang/invoke/MethodHandle" ∧ yX6_firm.cls ≠ "java/lang/invoke/VarHandle" ∧ (parseMethodDescriptor yX6_firm.desc).map (fun d => d.parameters.length) = some 2 := by decide +kernel
theorem kwX6_firm_3 : Cond.fieldLink RX6 19 "BarrelRaft" "raft" "LBarrelRaft$Raft;" ∈ wsX6_firm := List.mem_of_getElem? (i := 3) rfl
set_option maxRecDepth 20000 in
theorem kinX6_firm_X6 : ∀ w ∈ u_ws RX6 TX6 5, w ∈ wsX6_firm := by decide +kernel
theorem kwX6_firm_4 : Cond.fieldLink RX6 94 "BarrelRaft$Raft" "barrels" "LBarrelRaft$Barrels;" ∈ wsX6_firm := List.mem_of_getElem? (i := 4) rfl
set_option maxRecDepth 20000 in
theorem kinX6_firm_X3 : ∀ w ∈ u_ws RX3 TX3 7, w ∈ wsX6_firm := by decide +kernel
theorem kwX6_firm_1 : Cond.classLink RX6 75 "java/lang/IndexOutOfBoundsException" ∈ wsX6_firm := List.mem_of_getElem? (i := 1) rfl
theorem kwX6_firm_2 : Cond.initialized "java/lang/IndexOutOfBoundsException" ∈ wsX6_firm := List.mem_of_getElem? (i := 2) rfl
theorem kwX6_firm_5 : Cond.fieldLink RX6 29 "BarrelRaft" "ways" "LBarrelRaft$Ways;" ∈ wsX6_firm := List.mem_of_getElem? (i := 5) rfl
theorem kwX6_firm_6 : Cond.fieldLink RX6 136 "BarrelRaft$Raft" "lashings" "LBarrelRaft$Lashings;" ∈ wsX6_firm := List.mem_of_getElem? (i := 6) rfl
def jX6_firm (B_number : Int32) (Q_number : Int32) (Q_first : Nat → Int32) (Q_second : Nat → Int32) (Y_used : Nat → Int32) (Y_cameBy : Nat → Int32) (Y_reached : Nat → Int32) (a1 : Int32) (a2 : Int32) : Option (Nat ⊕ (Int32 × (Nat → Int32) × (Nat → Int32) × (Nat → Int32))) :=
  bnd (jX0_has B_number a1) (fun r1 => (if r1 = 0 then some (Sum.inl 3) else bnd (jX0_has B_number a2) (fun r2 => (if r2 = 0 then some (Sum.inl 3) else (if a1 = a2 then some (Sum.inr ((-1), Y_used, Y_cameBy, Y_reached)) else bnd (jX5_countApart Y_used Y_cameBy Y_reached Q_number Q_first Q_second a1 a2) (fun r3 => some (Sum.inr (r3.1, r3.2.1, r3.2.2.1, r3.2.2.2))))))))
theorem thX6_firm_3 : ThOK wsX6_firm rmX6_firm 3 75 79 := ⟨kwX6_firm_1, kwX6_firm_2, fun w hw => List.mem_cons_of_mem _ (List.mem_append_right _ hw), th3_n, th3_o, by decide, by decide, by decide, by decide, by decide⟩
set_option maxHeartbeats 4000000 in
set_option maxRecDepth 100000 in
theorem mt_X6_firm (l : Launch) (hfl : l.stackTraces = false) (D : va_G) (c : Nat → ClassId) (X : Nat → Nat) (W : Nat → Nat) (R : Nat → Nat) (B : Nat → Nat) (K : Nat → Nat) (Q : Nat → Nat) (T : Nat → Nat) (Y : Nat → Nat) (X_ropes : Int32) (R_hour : Int32) (R_broken : Int32) (B_number : Int32) (Q_number : Int32) (Q_first : Nat → Int32) (Q_second : Nat → Int32) (Y_used : Nat → Int32) (Y_cameBy : Nat → Int32) (Y_reached : Nat → Int32) (a1 : Int32) (a2 : Int32) (q0 : Nat ⊕ (Int32 × (Nat → Int32) × (Nat → Int32) × (Nat → Int32))) (h : jX6_firm B_number Q_number Q_first Q_second Y_used Y_cameBy Y_reached a1 a2 = some q0) : DXi l yX6_firm wsX6_firm rmX6_firm D c (wX6_firm c X W R B K Q T Y X_ropes R_hour R_broken B_number Q_number Q_first Q_second Y_used Y_cameBy Y_reached) [.ref (X 0), .int a1, .int a2] q0 (fun (q0 : Int32 × (Nat → Int32) × (Nat → Int32) × (Nat → Int32)) => q0.1) (fun q0 => (wX6_firm c X W R B K Q T Y X_ropes R_hour R_broken B_number Q_number Q_first Q_second q0.2.1 q0.2.2.1 q0.2.2.2)) 1 6 := by
  refine DXi_of (cc := cX6_firm) (nL := 3) rfl (by decide) rfl (Nat.le_of_ble_eq_true rfl) hfl ⟨by decide, by decide⟩ (fun g C ret thr => ?_)
  unfold jX6_firm at h
  refine vv_lv [0, 1, 2] [(0, .ref (X 0)), (1, .int a1), (2, .int a2)] rfl ?_
  refine vv_aload_n C dX6_firm_0 rfl 0 rfl 1 rfl ?_
  refine vv_get C (q0 := 0) (ci := 6) (k := 1) kinX6_firm_X6 rfl rfl (by decide) kwX6_firm_3 rfl rfl dX6_firm_1 4 rfl ?_
  refine vv_get C (q0 := 1) (ci := 3) (k := 0) kinX6_firm_X3 rfl rfl (by decide) kwX6_firm_4 rfl rfl dX6_firm_4 7 rfl ?_
  refine vv_iload_n C dX6_firm_7 rfl 1 rfl 8 rfl ?_
  obtain ⟨r1, hr1, h⟩ := bnd_s h
  refine vv_callVi C (fun l => mt_X0_has l D c B B_number a1 r1 hr1) gX6_firm_X0_has rfl rfl rfl yd_X0_has ⟨Nat.le_of_ble_eq_true rfl, Nat.le_of_ble_eq_true rfl⟩ [2] rfl (by decide) 0 rfl rfl (wX6_firm c X W R B K Q T Y X_ropes R_hour R_broken B_number Q_number Q_first Q_second Y_used Y_cameBy Y_reached) [(false, 0), (false, 1), (true, 0), (false, 3), (false, 4), (false, 5), (false, 6), (false, 7), (false, 8), (false, 9)] rfl (by decide) rfl rfl [] rfl (Nat.le_of_ble_eq_true rfl) ⟨Nat.le_of_ble_eq_true rfl, Nat.le_of_ble_eq_true rfl⟩ dX6_firm_8 11 0 0 rfl ⟨rfl, rfl⟩ ?_
  refine vv_if_eq C 28 14 dX6_firm_11 (by decide) rfl (fun hc => ?_) (fun hc => ?_)
  · replace h := ite_t hc h
    exact thr 3 (Option.some.inj h).symm 75 127 79 "no such barrel" _ _ thX6_firm_3 (by decide) dX6_firm_28 dX6_firm_31 dX6_firm_32 dX6_firm_34 dX6_firm_37
  · replace h := ite_f hc h
    refine vv_aload_n C dX6_firm_14 rfl 0 rfl 15 rfl ?_
    refine vv_get C (q0 := 0) (ci := 6) (k := 1) kinX6_firm_X6 rfl rfl (by decide) kwX6_firm_3 rfl rfl dX6_firm_15 18 rfl ?_
    refine vv_get C (q0 := 1) (ci := 3) (k := 0) kinX6_firm_X3 rfl rfl (by decide) kwX6_firm_4 rfl rfl dX6_firm_18 21 rfl ?_
    refine vv_iload_n C dX6_firm_21 rfl 2 rfl 22 rfl ?_
    obtain ⟨r2, hr2, h⟩ := bnd_s h
    refine vv_callVi C (fun l => mt_X0_has l D c B B_number a2 r2 hr2) gX6_firm_X0_has rfl rfl rfl yd_X0_has ⟨Nat.le_of_ble_eq_true rfl, Nat.le_of_ble_eq_true rfl⟩ [2] rfl (by decide) 0 rfl rfl (wX6_firm c X W R B K Q T Y X_ropes R_hour R_broken B_number Q_number Q_first Q_second Y_used Y_cameBy Y_reached) [(false, 0), (false, 1), (true, 0), (false, 3), (false, 4), (false, 5), (false, 6), (false, 7), (false, 8), (false, 9)] rfl (by decide) rfl rfl [] rfl (Nat.le_of_ble_eq_true rfl) ⟨Nat.le_of_ble_eq_true rfl, Nat.le_of_ble_eq_true rfl⟩ dX6_firm_22 25 0 0 rfl ⟨rfl, rfl⟩ ?_
    refine vv_if_ne C 38 28 dX6_firm_25 (by decide) rfl (fun hc => ?_) (fun hc => ?_)
    · replace h := ite_f hc h
      refine vv_iload_n C dX6_firm_38 rfl 1 rfl 39 rfl ?_
      refine vv_iload_n C dX6_firm_39 rfl 2 rfl 40 rfl ?_
      refine vv_icmp_ne C 47 43 dX6_firm_40 (by decide) rfl (fun hc => ?_) (fun hc => ?_)
      · replace h := ite_f hc h
        refine vv_aload_n C dX6_firm_47 rfl 0 rfl 48 rfl ?_
        refine vv_get C (q0 := 0) (ci := 6) (k := 3) kinX6_firm_X6 rfl rfl (by decide) kwX6_firm_5 rfl rfl dX6_firm_48 51 rfl ?_
        refine vv_aload_n C dX6_firm_51 rfl 0 rfl 52 rfl ?_
        refine vv_get C (q0 := 0) (ci := 6) (k := 1) kinX6_firm_X6 rfl rfl (by decide) kwX6_firm_3 rfl rfl dX6_firm_52 55 rfl ?_
        refine vv_get C (q0 := 1) (ci := 3) (k := 2) kinX6_firm_X3 rfl rfl (by decide) kwX6_firm_6 rfl rfl dX6_firm_55 58 rfl ?_
        refine vv_iload_n C dX6_firm_58 rfl 1 rfl 59 rfl ?_
        refine vv_iload_n C dX6_firm_59 rfl 2 rfl 60 rfl ?_
        obtain ⟨r3, hr3, h⟩ := bnd_s h
        refine vv_callVi C (fun l => mt_X5_countApart l D c Y Q Y_used Y_cameBy Y_reached Q_number Q_first Q_second a1 a2 r3 hr3) gX6_firm_X5_countApart rfl rfl rfl yd_X5_countApart ⟨Nat.le_of_ble_eq_true rfl, Nat.le_of_ble_eq_true rfl⟩ [6, 7, 8, 9, 3, 4, 5] rfl (by decide) 0 rfl rfl (wX6_firm c X W R B K Q T Y X_ropes R_hour R_broken B_number Q_number Q_first Q_second r3.2.1 r3.2.2.1 r3.2.2.2) [(false, 0), (false, 1), (false, 2), (true, 4), (true, 5), (true, 6), (true, 0), (true, 1), (true, 2), (true, 3)] rfl (by decide) rfl rfl [] rfl (Nat.le_of_ble_eq_true rfl) ⟨Nat.le_of_ble_eq_true rfl, Nat.le_of_ble_eq_true rfl⟩ dX6_firm_60 63 0 0 rfl ⟨rfl, rfl⟩ ?_
        refine vv_widen (k := 1) (n := 6) (by decide) (by decide) ?_
        exact ret _ (Option.some.inj h).symm _ _ dX6_firm_63
      · replace h := ite_t hc h
        refine vv_iconst C (v := (-1)) dX6_firm_43 (by decide) 44 rfl ?_
        refine vv_goto C 63 dX6_firm_44 (by decide) ?_
        refine vv_widen (k := 1) (n := 6) (by decide) (by decide) ?_
        exact ret _ (Option.some.inj h).symm _ _ dX6_firm_63
    · replace h := ite_t hc h
      exact thr 3 (Option.some.inj h).symm 75 127 79 "no such barrel" _ _ thX6_firm_3 (by decide) dX6_firm_28 dX6_firm_31 dX6_firm_32 dX6_firm_34 dX6_firm_37
abbrev wX6_foresee (c : Nat → ClassId) (X : Nat → Nat) (W : Nat → Nat) (R : Nat → Nat) (B : Nat → Nat) (K : Nat → Nat) (Q : Nat → Nat) (T : Nat → Nat) (TB : Nat → Nat) (TK : Nat → Nat) (TQ : Nat → Nat) (Y : Nat → Nat) (X_ropes : Int32) (W_number : Int32) (W_windDx : Int32) (W_windDy : Int32) (W_dx : Nat → Int32) (W_dy : Nat → Int32) (W_wave : Nat → Int32) (W_counting : Nat → Int32) (R_hour : Int32) (R_broken : Int32) (B_number : Int32) (B_column : Nat → Int32) (B_row : Nat → Int32) (B_lift : Nat → Int32) (B_leak : Nat → Int32) (B_water : Nat → Int32) (B_goods : Nat → Int32) (B_people : Nat → Int32) (B_state : Nat → Int32) (B_x : Nat → Int32) (B_y : Nat → Int32) (B_piece : Nat → Int32) (K_number : Int32) (K_seat : Nat → Int32) (K_state : Nat → Int32) (Q_number : Int32) (Q_first : Nat → Int32) (Q_second : Nat → Int32) (Q_strength : Nat → Int32) (Q_wear : Nat → Int32) (T_hour : Int32) (T_broken : Int32) (T_pieceLift : Nat → Int32) (T_pieceLoad : Nat → Int32) (TB_number : Int32) (TB_column : Nat → Int32) (TB_row : Nat → Int32) (TB_lift : Nat → Int32) (TB_leak : Nat → Int32) (TB_water : Nat → Int32) (TB_goods : Nat → Int32) (TB_people : Nat → Int32) (TB_state : Nat → Int32) (TB_x : Nat → Int32) (TB_y : Nat → Int32) (TB_piece : Nat → Int32) (TK_number : Int32) (TK_seat : Nat → Int32) (TK_state : Nat → Int32) (TQ_number : Int32) (TQ_first : Nat → Int32) (TQ_second : Nat → Int32) (TQ_strength : Nat → Int32) (TQ_wear : Nat → Int32) : va_W := [(X 0, .inr (6, [.ref (W 0), .ref (R 0), .ref (T 0), .ref (Y 0), .int X_ropes])), (W 0, .inr (4, [.ref (W 1), .ref (W 2), .ref (W 3), .ref (W 4), .int W_number, .int W_windDx, .int W_windDy])), aI c (W 1) 8 W_dx, aI c (W 2) 8 W_dy, aI c (W 3) 8 W_wave, aI c (W 4) 600 W_counting, (R 0, .inr (3, [.ref (B 0), .ref (K 0), .ref (Q 0), .ref (R 1), .ref (R 2), .int R_hour, .int R_broken])), (B 0, .inr (0, [.ref (B 1), .ref (B 2), .ref (B 3), .ref (B 4), .ref (B 5), .ref (B 6), .ref (B 7), .ref (B 8), .ref (B 9), .ref (B 10), .ref (B 11), .int B_number])), aI c (B 1) 24 B_column, aI c (B 2) 24 B_row, aI c (B 3) 24 B_lift, aI c (B 4) 24 B_leak, aI c (B 5) 24 B_water, aI c (B 6) 24 B_goods, aI c (B 7) 24 B_people, aI c (B 8) 24 B_state, aI c (B 9) 24 B_x, aI c (B 10) 24 B_y, aI c (B 11) 24 B_piece, (K 0, .inr (1, [.ref (K 1), .ref (K 2), .int K_number])), aI c (K 1) 8 K_seat, aI c (K 2) 8 K_state, (Q 0, .inr (2, [.ref (Q 1), .ref (Q 2), .ref (Q 3), .ref (Q 4), .int Q_number])), aI c (Q 1) 48 Q_first, aI c (Q 2) 48 Q_second, aI c (Q 3) 48 Q_strength, aI c (Q 4) 48 Q_wear, (T 0, .inr (3, [.ref (TB 0), .ref (TK 0), .ref (TQ 0), .ref (T 1), .ref (T 2), .int T_hour, .int T_broken])), aI c (T 1) 24 T_pieceLift, aI c (T 2) 24 T_pieceLoad, (TB 0, .inr (0, [.ref (TB 1), .ref (TB 2), .ref (TB 3), .ref (TB 4), .ref (TB 5), .ref (TB 6), .ref (TB 7), .ref (TB 8), .ref (TB 9), .ref (TB 10), .ref (TB 11), .int TB_number])), aI c (TB 1) 24 TB_column, aI c (TB 2) 24 TB_row, aI c (TB 3) 24 TB_lift, aI c (TB 4) 24 TB_leak, aI c (TB 5) 24 TB_water, aI c (TB 6) 24 TB_goods, aI c (TB 7) 24 TB_people, aI c (TB 8) 24 TB_state, aI c (TB 9) 24 TB_x, aI c (TB 10) 24 TB_y, aI c (TB 11) 24 TB_piece, (TK 0, .inr (1, [.ref (TK 1), .ref (TK 2), .int TK_number])), aI c (TK 1) 8 TK_seat, aI c (TK 2) 8 TK_state, (TQ 0, .inr (2, [.ref (TQ 1), .ref (TQ 2), .ref (TQ 3), .ref (TQ 4), .int TQ_number])), aI c (TQ 1) 48 TQ_first, aI c (TQ 2) 48 TQ_second, aI c (TQ 3) 48 TQ_strength, aI c (TQ 4) 48 TQ_wear]
abbrev rmX6_foresee : Room := { frames := 6, cells := 1, slots := 6, locals := 115 }
theorem yd_X6_foresee : yX6_foresee.cls = RX6 ∧ yX6_foresee.cls ≠ "java/lang/invoke/MethodHandle" ∧ yX6_foresee.cls ≠ "java/lang/invoke/VarHandle" ∧ (parseMethodDescriptor yX6_foresee.desc).map (fun d => d.parameters.length) = some 2 := by decide +kernel
theorem kwX6_foresee_1 : Cond.classLink RX6 41 "java/lang/IllegalArgumentException" ∈ wsX6_foresee := List.mem_of_getElem? (i := 1) rfl
theorem kwX6_foresee_2 : Cond.initialized "java/lang/IllegalArgumentException" ∈ wsX6_foresee := List.mem_of_getElem? (i := 2) rfl
theorem kwX6_foresee_5 : Cond.fieldLink RX6 23 "BarrelRaft" "trial" "LBarrelRaft$Raft;" ∈ wsX6_foresee := List.mem_of_getElem? (i := 5) rfl
set_option maxRecDepth 20000 in
theorem kinX6_foresee_X6 : ∀ w ∈ u_ws RX6 TX6 5, w ∈ wsX6_foresee := by decide +kernel
theorem kwX6_foresee_6 : Cond.fieldLink RX6 19 "BarrelRaft" "raft" "LBarrelRaft$Raft;" ∈ wsX6_foresee := List.mem_of_getElem? (i := 6) rfl
theorem kwX6_foresee_7 : Cond.fieldLink RX6 12 "BarrelRaft" "waters" "LBarrelRaft$Waters;" ∈ wsX6_foresee := List.mem_of_getElem? (i := 7) rfl
theorem kwX6_foresee_8 : Cond.fieldLink RX6 94 "BarrelRaft$Raft" "barrels" "LBarrelRaft$Barrels;" ∈ wsX6_foresee := List.mem_of_getElem? (i := 8) rfl
set_option maxRecDepth 20000 in
theorem kinX6_foresee_X3 : ∀ w ∈ u_ws RX3 TX3 7, w ∈ wsX6_foresee := by decide +kernel
theorem kwX6_foresee_9 : Cond.fieldLink RX6 195 "BarrelRaft$Raft" "castaways" "LBarrelRaft$Castaways;" ∈ wsX6_foresee := List.mem_of_getElem? (i := 9) rfl
theorem kwX6_foresee_10 : Cond.fieldLink RX6 136 "BarrelRaft$Raft" "lashings" "LBarrelRaft$Lashings;" ∈ wsX6_foresee := List.mem_of_getElem? (i := 10) rfl
theorem kwX6_foresee_11 : Cond.fieldLink RX6 271 "BarrelRaft$Lashings" "number" "I" ∈ wsX6_foresee := List.mem_of_getElem? (i := 11) rfl
set_option maxRecDepth 20000 in
theorem kinX6_foresee_X2 : ∀ w ∈ u_ws RX2 TX2 5, w ∈ wsX6_foresee := by decide +kernel
theorem kwX6_foresee_3 : Cond.classLink RX6 75 "java/lang/IndexOutOfBoundsException" ∈ wsX6_foresee := List.mem_of_getElem? (i := 3) rfl
theorem kwX6_foresee_4 : Cond.initialized "java/lang/IndexOutOfBoundsException" ∈ wsX6_foresee := List.mem_of_getElem? (i := 4) rfl
def jX6_foresee (W_number : Int32) (W_windDx : Int32) (W_windDy : Int32) (W_dx : Nat → Int32) (W_dy : Nat → Int32) (W_wave : Nat → Int32) (W_counting : Nat → Int32) (R_hour : Int32) (R_broken : Int32) (B_number : Int32) (B_column : Nat → Int32) (B_row : Nat → Int32) (B_lift : Nat → Int32) (B_leak : Nat → Int32) (B_water : Nat → Int32) (B_goods : Nat → Int32) (B_people : Nat → Int32) (B_state : Nat → Int32) (B_x : Nat → Int32) (B_y : Nat → Int32) (B_piece : Nat → Int32) (K_number : Int32) (K_seat : Nat → Int32) (K_state : Nat → Int32) (Q_number : Int32) (Q_first : Nat → Int32) (Q_second : Nat → Int32) (Q_strength : Nat → Int32) (Q_wear : Nat → Int32) (T_hour : Int32) (T_broken : Int32) (T_pieceLift : Nat → Int32) (T_pieceLoad : Nat → Int32) (TB_number : Int32) (TB_column : Nat → Int32) (TB_row : Nat → Int32) (TB_lift : Nat → Int32) (TB_leak : Nat → Int32) (TB_water : Nat → Int32) (TB_goods : Nat → Int32) (TB_people : Nat → Int32) (TB_state : Nat → Int32) (TB_x : Nat → Int32) (TB_y : Nat → Int32) (TB_piece : Nat → Int32) (TK_number : Int32) (TK_seat : Nat → Int32) (TK_state : Nat → Int32) (TQ_number : Int32) (TQ_first : Nat → Int32) (TQ_second : Nat → Int32) (TQ_strength : Nat → Int32) (TQ_wear : Nat → Int32) (a1 : Int32) (a2 : Int32) : Option (Nat ⊕ (Int32 × Int32 × Int32 × (Nat → Int32) × (Nat → Int32) × Int32 × (Nat → Int32) × (Nat → Int32) × (Nat → Int32) × (Nat → Int32) × (Nat → Int32) × (Nat → Int32) × (Nat → Int32) × (Nat → Int32) × (Nat → Int32) × (Nat → Int32) × (Nat → Int32) × Int32 × (Nat → Int32) × (Nat → Int32) × Int32 × (Nat → Int32) × (Nat → Int32) × (Nat → Int32) × (Nat → Int32))) :=
  (if a1 < 1 then some (Sum.inl 1) else (if a1 ≤ 100 then bnd (jX6_isBelow a2 4) (fun r1 => (if r1 = 0 then some (Sum.inl 3) else bnd (jX3_copyFrom T_hour T_broken TB_number TB_column TB_row TB_lift TB_leak TB_water TB_goods TB_people TB_state TB_x TB_y TB_piece TK_number TK_seat TK_state TQ_number TQ_first TQ_second TQ_strength TQ_wear R_hour R_broken B_number B_column B_row B_lift B_leak B_water B_goods B_people B_state B_x B_y B_piece K_number K_seat K_state Q_number Q_first Q_second Q_strength Q_wear) (fun r2 => bnd (jX3_passHours r2.1 r2.2.1 T_pieceLift T_pieceLoad r2.2.2.1 r2.2.2.2.2.2.1 r2.2.2.2.2.2.2.1 r2.2.2.2.2.2.2.2.1 r2.2.2.2.2.2.2.2.2.1 r2.2.2.2.2.2.2.2.2.2.1 r2.2.2.2.2.2.2.2.2.2.2.1 r2.2.2.2.2.2.2.2.2.2.2.2.1 r2.2.2.2.2.2.2.2.2.2.2.2.2.1 r2.2.2.2.2.2.2.2.2.2.2.2.2.2.1 r2.2.2.2.2.2.2.2.2.2.2.2.2.2.2.1 r2.2.2.2.2.2.2.2.2.2.2.2.2.2.2.2.1 r2.2.2.2.2.2.2.2.2.2.2.2.2.2.2.2.2.1 r2.2.2.2.2.2.2.2.2.2.2.2.2.2.2.2.2.2.1 r2.2.2.2.2.2.2.2.2.2.2.2.2.2.2.2.2.2.2.1 r2.2.2.2.2.2.2.2.2.2.2.2.2.2.2.2.2.2.2.2.1 r2.2.2.2.2.2.2.2.2.2.2.2.2.2.2.2.2.2.2.2.2.1 r2.2.2.2.2.2.2.2.2.2.2.2.2.2.2.2.2.2.2.2.2.2 W_number W_windDx W_windDy W_dx W_dy W_wave W_counting a1) (fun r3 => (if a2 = 0 then bnd (jX0_countOf r2.2.2.1 r3.2.2.2.2.2.2.2.1 0) (fun r4 => some (Sum.inr (r4, r3.1, r3.2.1, r3.2.2.1, r3.2.2.2.1, r2.2.2.1, r2.2.2.2.1, r2.2.2.2.2.1, r2.2.2.2.2.2.1, r2.2.2.2.2.2.2.1, r3.2.2.2.2.1, r3.2.2.2.2.2.1, r3.2.2.2.2.2.2.1, r3.2.2.2.2.2.2.2.1, r3.2.2.2.2.2.2.2.2.1, r3.2.2.2.2.2.2.2.2.2.1, r3.2.2.2.2.2.2.2.2.2.2.1, r2.2.2.2.2.2.2.2.2.2.2.2.2.2.2.1, r3.2.2.2.2.2.2.2.2.2.2.2.1, r3.2.2.2.2.2.2.2.2.2.2.2.2.1, r3.2.2.2.2.2.2.2.2.2.2.2.2.2.1, r3.2.2.2.2.2.2.2.2.2.2.2.2.2.2.1, r3.2.2.2.2.2.2.2.2.2.2.2.2.2.2.2.1, r3.2.2.2.2.2.2.2.2.2.2.2.2.2.2.2.2.1, r3.2.2.2.2.2.2.2.2.2.2.2.2.2.2.2.2.2))) else (if a2 = 1 then bnd (jX1_countOf r2.2.2.2.2.2.2.2.2.2.2.2.2.2.2.1 r3.2.2.2.2.2.2.2.2.2.2.2.2.1 2) (fun r5 => some (Sum.inr (r5, r3.1, r3.2.1, r3.2.2.1, r3.2.2.2.1, r2.2.2.1, r2.2.2.2.1, r2.2.2.2.2.1, r2.2.2.2.2.2.1, r2.2.2.2.2.2.2.1, r3.2.2.2.2.1, r3.2.2.2.2.2.1, r3.2.2.2.2.2.2.1, r3.2.2.2.2.2.2.2.1, r3.2.2.2.2.2.2.2.2.1, r3.2.2.2.2.2.2.2.2.2.1, r3.2.2.2.2.2.2.2.2.2.2.1, r2.2.2.2.2.2.2.2.2.2.2.2.2.2.2.1, r3.2.2.2.2.2.2.2.2.2.2.2.1, r3.2.2.2.2.2.2.2.2.2.2.2.2.1, r3.2.2.2.2.2.2.2.2.2.2.2.2.2.1, r3.2.2.2.2.2.2.2.2.2.2.2.2.2.2.1, r3.2.2.2.2.2.2.2.2.2.2.2.2.2.2.2.1, r3.2.2.2.2.2.2.2.2.2.2.2.2.2.2.2.2.1, r3.2.2.2.2.2.2.2.2.2.2.2.2.2.2.2.2.2))) else (if a2 = 2 then bnd (jX0_pieces r2.2.2.1 r3.2.2.2.2.2.2.2.2.2.2.1) (fun r6 => some (Sum.inr (r6, r3.1, r3.2.1, r3.2.2.1, r3.2.2.2.1, r2.2.2.1, r2.2.2.2.1, r2.2.2.2.2.1, r2.2.2.2.2.2.1, r2.2.2.2.2.2.2.1, r3.2.2.2.2.1, r3.2.2.2.2.2.1, r3.2.2.2.2.2.2.1, r3.2.2.2.2.2.2.2.1, r3.2.2.2.2.2.2.2.2.1, r3.2.2.2.2.2.2.2.2.2.1, r3.2.2.2.2.2.2.2.2.2.2.1, r2.2.2.2.2.2.2.2.2.2.2.2.2.2.2.1, r3.2.2.2.2.2.2.2.2.2.2.2.1, r3.2.2.2.2.2.2.2.2.2.2.2.2.1, r3.2.2.2.2.2.2.2.2.2.2.2.2.2.1, r3.2.2.2.2.2.2.2.2.2.2.2.2.2.2.1, r3.2.2.2.2.2.2.2.2.2.2.2.2.2.2.2.1, r3.2.2.2.2.2.2.2.2.2.2.2.2.2.2.2.2.1, r3.2.2.2.2.2.2.2.2.2.2.2.2.2.2.2.2.2))) else some (Sum.inr (r3.2.2.2.2.2.2.2.2.2.2.2.2.2.1, r3.1, r3.2.1, r3.2.2.1, r3.2.2.2.1, r2.2.2.1, r2.2.2.2.1, r2.2.2.2.2.1, r2.2.2.2.2.2.1, r2.2.2.2.2.2.2.1, r3.2.2.2.2.1, r3.2.2.2.2.2.1, r3.2.2.2.2.2.2.1, r3.2.2.2.2.2.2.2.1, r3.2.2.2.2.2.2.2.2.1, r3.2.2.2.2.2.2.2.2.2.1, r3.2.2.2.2.2.2.2.2.2.2.1, r2.2.2.2.2.2.2.2.2.2.2.2.2.2.2.1, r3.2.2.2.2.2.2.2.2.2.2.2.1, r3.2.2.2.2.2.2.2.2.2.2.2.2.1, r3.2.2.2.2.2.2.2.2.2.2.2.2.2.1, r3.2.2.2.2.2.2.2.2.2.2.2.2.2.2.1, r3.2.2.2.2.2.2.2.2.2.2.2.2.2.2.2.1, r3.2.2.2.2.2.2.2.2.2.2.2.2.2.2.2.2.1, r3.2.2.2.2.2.2.2.2.2.2.2.2.2.2.2.2.2))))))))) else some (Sum.inl 1)))
theorem thX6_foresee_1 : ThOK wsX6_foresee rmX6_foresee 1 41 45 := ⟨kwX6_foresee_1, kwX6_foresee_2, fun w hw => List.mem_cons_of_mem _ (List.mem_append_left _ (List.mem_append_right _ hw)), th1_n, th1_o, by decide, by decide, by decide, by decide, by decide⟩
theorem thX6_foresee_3 : ThOK wsX6_foresee rmX6_foresee 3 75 79 := ⟨kwX6_foresee_3, kwX6_foresee_4, fun w hw => List.mem_cons_of_mem _ (List.mem_append_right _ hw), th3_n, th3_o, by decide, by decide, by decide, by decide, by decide⟩
set_option maxHeartbeats 4000000 in
set_option maxRecDepth 100000 in
theorem mt_X6_foresee (l : Launch) (hfl : l.stackTraces = false) (D : va_G) (c : Nat → ClassId) (X : Nat → Nat) (W : Nat → Nat) (R : Nat → Nat) (B : Nat → Nat) (K : Nat → Nat) (Q : Nat → Nat) (T : Nat → Nat) (TB : Nat → Nat) (TK : Nat → Nat) (TQ : Nat → Nat) (Y : Nat → Nat) (X_ropes : Int32) (W_number : Int32) (W_windDx : Int32) (W_windDy : Int32) (W_dx : Nat → Int32) (W_dy : Nat → Int32) (W_wave : Nat → Int32) (W_counting : Nat → Int32) (R_hour : Int32) (R_broken : Int32) (B_number : Int32) (B_column : Nat → Int32) (B_row : Nat → Int32) (B_lift : Nat → Int32) (B_leak : Nat → Int32) (B_water : Nat → Int32) (B_goods : Nat → Int32) (B_people : Nat → Int32) (B_state : Nat → Int32) (B_x : Nat → Int32) (B_y : Nat → Int32) (B_piece : Nat → Int32) (K_number : Int32) (K_seat : Nat → Int32) (K_state : Nat → Int32) (Q_number : Int32) (Q_first : Nat → Int32) (Q_second : Nat → Int32) (Q_strength : Nat → Int32) (Q_wear : Nat → Int32) (T_hour : Int32) (T_broken : Int32) (T_pieceLift : Nat → Int32) (T_pieceLoad : Nat → Int32) (TB_number : Int32) (TB_column : Nat → Int32) (TB_row : Nat → Int32) (TB_lift : Nat → Int32) (TB_leak : Nat → Int32) (TB_water : Nat → Int32) (TB_goods : Nat → Int32) (TB_people : Nat → Int32) (TB_state : Nat → Int32) (TB_x : Nat → Int32) (TB_y : Nat → Int32) (TB_piece : Nat → Int32) (TK_number : Int32) (TK_seat : Nat → Int32) (TK_state : Nat → Int32) (TQ_number : Int32) (TQ_first : Nat → Int32) (TQ_second : Nat → Int32) (TQ_strength : Nat → Int32) (TQ_wear : Nat → Int32) (a1 : Int32) (a2 : Int32) (q0 : Nat ⊕ (Int32 × Int32 × Int32 × (Nat → Int32) × (Nat → Int32) × Int32 × (Nat → Int32) × (Nat → Int32) × (Nat → Int32) × (Nat → Int32) × (Nat → Int32) × (Nat → Int32) × (Nat → Int32) × (Nat → Int32) × (Nat → Int32) × (Nat → Int32) × (Nat → Int32) × Int32 × (Nat → Int32) × (Nat → Int32) × Int32 × (Nat → Int32) × (Nat → Int32) × (Nat → Int32) × (Nat → Int32))) (h : jX6_foresee W_number W_windDx W_windDy W_dx W_dy W_wave W_counting R_hour R_broken B_number B_column B_row B_lift B_leak B_water B_goods B_people B_state B_x B_y B_piece K_number K_seat K_state Q_number Q_first Q_second Q_strength Q_wear T_hour T_broken T_pieceLift T_pieceLoad TB_number TB_column TB_row TB_lift TB_leak TB_water TB_goods TB_people TB_state TB_x TB_y TB_piece TK_number TK_seat TK_state TQ_number TQ_first TQ_second TQ_strength TQ_wear a1 a2 = some q0) : DXi l yX6_foresee wsX6_foresee rmX6_foresee D c (wX6_foresee c X W R B K Q T TB TK TQ Y X_ropes W_number W_windDx W_windDy W_dx W_dy W_wave W_counting R_hour R_broken B_number B_column B_row B_lift B_leak B_water B_goods B_people B_state B_x B_y B_piece K_number K_seat K_state Q_number Q_first Q_second Q_strength Q_wear T_hour T_broken T_pieceLift T_pieceLoad TB_number TB_column TB_row TB_lift TB_leak TB_water TB_goods TB_people TB_state TB_x TB_y TB_piece TK_number TK_seat TK_state TQ_number TQ_first TQ_second TQ_strength TQ_wear) [.ref (X 0), .int a1, .int a2] q0 (fun (q0 : Int32 × Int32 × Int32 × (Nat → Int32) × (Nat → Int32) × Int32 × (Nat → Int32) × (Nat → Int32) × (Nat → Int32) × (Nat → Int32) × (Nat → Int32) × (Nat → Int32) × (Nat → Int32) × (Nat → Int32) × (Nat → Int32) × (Nat → Int32) × (Nat → Int32) × Int32 × (Nat → Int32) × (Nat → Int32) × Int32 × (Nat → Int32) × (Nat → Int32) × (Nat → Int32) × (Nat → Int32)) => q0.1) (fun q0 => (wX6_foresee c X W R B K Q T TB TK TQ Y X_ropes W_number W_windDx W_windDy W_dx W_dy W_wave W_counting R_hour R_broken B_number B_column B_row B_lift B_leak B_water B_goods B_people B_state B_x B_y B_piece K_number K_seat K_state Q_number Q_first Q_second Q_strength Q_wear q0.2.1 q0.2.2.1 q0.2.2.2.1 q0.2.2.2.2.1 q0.2.2.2.2.2.1 q0.2.2.2.2.2.2.1 q0.2.2.2.2.2.2.2.1 q0.2.2.2.2.2.2.2.2.1 q0.2.2.2.2.2.2.2.2.2.1 q0.2.2.2.2.2.2.2.2.2.2.1 q0.2.2.2.2.2.2.2.2.2.2.2.1 q0.2.2.2.2.2.2.2.2.2.2.2.2.1 q0.2.2.2.2.2.2.2.2.2.2.2.2.2.1 q0.2.2.2.2.2.2.2.2.2.2.2.2.2.2.1 q0.2.2.2.2.2.2.2.2.2.2.2.2.2.2.2.1 q0.2.2.2.2.2.2.2.2.2.2.2.2.2.2.2.2.1 q0.2.2.2.2.2.2.2.2.2.2.2.2.2.2.2.2.2.1 q0.2.2.2.2.2.2.2.2.2.2.2.2.2.2.2.2.2.2.1 q0.2.2.2.2.2.2.2.2.2.2.2.2.2.2.2.2.2.2.2.1 q0.2.2.2.2.2.2.2.2.2.2.2.2.2.2.2.2.2.2.2.2.1 q0.2.2.2.2.2.2.2.2.2.2.2.2.2.2.2.2.2.2.2.2.2.1 q0.2.2.2.2.2.2.2.2.2.2.2.2.2.2.2.2.2.2.2.2.2.2.1 q0.2.2.2.2.2.2.2.2.2.2.2.2.2.2.2.2.2.2.2.2.2.2.2.1 q0.2.2.2.2.2.2.2.2.2.2.2.2.2.2.2.2.2.2.2.2.2.2.2.2)) 1 6 := by
  refine DXi_of (cc := cX6_foresee) (nL := 3) rfl (by decide) rfl (Nat.le_of_ble_eq_true rfl) hfl ⟨by decide, by decide⟩ (fun g C ret thr => ?_)
  unfold jX6_foresee at h
  refine vv_lv [0, 1, 2] [(0, .ref (X 0)), (1, .int a1), (2, .int a2)] rfl ?_
  refine vv_iload_n C dX6_foresee_0 rfl 1 rfl 1 rfl ?_
  refine vv_iconst C (v := 1) dX6_foresee_1 (by decide) 2 rfl ?_
  refine vv_icmp_lt C 11 5 dX6_foresee_2 (by decide) rfl (fun hc => ?_) (fun hc => ?_)
  · replace h := ite_t hc h
    exact thr 1 (Option.some.inj h).symm 41 229 45 "no such hours" _ _ thX6_foresee_1 (by decide) dX6_foresee_11 dX6_foresee_14 dX6_foresee_15 dX6_foresee_17 dX6_foresee_20
  · replace h := ite_f hc h
    refine vv_iload_n C dX6_foresee_5 rfl 1 rfl 6 rfl ?_
    refine vv_bipush C (v := 100) dX6_foresee_6 (by decide) 8 rfl ?_
    refine vv_icmp_le C 21 11 dX6_foresee_8 (by decide) rfl (fun hc => ?_) (fun hc => ?_)
    · replace h := ite_t hc h
      refine vv_iload_n C dX6_foresee_21 rfl 2 rfl 22 rfl ?_
      refine vv_iconst C (v := 4) dX6_foresee_22 (by decide) 23 rfl ?_
      obtain ⟨r1, hr1, h⟩ := bnd_s h
      refine vv_callSi C (fun l => mt_X6_isBelow l D c a2 4 r1 hr1) gX6_foresee_X6_isBelow rfl rfl rfl yd_X6_isBelow ⟨Nat.le_of_ble_eq_true rfl, Nat.le_of_ble_eq_true rfl⟩ [] rfl (by decide) (wX6_foresee c X W R B K Q T TB TK TQ Y X_ropes W_number W_windDx W_windDy W_dx W_dy W_wave W_counting R_hour R_broken B_number B_column B_row B_lift B_leak B_water B_goods B_people B_state B_x B_y B_piece K_number K_seat K_state Q_number Q_first Q_second Q_strength Q_wear T_hour T_broken T_pieceLift T_pieceLoad TB_number TB_column TB_row TB_lift TB_leak TB_water TB_goods TB_people TB_state TB_x TB_y TB_piece TK_number TK_seat TK_state TQ_number TQ_first TQ_second TQ_strength TQ_wear) [(false, 0), (false, 1), (false, 2), (false, 3), (false, 4), (false, 5), (false, 6), (false, 7), (false, 8), (false, 9), (false, 10), (false, 11), (false, 12), (false, 13), (false, 14), (false, 15), (false, 16), (false, 17), (false, 18), (false, 19), (false, 20), (false, 21), (false, 22), (false, 23), (false, 24), (false, 25), (false, 26), (false, 27), (false, 28), (false, 29), (false, 30), (false, 31), (false, 32), (false, 33), (false, 34), (false, 35), (false, 36), (false, 37), (false, 38), (false, 39), (false, 40), (false, 41), (false, 42), (false, 43), (false, 44), (false, 45), (false, 46), (false, 47), (false, 48), (false, 49)] rfl (by decide) rfl rfl [] rfl (Nat.le_of_ble_eq_true rfl) ⟨Nat.le_of_ble_eq_true rfl, Nat.le_of_ble_eq_true rfl⟩ dX6_foresee_23 26 0 0 rfl ⟨rfl, rfl⟩ ?_
      refine vv_if_ne C 39 29 dX6_foresee_26 (by decide) rfl (fun hc => ?_) (fun hc => ?_)
      · replace h := ite_f hc h
        refine vv_aload_n C dX6_foresee_39 rfl 0 rfl 40 rfl ?_
        refine vv_get C (q0 := 0) (ci := 6) (k := 2) kinX6_foresee_X6 rfl rfl (by decide) kwX6_foresee_5 rfl rfl dX6_foresee_40 43 rfl ?_
        refine vv_aload_n C dX6_foresee_43 rfl 0 rfl 44 rfl ?_
        refine vv_get C (q0 := 0) (ci := 6) (k := 1) kinX6_foresee_X6 rfl rfl (by decide) kwX6_foresee_6 rfl rfl dX6_foresee_44 47 rfl ?_
        obtain ⟨r2, hr2, h⟩ := bnd_s h
        refine vv_callVv C (fun l => mt_X3_copyFrom l D c T TB TK TQ R B K Q T_hour T_broken TB_number TB_column TB_row TB_lift TB_leak TB_water TB_goods TB_people TB_state TB_x TB_y TB_piece TK_number TK_seat TK_state TQ_number TQ_first TQ_second TQ_strength TQ_wear R_hour R_broken B_number B_column B_row B_lift B_leak B_water B_goods B_people B_state B_x B_y B_piece K_number K_seat K_state Q_number Q_first Q_second Q_strength Q_wear r2 hr2) gX6_foresee_X3_copyFrom rfl rfl rfl yd_X3_copyFrom ⟨Nat.le_of_ble_eq_true rfl, Nat.le_of_ble_eq_true rfl⟩ [27, 30, 31, 32, 33, 34, 35, 36, 37, 38, 39, 40, 41, 42, 43, 44, 45, 46, 47, 48, 49, 6, 7, 8, 9, 10, 11, 12, 13, 14, 15, 16, 17, 18, 19, 20, 21, 22, 23, 24, 25, 26] rfl (by decide) 0 rfl rfl (wX6_foresee c X W R B K Q T TB TK TQ Y X_ropes W_number W_windDx W_windDy W_dx W_dy W_wave W_counting R_hour R_broken B_number B_column B_row B_lift B_leak B_water B_goods B_people B_state B_x B_y B_piece K_number K_seat K_state Q_number Q_first Q_second Q_strength Q_wear r2.1 r2.2.1 T_pieceLift T_pieceLoad r2.2.2.1 r2.2.2.2.1 r2.2.2.2.2.1 r2.2.2.2.2.2.1 r2.2.2.2.2.2.2.1 r2.2.2.2.2.2.2.2.1 r2.2.2.2.2.2.2.2.2.1 r2.2.2.2.2.2.2.2.2.2.1 r2.2.2.2.2.2.2.2.2.2.2.1 r2.2.2.2.2.2.2.2.2.2.2.2.1 r2.2.2.2.2.2.2.2.2.2.2.2.2.1 r2.2.2.2.2.2.2.2.2.2.2.2.2.2.1 r2.2.2.2.2.2.2.2.2.2.2.2.2.2.2.1 r2.2.2.2.2.2.2.2.2.2.2.2.2.2.2.2.1 r2.2.2.2.2.2.2.2.2.2.2.2.2.2.2.2.2.1 r2.2.2.2.2.2.2.2.2.2.2.2.2.2.2.2.2.2.1 r2.2.2.2.2.2.2.2.2.2.2.2.2.2.2.2.2.2.2.1 r2.2.2.2.2.2.2.2.2.2.2.2.2.2.2.2.2.2.2.2.1 r2.2.2.2.2.2.2.2.2.2.2.2.2.2.2.2.2.2.2.2.2.1 r2.2.2.2.2.2.2.2.2.2.2.2.2.2.2.2.2.2.2.2.2.2) [(false, 0), (false, 1), (false, 2), (false, 3), (false, 4), (false, 5), (true, 21), (true, 22), (true, 23), (true, 24), (true, 25), (true, 26), (true, 27), (true, 28), (true, 29), (true, 30), (true, 31), (true, 32), (true, 33), (true, 34), (true, 35), (true, 36), (true, 37), (true, 38), (true, 39), (true, 40), (true, 41), (true, 0), (false, 28), (false, 29), (true, 1), (true, 2), (true, 3), (true, 4), (true, 5), (true, 6), (true, 7), (true, 8), (true, 9), (true, 10), (true, 11), (true, 12), (true, 13), (true, 14), (true, 15), (true, 16), (true, 17), (true, 18), (true, 19), (true, 20)] rfl (by decide) rfl rfl [] rfl (Nat.le_of_ble_eq_true rfl) ⟨Nat.le_of_ble_eq_true rfl, Nat.le_of_ble_eq_true rfl⟩ dX6_foresee_47 50 0 0 rfl ⟨rfl, rfl⟩ ?_
        refine vv_aload_n C dX6_foresee_50 rfl 0 rfl 51 rfl ?_
        refine vv_get C (q0 := 0) (ci := 6) (k := 2) kinX6_foresee_X6 rfl rfl (by decide) kwX6_foresee_5 rfl rfl dX6_foresee_51 54 rfl ?_
        refine vv_iload_n C dX6_foresee_54 rfl 1 rfl 55 rfl ?_
        refine vv_aload_n C dX6_foresee_55 rfl 0 rfl 56 rfl ?_
        refine vv_get C (q0 := 0) (ci := 6) (k := 0) kinX6_foresee_X6 rfl rfl (by decide) kwX6_foresee_7 rfl rfl dX6_foresee_56 59 rfl ?_
        obtain ⟨r3, hr3, h⟩ := bnd_s h
        refine vv_callVv C (fun l => mt_X3_passHours l D c T TB TK TQ W r2.1 r2.2.1 T_pieceLift T_pieceLoad r2.2.2.1 r2.2.2.2.2.2.1 r2.2.2.2.2.2.2.1 r2.2.2.2.2.2.2.2.1 r2.2.2.2.2.2.2.2.2.1 r2.2.2.2.2.2.2.2.2.2.1 r2.2.2.2.2.2.2.2.2.2.2.1 r2.2.2.2.2.2.2.2.2.2.2.2.1 r2.2.2.2.2.2.2.2.2.2.2.2.2.1 r2.2.2.2.2.2.2.2.2.2.2.2.2.2.1 r2.2.2.2.2.2.2.2.2.2.2.2.2.2.2.1 r2.2.2.2.2.2.2.2.2.2.2.2.2.2.2.2.1 r2.2.2.2.2.2.2.2.2.2.2.2.2.2.2.2.2.1 r2.2.2.2.2.2.2.2.2.2.2.2.2.2.2.2.2.2.1 r2.2.2.2.2.2.2.2.2.2.2.2.2.2.2.2.2.2.2.1 r2.2.2.2.2.2.2.2.2.2.2.2.2.2.2.2.2.2.2.2.1 r2.2.2.2.2.2.2.2.2.2.2.2.2.2.2.2.2.2.2.2.2.1 r2.2.2.2.2.2.2.2.2.2.2.2.2.2.2.2.2.2.2.2.2.2 W_number W_windDx W_windDy W_dx W_dy W_wave W_counting a1 r3 hr3) gX6_foresee_X3_passHours rfl rfl rfl yd_X3_passHours ⟨Nat.le_of_ble_eq_true rfl, Nat.le_of_ble_eq_true rfl⟩ [27, 28, 29, 30, 33, 34, 35, 36, 37, 38, 39, 40, 41, 42, 43, 44, 45, 46, 47, 48, 49, 1, 2, 3, 4, 5] rfl (by decide) 0 rfl rfl (wX6_foresee c X W R B K Q T TB TK TQ Y X_ropes W_number W_windDx W_windDy W_dx W_dy W_wave W_counting R_hour R_broken B_number B_column B_row B_lift B_leak B_water B_goods B_people B_state B_x B_y B_piece K_number K_seat K_state Q_number Q_first Q_second Q_strength Q_wear r3.1 r3.2.1 r3.2.2.1 r3.2.2.2.1 r2.2.2.1 r2.2.2.2.1 r2.2.2.2.2.1 r2.2.2.2.2.2.1 r2.2.2.2.2.2.2.1 r3.2.2.2.2.1 r3.2.2.2.2.2.1 r3.2.2.2.2.2.2.1 r3.2.2.2.2.2.2.2.1 r3.2.2.2.2.2.2.2.2.1 r3.2.2.2.2.2.2.2.2.2.1 r3.2.2.2.2.2.2.2.2.2.2.1 r2.2.2.2.2.2.2.2.2.2.2.2.2.2.2.1 r3.2.2.2.2.2.2.2.2.2.2.2.1 r3.2.2.2.2.2.2.2.2.2.2.2.2.1 r3.2.2.2.2.2.2.2.2.2.2.2.2.2.1 r3.2.2.2.2.2.2.2.2.2.2.2.2.2.2.1 r3.2.2.2.2.2.2.2.2.2.2.2.2.2.2.2.1 r3.2.2.2.2.2.2.2.2.2.2.2.2.2.2.2.2.1 r3.2.2.2.2.2.2.2.2.2.2.2.2.2.2.2.2.2) [(false, 0), (true, 21), (true, 22), (true, 23), (true, 24), (true, 25), (false, 6), (false, 7), (false, 8), (false, 9), (false, 10), (false, 11), (false, 12), (false, 13), (false, 14), (false, 15), (false, 16), (false, 17), (false, 18), (false, 19), (false, 20), (false, 21), (false, 22), (false, 23), (false, 24), (false, 25), (false, 26), (true, 0), (true, 1), (true, 2), (true, 3), (false, 31), (false, 32), (true, 4), (true, 5), (true, 6), (true, 7), (true, 8), (true, 9), (true, 10), (true, 11), (true, 12), (true, 13), (true, 14), (true, 15), (true, 16), (true, 17), (true, 18), (true, 19), (true, 20)] rfl (by decide) rfl rfl [] rfl (Nat.le_of_ble_eq_true rfl) ⟨Nat.le_of_ble_eq_true rfl, Nat.le_of_ble_eq_true rfl⟩ dX6_foresee_59 62 0 0 rfl ⟨rfl, rfl⟩ ?_
        refine vv_iload_n C dX6_foresee_62 rfl 2 rfl 63 rfl ?_
        by_cases hn0 : a2 = 0
        · replace h := ite_t hn0 h
          refine vv_swIn C (off := 25) 88 dX6_foresee_63 (by rw [hn0]; decide) (by rw [hn0]; decide) (by rw [hn0]; rfl) (by decide) ?_
          refine vv_aload_n C dX6_foresee_88 rfl 0 rfl 89 rfl ?_
          refine vv_get C (q0 := 0) (ci := 6) (k := 2) kinX6_foresee_X6 rfl rfl (by decide) kwX6_foresee_5 rfl rfl dX6_foresee_89 92 rfl ?_
          refine vv_get C (q0 := 27) (ci := 3) (k := 0) kinX6_foresee_X3 rfl rfl (by decide) kwX6_foresee_8 rfl rfl dX6_foresee_92 95 rfl ?_
          refine vv_iconst C (v := 0) dX6_foresee_95 (by decide) 96 rfl ?_
          obtain ⟨r4, hr4, h⟩ := bnd_s h
          refine vv_callVi C (fun l => mt_X0_countOf l D c TB r2.2.2.1 r3.2.2.2.2.2.2.2.1 0 r4 hr4) gX6_foresee_X0_countOf rfl rfl rfl yd_X0_countOf ⟨Nat.le_of_ble_eq_true rfl, Nat.le_of_ble_eq_true rfl⟩ [30, 38] rfl (by decide) 0 rfl rfl (wX6_foresee c X W R B K Q T TB TK TQ Y X_ropes W_number W_windDx W_windDy W_dx W_dy W_wave W_counting R_hour R_broken B_number B_column B_row B_lift B_leak B_water B_goods B_people B_state B_x B_y B_piece K_number K_seat K_state Q_number Q_first Q_second Q_strength Q_wear r3.1 r3.2.1 r3.2.2.1 r3.2.2.2.1 r2.2.2.1 r2.2.2.2.1 r2.2.2.2.2.1 r2.2.2.2.2.2.1 r2.2.2.2.2.2.2.1 r3.2.2.2.2.1 r3.2.2.2.2.2.1 r3.2.2.2.2.2.2.1 r3.2.2.2.2.2.2.2.1 r3.2.2.2.2.2.2.2.2.1 r3.2.2.2.2.2.2.2.2.2.1 r3.2.2.2.2.2.2.2.2.2.2.1 r2.2.2.2.2.2.2.2.2.2.2.2.2.2.2.1 r3.2.2.2.2.2.2.2.2.2.2.2.1 r3.2.2.2.2.2.2.2.2.2.2.2.2.1 r3.2.2.2.2.2.2.2.2.2.2.2.2.2.1 r3.2.2.2.2.2.2.2.2.2.2.2.2.2.2.1 r3.2.2.2.2.2.2.2.2.2.2.2.2.2.2.2.1 r3.2.2.2.2.2.2.2.2.2.2.2.2.2.2.2.2.1 r3.2.2.2.2.2.2.2.2.2.2.2.2.2.2.2.2.2) [(false, 0), (false, 1), (false, 2), (false, 3), (false, 4), (false, 5), (false, 6), (false, 7), (false, 8), (false, 9), (false, 10), (false, 11), (false, 12), (false, 13), (false, 14), (false, 15), (false, 16), (false, 17), (false, 18), (false, 19), (false, 20), (false, 21), (false, 22), (false, 23), (false, 24), (false, 25), (false, 26), (false, 27), (false, 28), (false, 29), (true, 0), (false, 31), (false, 32), (false, 33), (false, 34), (false, 35), (false, 36), (false, 37), (true, 1), (false, 39), (false, 40), (false, 41), (false, 42), (false, 43), (false, 44), (false, 45), (false, 46), (false, 47), (false, 48), (false, 49)] rfl (by decide) rfl rfl [] rfl (Nat.le_of_ble_eq_true rfl) ⟨Nat.le_of_ble_eq_true rfl, Nat.le_of_ble_eq_true rfl⟩ dX6_foresee_96 99 0 0 rfl ⟨rfl, rfl⟩ ?_
          refine vv_widen (k := 1) (n := 6) (by decide) (by decide) ?_
          exact ret _ (Option.some.inj h).symm _ _ dX6_foresee_99
        · replace h := ite_f hn0 h
          by_cases hn1 : a2 = 1
          · replace h := ite_t hn1 h
            refine vv_swIn C (off := 37) 100 dX6_foresee_63 (by rw [hn1]; decide) (by rw [hn1]; decide) (by rw [hn1]; rfl) (by decide) ?_
            refine vv_aload_n C dX6_foresee_100 rfl 0 rfl 101 rfl ?_
            refine vv_get C (q0 := 0) (ci := 6) (k := 2) kinX6_foresee_X6 rfl rfl (by decide) kwX6_foresee_5 rfl rfl dX6_foresee_101 104 rfl ?_
            refine vv_get C (q0 := 27) (ci := 3) (k := 1) kinX6_foresee_X3 rfl rfl (by decide) kwX6_foresee_9 rfl rfl dX6_foresee_104 107 rfl ?_
            refine vv_iconst C (v := 2) dX6_foresee_107 (by decide) 108 rfl ?_
            obtain ⟨r5, hr5, h⟩ := bnd_s h
            refine vv_callVi C (fun l => mt_X1_countOf l D c TK r2.2.2.2.2.2.2.2.2.2.2.2.2.2.2.1 r3.2.2.2.2.2.2.2.2.2.2.2.2.1 2 r5 hr5) gX6_foresee_X1_countOf rfl rfl rfl yd_X1_countOf ⟨Nat.le_of_ble_eq_true rfl, Nat.le_of_ble_eq_true rfl⟩ [42, 44] rfl (by decide) 0 rfl rfl (wX6_foresee c X W R B K Q T TB TK TQ Y X_ropes W_number W_windDx W_windDy W_dx W_dy W_wave W_counting R_hour R_broken B_number B_column B_row B_lift B_leak B_water B_goods B_people B_state B_x B_y B_piece K_number K_seat K_state Q_number Q_first Q_second Q_strength Q_wear r3.1 r3.2.1 r3.2.2.1 r3.2.2.2.1 r2.2.2.1 r2.2.2.2.1 r2.2.2.2.2.1 r2.2.2.2.2.2.1 r2.2.2.2.2.2.2.1 r3.2.2.2.2.1 r3.2.2.2.2.2.1 r3.2.2.2.2.2.2.1 r3.2.2.2.2.2.2.2.1 r3.2.2.2.2.2.2.2.2.1 r3.2.2.2.2.2.2.2.2.2.1 r3.2.2.2.2.2.2.2.2.2.2.1 r2.2.2.2.2.2.2.2.2.2.2.2.2.2.2.1 r3.2.2.2.2.2.2.2.2.2.2.2.1 r3.2.2.2.2.2.2.2.2.2.2.2.2.1 r3.2.2.2.2.2.2.2.2.2.2.2.2.2.1 r3.2.2.2.2.2.2.2.2.2.2.2.2.2.2.1 r3.2.2.2.2.2.2.2.2.2.2.2.2.2.2.2.1 r3.2.2.2.2.2.2.2.2.2.2.2.2.2.2.2.2.1 r3.2.2.2.2.2.2.2.2.2.2.2.2.2.2.2.2.2) [(false, 0), (false, 1), (false, 2), (false, 3), (false, 4), (false, 5), (false, 6), (false, 7), (false, 8), (false, 9), (false, 10), (false, 11), (false, 12), (false, 13), (false, 14), (false, 15), (false, 16), (false, 17), (false, 18), (false, 19), (false, 20), (false, 21), (false, 22), (false, 23), (false, 24), (false, 25), (false, 26), (false, 27), (false, 28), (false, 29), (false, 30), (false, 31), (false, 32), (false, 33), (false, 34), (false, 35), (false, 36), (false, 37), (false, 38), (false, 39), (false, 40), (false, 41), (true, 0), (false, 43), (true, 1), (false, 45), (false, 46), (false, 47), (false, 48), (false, 49)] rfl (by decide) rfl rfl [] rfl (Nat.le_of_ble_eq_true rfl) ⟨Nat.le_of_ble_eq_true rfl, Nat.le_of_ble_eq_true rfl⟩ dX6_foresee_108 111 0 0 rfl ⟨rfl, rfl⟩ ?_
            refine vv_widen (k := 1) (n := 6) (by decide) (by decide) ?_
            exact ret _ (Option.some.inj h).symm _ _ dX6_foresee_111
          · replace h := ite_f hn1 h
            by_cases hn2 : a2 = 2
            · replace h := ite_t hn2 h
              refine vv_swIn C (off := 49) 112 dX6_foresee_63 (by rw [hn2]; decide) (by rw [hn2]; decide) (by rw [hn2]; rfl) (by decide) ?_
              refine vv_aload_n C dX6_foresee_112 rfl 0 rfl 113 rfl ?_
              refine vv_get C (q0 := 0) (ci := 6) (k := 2) kinX6_foresee_X6 rfl rfl (by decide) kwX6_foresee_5 rfl rfl dX6_foresee_113 116 rfl ?_
              refine vv_get C (q0 := 27) (ci := 3) (k := 0) kinX6_foresee_X3 rfl rfl (by decide) kwX6_foresee_8 rfl rfl dX6_foresee_116 119 rfl ?_
              obtain ⟨r6, hr6, h⟩ := bnd_s h
              refine vv_callVi C (fun l => mt_X0_pieces l D c TB r2.2.2.1 r3.2.2.2.2.2.2.2.2.2.2.1 r6 hr6) gX6_foresee_X0_pieces rfl rfl rfl yd_X0_pieces ⟨Nat.le_of_ble_eq_true rfl, Nat.le_of_ble_eq_true rfl⟩ [30, 41] rfl (by decide) 0 rfl rfl (wX6_foresee c X W R B K Q T TB TK TQ Y X_ropes W_number W_windDx W_windDy W_dx W_dy W_wave W_counting R_hour R_broken B_number B_column B_row B_lift B_leak B_water B_goods B_people B_state B_x B_y B_piece K_number K_seat K_state Q_number Q_first Q_second Q_strength Q_wear r3.1 r3.2.1 r3.2.2.1 r3.2.2.2.1 r2.2.2.1 r2.2.2.2.1 r2.2.2.2.2.1 r2.2.2.2.2.2.1 r2.2.2.2.2.2.2.1 r3.2.2.2.2.1 r3.2.2.2.2.2.1 r3.2.2.2.2.2.2.1 r3.2.2.2.2.2.2.2.1 r3.2.2.2.2.2.2.2.2.1 r3.2.2.2.2.2.2.2.2.2.1 r3.2.2.2.2.2.2.2.2.2.2.1 r2.2.2.2.2.2.2.2.2.2.2.2.2.2.2.1 r3.2.2.2.2.2.2.2.2.2.2.2.1 r3.2.2.2.2.2.2.2.2.2.2.2.2.1 r3.2.2.2.2.2.2.2.2.2.2.2.2.2.1 r3.2.2.2.2.2.2.2.2.2.2.2.2.2.2.1 r3.2.2.2.2.2.2.2.2.2.2.2.2.2.2.2.1 r3.2.2.2.2.2.2.2.2.2.2.2.2.2.2.2.2.1 r3.2.2.2.2.2.2.2.2.2.2.2.2.2.2.2.2.2) [(false, 0), (false, 1), (false, 2), (false, 3), (false, 4), (false, 5), (false, 6), (false, 7), (false, 8), (false, 9), (false, 10), (false, 11), (false, 12), (false, 13), (false, 14), (false, 15), (false, 16), (false, 17), (false, 18), (false, 19), (false, 20), (false, 21), (false, 22), (false, 23), (false, 24), (false, 25), (false, 26), (false, 27), (false, 28), (false, 29), (true, 0), (false, 31), (false, 32), (false, 33), (false, 34), (false, 35), (false, 36), (false, 37), (false, 38), (false, 39), (false, 40), (true, 1), (false, 42), (false, 43), (false, 44), (false, 45), (false, 46), (false, 47), (false, 48), (false, 49)] rfl (by decide) rfl rfl [] rfl (Nat.le_of_ble_eq_true rfl) ⟨Nat.le_of_ble_eq_true rfl, Nat.le_of_ble_eq_true rfl⟩ dX6_foresee_119 122 0 0 rfl ⟨rfl, rfl⟩ ?_
              refine vv_widen (k := 1) (n := 6) (by decide) (by decide) ?_
              exact ret _ (Option.some.inj h).symm _ _ dX6_foresee_122
            · replace h := ite_f hn2 h
              refine vv_swOut C 123 dX6_foresee_63 (sw_out (fun j hj => ?_)) (by decide) ?_
              · rcases (show j = 0 ∨ j = 1 ∨ j = 2 by omega) with rfl | rfl | rfl
                · exact fun e => hn0 (e.trans (by decide))
                · exact fun e => hn1 (e.trans (by decide))
                · exact fun e => hn2 (e.trans (by decide))
              · refine vv_aload_n C dX6_foresee_123 rfl 0 rfl 124 rfl ?_
                refine vv_get C (q0 := 0) (ci := 6) (k := 2) kinX6_foresee_X6 rfl rfl (by decide) kwX6_foresee_5 rfl rfl dX6_foresee_124 127 rfl ?_
                refine vv_get C (q0 := 27) (ci := 3) (k := 2) kinX6_foresee_X3 rfl rfl (by decide) kwX6_foresee_10 rfl rfl dX6_foresee_127 130 rfl ?_
                refine vv_get C (q0 := 45) (ci := 2) (k := 4) kinX6_foresee_X2 rfl rfl (by decide) kwX6_foresee_11 rfl rfl dX6_foresee_130 133 rfl ?_
                refine vv_widen (k := 1) (n := 6) (by decide) (by decide) ?_
                exact ret _ (Option.some.inj h).symm _ _ dX6_foresee_133
      · replace h := ite_t hc h
        exact thr 3 (Option.some.inj h).symm 75 238 79 "no such question" _ _ thX6_foresee_3 (by decide) dX6_foresee_29 dX6_foresee_32 dX6_foresee_33 dX6_foresee_35 dX6_foresee_38
    · replace h := ite_f hc h
      exact thr 1 (Option.some.inj h).symm 41 229 45 "no such hours" _ _ thX6_foresee_1 (by decide) dX6_foresee_11 dX6_foresee_14 dX6_foresee_15 dX6_foresee_17 dX6_foresee_20
abbrev wX6_go (c : Nat → ClassId) (X : Nat → Nat) (W : Nat → Nat) (R : Nat → Nat) (B : Nat → Nat) (K : Nat → Nat) (Q : Nat → Nat) (T : Nat → Nat) (Y : Nat → Nat) (X_ropes : Int32) (R_hour : Int32) (R_broken : Int32) (B_number : Int32) (B_people : Nat → Int32) (K_number : Int32) (K_seat : Nat → Int32) (Q_number : Int32) (Q_first : Nat → Int32) (Q_second : Nat → Int32) : va_W := [(X 0, .inr (6, [.ref (W 0), .ref (R 0), .ref (T 0), .ref (Y 0), .int X_ropes])), (R 0, .inr (3, [.ref (B 0), .ref (K 0), .ref (Q 0), .ref (R 1), .ref (R 2), .int R_hour, .int R_broken])), (B 0, .inr (0, [.ref (B 1), .ref (B 2), .ref (B 3), .ref (B 4), .ref (B 5), .ref (B 6), .ref (B 7), .ref (B 8), .ref (B 9), .ref (B 10), .ref (B 11), .int B_number])), aI c (B 7) 24 B_people, (K 0, .inr (1, [.ref (K 1), .ref (K 2), .int K_number])), aI c (K 1) 8 K_seat, (Q 0, .inr (2, [.ref (Q 1), .ref (Q 2), .ref (Q 3), .ref (Q 4), .int Q_number])), aI c (Q 1) 48 Q_first, aI c (Q 2) 48 Q_second]
abbrev rmX6_go : Room := { frames := 6, cells := 1, slots := 6, locals := 90 }
theorem yd_X6_go : yX6_go.cls = RX6 ∧ yX6_go.cls ≠ "java/lang/invoke/MethodHandle" ∧ yX6_go.cls ≠ "java/lang/invoke/VarHandle" ∧ (parseMethodDescriptor yX6_go.desc).map (fun d => d.parameters.length) = some 2 := by decide +kernel
theorem kwX6_go_5 : Cond.fieldLink RX6 19 "BarrelRaft" "raft" "LBarrelRaft$Raft;" ∈ wsX6_go := List.mem_of_getElem? (i := 5) rfl
set_option maxRecDepth 20000 in
theorem kinX6_go_X6 : ∀ w ∈ u_ws RX6 TX6 5, w ∈ wsX6_go := by decide +kernel
theorem kwX6_go_6 : Cond.fieldLink RX6 195 "BarrelRaft$Raft" "castaways" "LBarrelRaft$Castaways;" ∈ wsX6_go := List.mem_of_getElem? (i := 6) rfl
set_option maxRecDepth 20000 in
theorem kinX6_go_X3 : ∀ w ∈ u_ws RX3 TX3 7, w ∈ wsX6_go := by decide +kernel
theorem kwX6_go_1 : Cond.classLink RX6 75 "java/lang/IndexOutOfBoundsException" ∈ wsX6_go := List.mem_of_getElem? (i := 1) rfl
theorem kwX6_go_2 : Cond.initialized "java/lang/IndexOutOfBoundsException" ∈ wsX6_go := List.mem_of_getElem? (i := 2) rfl
theorem kwX6_go_7 : Cond.fieldLink RX6 94 "BarrelRaft$Raft" "barrels" "LBarrelRaft$Barrels;" ∈ wsX6_go := List.mem_of_getElem? (i := 7) rfl
theorem kwX6_go_8 : Cond.fieldLink RX6 212 "BarrelRaft$Castaways" "seat" "[I" ∈ wsX6_go := List.mem_of_getElem? (i := 8) rfl
set_option maxRecDepth 20000 in
theorem kinX6_go_X1 : ∀ w ∈ u_ws RX1 TX1 3, w ∈ wsX6_go := by decide +kernel
theorem kwX6_go_3 : Cond.classLink RX6 59 "java/lang/IllegalStateException" ∈ wsX6_go := List.mem_of_getElem? (i := 3) rfl
theorem kwX6_go_4 : Cond.initialized "java/lang/IllegalStateException" ∈ wsX6_go := List.mem_of_getElem? (i := 4) rfl
theorem kwX6_go_9 : Cond.fieldLink RX6 136 "BarrelRaft$Raft" "lashings" "LBarrelRaft$Lashings;" ∈ wsX6_go := List.mem_of_getElem? (i := 9) rfl
theorem kwX6_go_10 : Cond.fieldLink RX6 204 "BarrelRaft$Barrels" "people" "[I" ∈ wsX6_go := List.mem_of_getElem? (i := 10) rfl
set_option maxRecDepth 20000 in
theorem kinX6_go_X0 : ∀ w ∈ u_ws RX0 TX0 12, w ∈ wsX6_go := by decide +kernel
def jX6_go (B_number : Int32) (B_people : Nat → Int32) (K_number : Int32) (K_seat : Nat → Int32) (Q_number : Int32) (Q_first : Nat → Int32) (Q_second : Nat → Int32) (a1 : Int32) (a2 : Int32) : Option (Nat ⊕ (Int32 × (Nat → Int32) × (Nat → Int32))) :=
  bnd (jX1_has K_number a1) (fun r1 => (if r1 = 0 then some (Sum.inl 3) else bnd (jX0_has B_number a2) (fun r2 => (if r2 = 0 then some (Sum.inl 3) else chk 8 a1 (bnd (jX0_has B_number (rd K_seat a1)) (fun r3 => (if r3 = 0 then some (Sum.inl 2) else bnd (jX2_find Q_number Q_first Q_second (rd K_seat a1) a2) (fun r4 => (if 0 ≤ r4 then chk 24 (rd K_seat a1) (chk 24 (rd K_seat a1) (chk 24 a2 (chk 24 a2 (chk 8 a1 (chk 24 a2 (some (Sum.inr (rd (wr (wr B_people (rd K_seat a1) ((rd B_people (rd K_seat a1)) - 1)) a2 ((rd (wr B_people (rd K_seat a1) ((rd B_people (rd K_seat a1)) - 1)) a2) + 1)) a2, wr (wr B_people (rd K_seat a1) ((rd B_people (rd K_seat a1)) - 1)) a2 ((rd (wr B_people (rd K_seat a1) ((rd B_people (rd K_seat a1)) - 1)) a2) + 1), wr K_seat a1 a2)))))))) else some (Sum.inl 2))))))))))
theorem thX6_go_3 : ThOK wsX6_go rmX6_go 3 75 79 := ⟨kwX6_go_1, kwX6_go_2, fun w hw => List.mem_cons_of_mem _ (List.mem_append_left _ (List.mem_append_right _ hw)), th3_n, th3_o, by decide, by decide, by decide, by decide, by decide⟩
theorem thX6_go_2 : ThOK wsX6_go rmX6_go 2 59 63 := ⟨kwX6_go_3, kwX6_go_4, fun w hw => List.mem_cons_of_mem _ (List.mem_append_right _ hw), th2_n, th2_o, by decide, by decide, by decide, by decide, by decide⟩
set_option maxHeartbeats 4000000 in
set_option maxRecDepth 100000 in
theorem mt_X6_go (l : Launch) (hfl : l.stackTraces = false) (D : va_G) (c : Nat → ClassId) (X : Nat → Nat) (W : Nat → Nat) (R : Nat → Nat) (B : Nat → Nat) (K : Nat → Nat) (Q : Nat → Nat) (T : Nat → Nat) (Y : Nat → Nat) (X_ropes : Int32) (R_hour : Int32) (R_broken : Int32) (B_number : Int32) (B_people : Nat → Int32) (K_number : Int32) (K_seat : Nat → Int32) (Q_number : Int32) (Q_first : Nat → Int32) (Q_second : Nat → Int32) (a1 : Int32) (a2 : Int32) (q0 : Nat ⊕ (Int32 × (Nat → Int32) × (Nat → Int32))) (h : jX6_go B_number B_people K_number K_seat Q_number Q_first Q_second a1 a2 = some q0) : DXi l yX6_go wsX6_go rmX6_go D c (wX6_go c X W R B K Q T Y X_ropes R_hour R_broken B_number B_people K_number K_seat Q_number Q_first Q_second) [.ref (X 0), .int a1, .int a2] q0 (fun (q0 : Int32 × (Nat → Int32) × (Nat → Int32)) => q0.1) (fun q0 => (wX6_go c X W R B K Q T Y X_ropes R_hour R_broken B_number q0.2.1 K_number q0.2.2 Q_number Q_first Q_second)) 1 6 := by
  refine DXi_of (cc := cX6_go) (nL := 4) rfl (by decide) rfl (Nat.le_of_ble_eq_true rfl) hfl ⟨by decide, by decide⟩ (fun g C ret thr => ?_)
  unfold jX6_go at h
  refine vv_lv [0, 1, 2] [(0, .ref (X 0)), (1, .int a1), (2, .int a2)] rfl ?_
  refine vv_aload_n C dX6_go_0 rfl 0 rfl 1 rfl ?_
  refine vv_get C (q0 := 0) (ci := 6) (k := 1) kinX6_go_X6 rfl rfl (by decide) kwX6_go_5 rfl rfl dX6_go_1 4 rfl ?_
  refine vv_get C (q0 := 1) (ci := 3) (k := 1) kinX6_go_X3 rfl rfl (by decide) kwX6_go_6 rfl rfl dX6_go_4 7 rfl ?_
  refine vv_iload_n C dX6_go_7 rfl 1 rfl 8 rfl ?_
  obtain ⟨r1, hr1, h⟩ := bnd_s h
  refine vv_callVi C (fun l => mt_X1_has l D c K K_number a1 r1 hr1) gX6_go_X1_has rfl rfl rfl yd_X1_has ⟨Nat.le_of_ble_eq_true rfl, Nat.le_of_ble_eq_true rfl⟩ [4] rfl (by decide) 0 rfl rfl (wX6_go c X W R B K Q T Y X_ropes R_hour R_broken B_number B_people K_number K_seat Q_number Q_first Q_second) [(false, 0), (false, 1), (false, 2), (false, 3), (true, 0), (false, 5), (false, 6), (false, 7), (false, 8)] rfl (by decide) rfl rfl [] rfl (Nat.le_of_ble_eq_true rfl) ⟨Nat.le_of_ble_eq_true rfl, Nat.le_of_ble_eq_true rfl⟩ dX6_go_8 11 0 0 rfl ⟨rfl, rfl⟩ ?_
  refine vv_if_eq C 28 14 dX6_go_11 (by decide) rfl (fun hc => ?_) (fun hc => ?_)
  · replace h := ite_t hc h
    exact thr 3 (Option.some.inj h).symm 75 210 79 "no such castaway or barrel" _ _ thX6_go_3 (by decide) dX6_go_28 dX6_go_31 dX6_go_32 dX6_go_34 dX6_go_37
  · replace h := ite_f hc h
    refine vv_aload_n C dX6_go_14 rfl 0 rfl 15 rfl ?_
    refine vv_get C (q0 := 0) (ci := 6) (k := 1) kinX6_go_X6 rfl rfl (by decide) kwX6_go_5 rfl rfl dX6_go_15 18 rfl ?_
    refine vv_get C (q0 := 1) (ci := 3) (k := 0) kinX6_go_X3 rfl rfl (by decide) kwX6_go_7 rfl rfl dX6_go_18 21 rfl ?_
    refine vv_iload_n C dX6_go_21 rfl 2 rfl 22 rfl ?_
    obtain ⟨r2, hr2, h⟩ := bnd_s h
    refine vv_callVi C (fun l => mt_X0_has l D c B B_number a2 r2 hr2) gX6_go_X0_has rfl rfl rfl yd_X0_has ⟨Nat.le_of_ble_eq_true rfl, Nat.le_of_ble_eq_true rfl⟩ [2] rfl (by decide) 0 rfl rfl (wX6_go c X W R B K Q T Y X_ropes R_hour R_broken B_number B_people K_number K_seat Q_number Q_first Q_second) [(false, 0), (false, 1), (true, 0), (false, 3), (false, 4), (false, 5), (false, 6), (false, 7), (false, 8)] rfl (by decide) rfl rfl [] rfl (Nat.le_of_ble_eq_true rfl) ⟨Nat.le_of_ble_eq_true rfl, Nat.le_of_ble_eq_true rfl⟩ dX6_go_22 25 0 0 rfl ⟨rfl, rfl⟩ ?_
    refine vv_if_ne C 38 28 dX6_go_25 (by decide) rfl (fun hc => ?_) (fun hc => ?_)
    · replace h := ite_f hc h
      refine vv_aload_n C dX6_go_38 rfl 0 rfl 39 rfl ?_
      refine vv_get C (q0 := 0) (ci := 6) (k := 1) kinX6_go_X6 rfl rfl (by decide) kwX6_go_5 rfl rfl dX6_go_39 42 rfl ?_
      refine vv_get C (q0 := 1) (ci := 3) (k := 1) kinX6_go_X3 rfl rfl (by decide) kwX6_go_6 rfl rfl dX6_go_42 45 rfl ?_
      refine vv_get C (q0 := 4) (ci := 1) (k := 0) kinX6_go_X1 rfl rfl (by decide) kwX6_go_8 rfl rfl dX6_go_45 48 rfl ?_
      refine vv_iload_n C dX6_go_48 rfl 1 rfl 49 rfl ?_
      obtain ⟨hi, h⟩ := chk_s h
      refine vv_iald C (q0 := 5) rfl hi dX6_go_49 50 rfl ?_
      refine vv_istore_n C [(3, .int (rd K_seat a1)), (0, .ref (X 0)), (1, .int a1), (2, .int a2)] dX6_go_50 rfl (by decide) rfl 51 rfl ?_
      refine vv_aload_n C dX6_go_51 rfl 1 rfl 52 rfl ?_
      refine vv_get C (q0 := 0) (ci := 6) (k := 1) kinX6_go_X6 rfl rfl (by decide) kwX6_go_5 rfl rfl dX6_go_52 55 rfl ?_
      refine vv_get C (q0 := 1) (ci := 3) (k := 0) kinX6_go_X3 rfl rfl (by decide) kwX6_go_7 rfl rfl dX6_go_55 58 rfl ?_
      refine vv_iload_n C dX6_go_58 rfl 0 rfl 59 rfl ?_
      obtain ⟨r3, hr3, h⟩ := bnd_s h
      refine vv_callVi C (fun l => mt_X0_has l D c B B_number (rd K_seat a1) r3 hr3) gX6_go_X0_has rfl rfl rfl yd_X0_has ⟨Nat.le_of_ble_eq_true rfl, Nat.le_of_ble_eq_true rfl⟩ [2] rfl (by decide) 0 rfl rfl (wX6_go c X W R B K Q T Y X_ropes R_hour R_broken B_number B_people K_number K_seat Q_number Q_first Q_second) [(false, 0), (false, 1), (true, 0), (false, 3), (false, 4), (false, 5), (false, 6), (false, 7), (false, 8)] rfl (by decide) rfl rfl [] rfl (Nat.le_of_ble_eq_true rfl) ⟨Nat.le_of_ble_eq_true rfl, Nat.le_of_ble_eq_true rfl⟩ dX6_go_59 62 0 0 rfl ⟨rfl, rfl⟩ ?_
      refine vv_if_eq C 80 65 dX6_go_62 (by decide) rfl (fun hc => ?_) (fun hc => ?_)
      · replace h := ite_t hc h
        exact thr 2 (Option.some.inj h).symm 59 215 63 "no lashing to go over" _ _ thX6_go_2 (by decide) dX6_go_80 dX6_go_83 dX6_go_84 dX6_go_86 dX6_go_89
      · replace h := ite_f hc h
        refine vv_aload_n C dX6_go_65 rfl 1 rfl 66 rfl ?_
        refine vv_get C (q0 := 0) (ci := 6) (k := 1) kinX6_go_X6 rfl rfl (by decide) kwX6_go_5 rfl rfl dX6_go_66 69 rfl ?_
        refine vv_get C (q0 := 1) (ci := 3) (k := 2) kinX6_go_X3 rfl rfl (by decide) kwX6_go_9 rfl rfl dX6_go_69 72 rfl ?_
        refine vv_iload_n C dX6_go_72 rfl 0 rfl 73 rfl ?_
        refine vv_iload_n C dX6_go_73 rfl 3 rfl 74 rfl ?_
        obtain ⟨r4, hr4, h⟩ := bnd_s h
        refine vv_callVi C (fun l => mt_X2_find l D c Q Q_number Q_first Q_second (rd K_seat a1) a2 r4 hr4) gX6_go_X2_find rfl rfl rfl yd_X2_find ⟨Nat.le_of_ble_eq_true rfl, Nat.le_of_ble_eq_true rfl⟩ [6, 7, 8] rfl (by decide) 0 rfl rfl (wX6_go c X W R B K Q T Y X_ropes R_hour R_broken B_number B_people K_number K_seat Q_number Q_first Q_second) [(false, 0), (false, 1), (false, 2), (false, 3), (false, 4), (false, 5), (true, 0), (true, 1), (true, 2)] rfl (by decide) rfl rfl [] rfl (Nat.le_of_ble_eq_true rfl) ⟨Nat.le_of_ble_eq_true rfl, Nat.le_of_ble_eq_true rfl⟩ dX6_go_74 77 0 0 rfl ⟨rfl, rfl⟩ ?_
        refine vv_if_ge C 90 80 dX6_go_77 (by decide) rfl (fun hc => ?_) (fun hc => ?_)
        · replace h := ite_t hc h
          refine vv_aload_n C dX6_go_90 rfl 1 rfl 91 rfl ?_
          refine vv_get C (q0 := 0) (ci := 6) (k := 1) kinX6_go_X6 rfl rfl (by decide) kwX6_go_5 rfl rfl dX6_go_91 94 rfl ?_
          refine vv_get C (q0 := 1) (ci := 3) (k := 0) kinX6_go_X3 rfl rfl (by decide) kwX6_go_7 rfl rfl dX6_go_94 97 rfl ?_
          refine vv_get C (q0 := 2) (ci := 0) (k := 6) kinX6_go_X0 rfl rfl (by decide) kwX6_go_10 rfl rfl dX6_go_97 100 rfl ?_
          refine vv_iload_n C dX6_go_100 rfl 0 rfl 101 rfl ?_
          refine vv_dup2 C dX6_go_101 rfl rfl 102 rfl ?_
          obtain ⟨hi, h⟩ := chk_s h
          refine vv_iald C (q0 := 3) rfl hi dX6_go_102 103 rfl ?_
          refine vv_iconst C (v := 1) dX6_go_103 (by decide) 104 rfl ?_
          refine vv_isub C dX6_go_104 105 rfl ?_
          obtain ⟨hi, h⟩ := chk_s h
          refine vv_iast C (q0 := 3) (wX6_go c X W R B K Q T Y X_ropes R_hour R_broken B_number (wr B_people (rd K_seat a1) ((rd B_people (rd K_seat a1)) - 1)) K_number K_seat Q_number Q_first Q_second) rfl hi rfl dX6_go_105 106 rfl ?_
          refine vv_aload_n C dX6_go_106 rfl 1 rfl 107 rfl ?_
          refine vv_get C (q0 := 0) (ci := 6) (k := 1) kinX6_go_X6 rfl rfl (by decide) kwX6_go_5 rfl rfl dX6_go_107 110 rfl ?_
          refine vv_get C (q0 := 1) (ci := 3) (k := 0) kinX6_go_X3 rfl rfl (by decide) kwX6_go_7 rfl rfl dX6_go_110 113 rfl ?_
          refine vv_get C (q0 := 2) (ci := 0) (k := 6) kinX6_go_X0 rfl rfl (by decide) kwX6_go_10 rfl rfl dX6_go_113 116 rfl ?_
          refine vv_iload_n C dX6_go_116 rfl 3 rfl 117 rfl ?_
          refine vv_dup2 C dX6_go_117 rfl rfl 118 rfl ?_
          obtain ⟨hi, h⟩ := chk_s h
          refine vv_iald C (q0 := 3) rfl hi dX6_go_118 119 rfl ?_
          refine vv_iconst C (v := 1) dX6_go_119 (by decide) 120 rfl ?_
          refine vv_iadd C dX6_go_120 121 rfl ?_
          obtain ⟨hi, h⟩ := chk_s h
          refine vv_iast C (q0 := 3) (wX6_go c X W R B K Q T Y X_ropes R_hour R_broken B_number (wr (wr B_people (rd K_seat a1) ((rd B_people (rd K_seat a1)) - 1)) a2 ((rd (wr B_people (rd K_seat a1) ((rd B_people (rd K_seat a1)) - 1)) a2) + 1)) K_number K_seat Q_number Q_first Q_second) rfl hi rfl dX6_go_121 122 rfl ?_
          refine vv_aload_n C dX6_go_122 rfl 1 rfl 123 rfl ?_
          refine vv_get C (q0 := 0) (ci := 6) (k := 1) kinX6_go_X6 rfl rfl (by decide) kwX6_go_5 rfl rfl dX6_go_123 126 rfl ?_
          refine vv_get C (q0 := 1) (ci := 3) (k := 1) kinX6_go_X3 rfl rfl (by decide) kwX6_go_6 rfl rfl dX6_go_126 129 rfl ?_
          refine vv_get C (q0 := 4) (ci := 1) (k := 0) kinX6_go_X1 rfl rfl (by decide) kwX6_go_8 rfl rfl dX6_go_129 132 rfl ?_
          refine vv_iload_n C dX6_go_132 rfl 2 rfl 133 rfl ?_
          refine vv_iload_n C dX6_go_133 rfl 3 rfl 134 rfl ?_
          obtain ⟨hi, h⟩ := chk_s h
          refine vv_iast C (q0 := 5) (wX6_go c X W R B K Q T Y X_ropes R_hour R_broken B_number (wr (wr B_people (rd K_seat a1) ((rd B_people (rd K_seat a1)) - 1)) a2 ((rd (wr B_people (rd K_seat a1) ((rd B_people (rd K_seat a1)) - 1)) a2) + 1)) K_number (wr K_seat a1 a2) Q_number Q_first Q_second) rfl hi rfl dX6_go_134 135 rfl ?_
          refine vv_aload_n C dX6_go_135 rfl 1 rfl 136 rfl ?_
          refine vv_get C (q0 := 0) (ci := 6) (k := 1) kinX6_go_X6 rfl rfl (by decide) kwX6_go_5 rfl rfl dX6_go_136 139 rfl ?_
          refine vv_get C (q0 := 1) (ci := 3) (k := 0) kinX6_go_X3 rfl rfl (by decide) kwX6_go_7 rfl rfl dX6_go_139 142 rfl ?_
          refine vv_get C (q0 := 2) (ci := 0) (k := 6) kinX6_go_X0 rfl rfl (by decide) kwX6_go_10 rfl rfl dX6_go_142 145 rfl ?_
          refine vv_iload_n C dX6_go_145 rfl 3 rfl 146 rfl ?_
          obtain ⟨hi, h⟩ := chk_s h
          refine vv_iald C (q0 := 3) rfl hi dX6_go_146 147 rfl ?_
          refine vv_widen (k := 1) (n := 6) (by decide) (by decide) ?_
          exact ret _ (Option.some.inj h).symm _ _ dX6_go_147
        · replace h := ite_f hc h
          exact thr 2 (Option.some.inj h).symm 59 215 63 "no lashing to go over" _ _ thX6_go_2 (by decide) dX6_go_80 dX6_go_83 dX6_go_84 dX6_go_86 dX6_go_89
    · replace h := ite_t hc h
      exact thr 3 (Option.some.inj h).symm 75 210 79 "no such castaway or barrel" _ _ thX6_go_3 (by decide) dX6_go_28 dX6_go_31 dX6_go_32 dX6_go_34 dX6_go_37
abbrev wX6_hold (c : Nat → ClassId) (X : Nat → Nat) (W : Nat → Nat) (R : Nat → Nat) (B : Nat → Nat) (K : Nat → Nat) (Q : Nat → Nat) (T : Nat → Nat) (Y : Nat → Nat) (X_ropes : Int32) (R_hour : Int32) (R_broken : Int32) (B_number : Int32) (Q_number : Int32) (Q_first : Nat → Int32) (Q_second : Nat → Int32) (Q_strength : Nat → Int32) (Q_wear : Nat → Int32) (Y_best : Nat → Int32) : va_W := [(X 0, .inr (6, [.ref (W 0), .ref (R 0), .ref (T 0), .ref (Y 0), .int X_ropes])), (R 0, .inr (3, [.ref (B 0), .ref (K 0), .ref (Q 0), .ref (R 1), .ref (R 2), .int R_hour, .int R_broken])), (B 0, .inr (0, [.ref (B 1), .ref (B 2), .ref (B 3), .ref (B 4), .ref (B 5), .ref (B 6), .ref (B 7), .ref (B 8), .ref (B 9), .ref (B 10), .ref (B 11), .int B_number])), (Q 0, .inr (2, [.ref (Q 1), .ref (Q 2), .ref (Q 3), .ref (Q 4), .int Q_number])), aI c (Q 1) 48 Q_first, aI c (Q 2) 48 Q_second, aI c (Q 3) 48 Q_strength, aI c (Q 4) 48 Q_wear, (Y 0, .inr (5, [.ref (Y 1), .ref (Y 2), .ref (Y 3), .ref (Y 4)])), aI c (Y 4) 24 Y_best]
abbrev rmX6_hold : Room := { frames := 6, cells := 1, slots := 6, locals := 90 }
theorem yd_X6_hold : yX6_hold.cls = RX6 ∧ yX6_hold.cls ≠ "java/lang/invoke/MethodHandle" ∧ yX6_hold.cls ≠ "java/lang/invoke/VarHandle" ∧ (parseMethodDescriptor yX6_hold.desc).map (fun d => d.parameters.length) = some 2 := by decide +kernel
theorem kwX6_hold_3 : Cond.fieldLink RX6 19 "BarrelRaft" "raft" "LBarrelRaft$Raft;" ∈ wsX6_hold := List.mem_of_getElem? (i := 3) rfl
set_option maxRecDepth 20000 in
theorem kinX6_hold_X6 : ∀ w ∈ u_ws RX6 TX6 5, w ∈ wsX6_hold := by decide +kernel
theorem kwX6_hold_4 : Cond.fieldLink RX6 94 "BarrelRaft$Raft" "barrels" "LBarrelRaft$Barrels;" ∈ wsX6_hold := List.mem_of_getElem? (i := 4) rfl
set_option maxRecDepth 20000 in
theorem kinX6_hold_X3 : ∀ w ∈ u_ws RX3 TX3 7, w ∈ wsX6_hold := by decide +kernel
theorem kwX6_hold_1 : Cond.classLink RX6 75 "java/lang/IndexOutOfBoundsException" ∈ wsX6_hold := List.mem_of_getElem? (i := 1) rfl
theorem kwX6_hold_2 : Cond.initialized "java/lang/IndexOutOfBoundsException" ∈ wsX6_hold := List.mem_of_getElem? (i := 2) rfl
theorem kwX6_hold_5 : Cond.fieldLink RX6 29 "BarrelRaft" "ways" "LBarrelRaft$Ways;" ∈ wsX6_hold := List.mem_of_getElem? (i := 5) rfl
theorem kwX6_hold_6 : Cond.fieldLink RX6 136 "BarrelRaft$Raft" "lashings" "LBarrelRaft$Lashings;" ∈ wsX6_hold := List.mem_of_getElem? (i := 6) rfl
def jX6_hold (B_number : Int32) (Q_number : Int32) (Q_first : Nat → Int32) (Q_second : Nat → Int32) (Q_strength : Nat → Int32) (Q_wear : Nat → Int32) (Y_best : Nat → Int32) (a1 : Int32) (a2 : Int32) : Option (Nat ⊕ (Int32 × (Nat → Int32))) :=
  bnd (jX0_has B_number a1) (fun r1 => (if r1 = 0 then some (Sum.inl 3) else bnd (jX0_has B_number a2) (fun r2 => (if r2 = 0 then some (Sum.inl 3) else (if a1 = a2 then some (Sum.inr (0, Y_best)) else bnd (jX5_strongest Y_best Q_number Q_first Q_second Q_strength Q_wear a1 a2) (fun r3 => some (Sum.inr (r3.1, r3.2))))))))
theorem thX6_hold_3 : ThOK wsX6_hold rmX6_hold 3 75 79 := ⟨kwX6_hold_1, kwX6_hold_2, fun w hw => List.mem_cons_of_mem _ (List.mem_append_right _ hw), th3_n, th3_o, by decide, by decide, by decide, by decide, by decide⟩
set_option maxHeartbeats 4000000 in
set_option maxRecDepth 100000 in
theorem mt_X6_hold (l : Launch) (hfl : l.stackTraces = false) (D : va_G) (c : Nat → ClassId) (X : Nat → Nat) (W : Nat → Nat) (R : Nat → Nat) (B : Nat → Nat) (K : Nat → Nat) (Q : Nat → Nat) (T : Nat → Nat) (Y : Nat → Nat) (X_ropes : Int32) (R_hour : Int32) (R_broken : Int32) (B_number : Int32) (Q_number : Int32) (Q_first : Nat → Int32) (Q_second : Nat → Int32) (Q_strength : Nat → Int32) (Q_wear : Nat → Int32) (Y_best : Nat → Int32) (a1 : Int32) (a2 : Int32) (q0 : Nat ⊕ (Int32 × (Nat → Int32))) (h : jX6_hold B_number Q_number Q_first Q_second Q_strength Q_wear Y_best a1 a2 = some q0) : DXi l yX6_hold wsX6_hold rmX6_hold D c (wX6_hold c X W R B K Q T Y X_ropes R_hour R_broken B_number Q_number Q_first Q_second Q_strength Q_wear Y_best) [.ref (X 0), .int a1, .int a2] q0 (fun (q0 : Int32 × (Nat → Int32)) => q0.1) (fun q0 => (wX6_hold c X W R B K Q T Y X_ropes R_hour R_broken B_number Q_number Q_first Q_second Q_strength Q_wear q0.2)) 1 6 := by
  refine DXi_of (cc := cX6_hold) (nL := 3) rfl (by decide) rfl (Nat.le_of_ble_eq_true rfl) hfl ⟨by decide, by decide⟩ (fun g C ret thr => ?_)
  unfold jX6_hold at h
  refine vv_lv [0, 1, 2] [(0, .ref (X 0)), (1, .int a1), (2, .int a2)] rfl ?_
  refine vv_aload_n C dX6_hold_0 rfl 0 rfl 1 rfl ?_
  refine vv_get C (q0 := 0) (ci := 6) (k := 1) kinX6_hold_X6 rfl rfl (by decide) kwX6_hold_3 rfl rfl dX6_hold_1 4 rfl ?_
  refine vv_get C (q0 := 1) (ci := 3) (k := 0) kinX6_hold_X3 rfl rfl (by decide) kwX6_hold_4 rfl rfl dX6_hold_4 7 rfl ?_
  refine vv_iload_n C dX6_hold_7 rfl 1 rfl 8 rfl ?_
  obtain ⟨r1, hr1, h⟩ := bnd_s h
  refine vv_callVi C (fun l => mt_X0_has l D c B B_number a1 r1 hr1) gX6_hold_X0_has rfl rfl rfl yd_X0_has ⟨Nat.le_of_ble_eq_true rfl, Nat.le_of_ble_eq_true rfl⟩ [2] rfl (by decide) 0 rfl rfl (wX6_hold c X W R B K Q T Y X_ropes R_hour R_broken B_number Q_number Q_first Q_second Q_strength Q_wear Y_best) [(false, 0), (false, 1), (true, 0), (false, 3), (false, 4), (false, 5), (false, 6), (false, 7), (false, 8), (false, 9)] rfl (by decide) rfl rfl [] rfl (Nat.le_of_ble_eq_true rfl) ⟨Nat.le_of_ble_eq_true rfl, Nat.le_of_ble_eq_true rfl⟩ dX6_hold_8 11 0 0 rfl ⟨rfl, rfl⟩ ?_
  refine vv_if_eq C 28 14 dX6_hold_11 (by decide) rfl (fun hc => ?_) (fun hc => ?_)
  · replace h := ite_t hc h
    exact thr 3 (Option.some.inj h).symm 75 127 79 "no such barrel" _ _ thX6_hold_3 (by decide) dX6_hold_28 dX6_hold_31 dX6_hold_32 dX6_hold_34 dX6_hold_37
  · replace h := ite_f hc h
    refine vv_aload_n C dX6_hold_14 rfl 0 rfl 15 rfl ?_
    refine vv_get C (q0 := 0) (ci := 6) (k := 1) kinX6_hold_X6 rfl rfl (by decide) kwX6_hold_3 rfl rfl dX6_hold_15 18 rfl ?_
    refine vv_get C (q0 := 1) (ci := 3) (k := 0) kinX6_hold_X3 rfl rfl (by decide) kwX6_hold_4 rfl rfl dX6_hold_18 21 rfl ?_
    refine vv_iload_n C dX6_hold_21 rfl 2 rfl 22 rfl ?_
    obtain ⟨r2, hr2, h⟩ := bnd_s h
    refine vv_callVi C (fun l => mt_X0_has l D c B B_number a2 r2 hr2) gX6_hold_X0_has rfl rfl rfl yd_X0_has ⟨Nat.le_of_ble_eq_true rfl, Nat.le_of_ble_eq_true rfl⟩ [2] rfl (by decide) 0 rfl rfl (wX6_hold c X W R B K Q T Y X_ropes R_hour R_broken B_number Q_number Q_first Q_second Q_strength Q_wear Y_best) [(false, 0), (false, 1), (true, 0), (false, 3), (false, 4), (false, 5), (false, 6), (false, 7), (false, 8), (false, 9)] rfl (by decide) rfl rfl [] rfl (Nat.le_of_ble_eq_true rfl) ⟨Nat.le_of_ble_eq_true rfl, Nat.le_of_ble_eq_true rfl⟩ dX6_hold_22 25 0 0 rfl ⟨rfl, rfl⟩ ?_
    refine vv_if_ne C 38 28 dX6_hold_25 (by decide) rfl (fun hc => ?_) (fun hc => ?_)
    · replace h := ite_f hc h
      refine vv_iload_n C dX6_hold_38 rfl 1 rfl 39 rfl ?_
      refine vv_iload_n C dX6_hold_39 rfl 2 rfl 40 rfl ?_
      refine vv_icmp_ne C 47 43 dX6_hold_40 (by decide) rfl (fun hc => ?_) (fun hc => ?_)
      · replace h := ite_f hc h
        refine vv_aload_n C dX6_hold_47 rfl 0 rfl 48 rfl ?_
        refine vv_get C (q0 := 0) (ci := 6) (k := 3) kinX6_hold_X6 rfl rfl (by decide) kwX6_hold_5 rfl rfl dX6_hold_48 51 rfl ?_
        refine vv_aload_n C dX6_hold_51 rfl 0 rfl 52 rfl ?_
        refine vv_get C (q0 := 0) (ci := 6) (k := 1) kinX6_hold_X6 rfl rfl (by decide) kwX6_hold_3 rfl rfl dX6_hold_52 55 rfl ?_
        refine vv_get C (q0 := 1) (ci := 3) (k := 2) kinX6_hold_X3 rfl rfl (by decide) kwX6_hold_6 rfl rfl dX6_hold_55 58 rfl ?_
        refine vv_iload_n C dX6_hold_58 rfl 1 rfl 59 rfl ?_
        refine vv_iload_n C dX6_hold_59 rfl 2 rfl 60 rfl ?_
        obtain ⟨r3, hr3, h⟩ := bnd_s h
        refine vv_callVi C (fun l => mt_X5_strongest l D c Y Q Y_best Q_number Q_first Q_second Q_strength Q_wear a1 a2 r3 hr3) gX6_hold_X5_strongest rfl rfl rfl yd_X5_strongest ⟨Nat.le_of_ble_eq_true rfl, Nat.le_of_ble_eq_true rfl⟩ [8, 9, 3, 4, 5, 6, 7] rfl (by decide) 0 rfl rfl (wX6_hold c X W R B K Q T Y X_ropes R_hour R_broken B_number Q_number Q_first Q_second Q_strength Q_wear r3.2) [(false, 0), (false, 1), (false, 2), (true, 2), (true, 3), (true, 4), (true, 5), (true, 6), (true, 0), (true, 1)] rfl (by decide) rfl rfl [] rfl (Nat.le_of_ble_eq_true rfl) ⟨Nat.le_of_ble_eq_true rfl, Nat.le_of_ble_eq_true rfl⟩ dX6_hold_60 63 0 0 rfl ⟨rfl, rfl⟩ ?_
        refine vv_widen (k := 1) (n := 6) (by decide) (by decide) ?_
        exact ret _ (Option.some.inj h).symm _ _ dX6_hold_63
      · replace h := ite_t hc h
        refine vv_iconst C (v := 0) dX6_hold_43 (by decide) 44 rfl ?_
        refine vv_goto C 63 dX6_hold_44 (by decide) ?_
        refine vv_widen (k := 1) (n := 6) (by decide) (by decide) ?_
        exact ret _ (Option.some.inj h).symm _ _ dX6_hold_63
    · replace h := ite_t hc h
      exact thr 3 (Option.some.inj h).symm 75 127 79 "no such barrel" _ _ thX6_hold_3 (by decide) dX6_hold_28 dX6_hold_31 dX6_hold_32 dX6_hold_34 dX6_hold_37
abbrev wX6_lashing (c : Nat → ClassId) (X : Nat → Nat) (W : Nat → Nat) (R : Nat → Nat) (B : Nat → Nat) (K : Nat → Nat) (Q : Nat → Nat) (T : Nat → Nat) (Y : Nat → Nat) (X_ropes : Int32) (W_number : Int32) (W_windDx : Int32) (W_windDy : Int32) (W_wave : Nat → Int32) (W_counting : Nat → Int32) (R_hour : Int32) (R_broken : Int32) (B_number : Int32) (B_goods : Nat → Int32) (B_people : Nat → Int32) (B_x : Nat → Int32) (B_y : Nat → Int32) (Q_number : Int32) (Q_first : Nat → Int32) (Q_second : Nat → Int32) (Q_strength : Nat → Int32) (Q_wear : Nat → Int32) : va_W := [(X 0, .inr (6, [.ref (W 0), .ref (R 0), .ref (T 0), .ref (Y 0), .int X_ropes])), (W 0, .inr (4, [.ref (W 1), .ref (W 2), .ref (W 3), .ref (W 4), .int W_number, .int W_windDx, .int W_windDy])), aI c (W 3) 8 W_wave, aI c (W 4) 600 W_counting, (R 0, .inr (3, [.ref (B 0), .ref (K 0), .ref (Q 0), .ref (R 1), .ref (R 2), .int R_hour, .int R_broken])), (B 0, .inr (0, [.ref (B 1), .ref (B 2), .ref (B 3), .ref (B 4), .ref (B 5), .ref (B 6), .ref (B 7), .ref (B 8), .ref (B 9), .ref (B 10), .ref (B 11), .int B_number])), aI c (B 6) 24 B_goods, aI c (B 7) 24 B_people, aI c (B 9) 24 B_x, aI c (B 10) 24 B_y, (Q 0, .inr (2, [.ref (Q 1), .ref (Q 2), .ref (Q 3), .ref (Q 4), .int Q_number])), aI c (Q 1) 48 Q_first, aI c (Q 2) 48 Q_second, aI c (Q 3) 48 Q_strength, aI c (Q 4) 48 Q_wear]
abbrev rmX6_lashing : Room := { frames := 6, cells := 1, slots := 6, locals := 90 }
theorem yd_X6_lashing : yX6_lashing.cls = RX6 ∧ yX6_lashing.cls ≠ "java/lang/invoke/MethodHandle" ∧ yX6_lashing.cls ≠ "java/lang/invoke/VarHandle" ∧ (parseMethodDescriptor yX6_lashing.desc).map (fun d => d.parameters.length) = some 3 := by decide +kernel
theorem kwX6_lashing_3 : Cond.fieldLink RX6 19 "BarrelRaft" "raft" "LBarrelRaft$Raft;" ∈ wsX6_lashing := List.mem_of_getElem? (i := 3) rfl
set_option maxRecDepth 20000 in
theorem kinX6_lashing_X6 : ∀ w ∈ u_ws RX6 TX6 5, w ∈ wsX6_lashing := by decide +kernel
theorem kwX6_lashing_4 : Cond.fieldLink RX6 94 "BarrelRaft$Raft" "barrels" "LBarrelRaft$Barrels;" ∈ wsX6_lashing := List.mem_of_getElem? (i := 4) rfl
set_option maxRecDepth 20000 in
theorem kinX6_lashing_X3 : ∀ w ∈ u_ws RX3 TX3 7, w ∈ wsX6_lashing := by decide +kernel
theorem kwX6_lashing_1 : Cond.classLink RX6 75 "java/lang/IndexOutOfBoundsException" ∈ wsX6_lashing := List.mem_of_getElem? (i := 1) rfl
theorem kwX6_lashing_2 : Cond.initialized "java/lang/IndexOutOfBoundsException" ∈ wsX6_lashing := List.mem_of_getElem? (i := 2) rfl
theorem kwX6_lashing_5 : Cond.fieldLink RX6 136 "BarrelRaft$Raft" "lashings" "LBarrelRaft$Lashings;" ∈ wsX6_lashing := List.mem_of_getElem? (i := 5) rfl
theorem kwX6_lashing_6 : Cond.fieldLink RX6 185 "BarrelRaft$Lashings" "strength" "[I" ∈ wsX6_lashing := List.mem_of_getElem? (i := 6) rfl
set_option maxRecDepth 20000 in
theorem kinX6_lashing_X2 : ∀ w ∈ u_ws RX2 TX2 5, w ∈ wsX6_lashing := by decide +kernel
theorem kwX6_lashing_7 : Cond.fieldLink RX6 188 "BarrelRaft$Lashings" "wear" "[I" ∈ wsX6_lashing := List.mem_of_getElem? (i := 7) rfl
theorem kwX6_lashing_8 : Cond.fieldLink RX6 12 "BarrelRaft" "waters" "LBarrelRaft$Waters;" ∈ wsX6_lashing := List.mem_of_getElem? (i := 8) rfl
def jX6_lashing (W_number : Int32) (W_wave : Nat → Int32) (W_counting : Nat → Int32) (B_number : Int32) (B_goods : Nat → Int32) (B_people : Nat → Int32) (B_x : Nat → Int32) (B_y : Nat → Int32) (Q_number : Int32) (Q_first : Nat → Int32) (Q_second : Nat → Int32) (Q_strength : Nat → Int32) (Q_wear : Nat → Int32) (a1 : Int32) (a2 : Int32) (a3 : Int32) : Option (Nat ⊕ (Int32)) :=
  bnd (jX0_has B_number a1) (fun r1 => (if r1 = 0 then some (Sum.inl 3) else bnd (jX0_has B_number a2) (fun r2 => (if r2 = 0 then some (Sum.inl 3) else bnd (jX6_isBelow a3 3) (fun r3 => (if r3 = 0 then some (Sum.inl 3) else bnd (jX2_find Q_number Q_first Q_second a1 a2) (fun r4 => (if 0 ≤ r4 then (if a3 = 0 then chk 48 r4 (some (Sum.inr (rd Q_strength r4))) else (if a3 = 1 then chk 48 r4 (some (Sum.inr (rd Q_wear r4))) else bnd (jX3_stress B_goods B_people B_x B_y Q_first Q_second W_number W_wave W_counting r4) (fun r5 => some (Sum.inr r5)))) else some (Sum.inr 0)))))))))
theorem thX6_lashing_3 : ThOK wsX6_lashing rmX6_lashing 3 75 79 := ⟨kwX6_lashing_1, kwX6_lashing_2, fun w hw => List.mem_cons_of_mem _ (List.mem_append_right _ hw), th3_n, th3_o, by decide, by decide, by decide, by decide, by decide⟩
set_option maxHeartbeats 4000000 in
set_option maxRecDepth 100000 in
theorem mt_X6_lashing (l : Launch) (hfl : l.stackTraces = false) (D : va_G) (c : Nat → ClassId) (X : Nat → Nat) (W : Nat → Nat) (R : Nat → Nat) (B : Nat → Nat) (K : Nat → Nat) (Q : Nat → Nat) (T : Nat → Nat) (Y : Nat → Nat) (X_ropes : Int32) (W_number : Int32) (W_windDx : Int32) (W_windDy : Int32) (W_wave : Nat → Int32) (W_counting : Nat → Int32) (R_hour : Int32) (R_broken : Int32) (B_number : Int32) (B_goods : Nat → Int32) (B_people : Nat → Int32) (B_x : Nat → Int32) (B_y : Nat → Int32) (Q_number : Int32) (Q_first : Nat → Int32) (Q_second : Nat → Int32) (Q_strength : Nat → Int32) (Q_wear : Nat → Int32) (a1 : Int32) (a2 : Int32) (a3 : Int32) (q0 : Nat ⊕ (Int32)) (h : jX6_lashing W_number W_wave W_counting B_number B_goods B_people B_x B_y Q_number Q_first Q_second Q_strength Q_wear a1 a2 a3 = some q0) : DXi l yX6_lashing wsX6_lashing rmX6_lashing D c (wX6_lashing c X W R B K Q T Y X_ropes W_number W_windDx W_windDy W_wave W_counting R_hour R_broken B_number B_goods B_people B_x B_y Q_number Q_first Q_second Q_strength Q_wear) [.ref (X 0), .int a1, .int a2, .int a3] q0 (fun (q0 : Int32) => q0) (fun q0 => (wX6_lashing c X W R B K Q T Y X_ropes W_number W_windDx W_windDy W_wave W_counting R_hour R_broken B_number B_goods B_people B_x B_y Q_number Q_first Q_second Q_strength Q_wear)) 1 6 := by
  refine DXi_of (cc := cX6_lashing) (nL := 5) rfl (by decide) rfl (Nat.le_of_ble_eq_true rfl) hfl ⟨by decide, by decide⟩ (fun g C ret thr => ?_)
  unfold jX6_lashing at h
  refine vv_lv [0, 1, 2, 3] [(0, .ref (X 0)), (1, .int a1), (2, .int a2), (3, .int a3)] rfl ?_
  refine vv_aload_n C dX6_lashing_0 rfl 0 rfl 1 rfl ?_
  refine vv_get C (q0 := 0) (ci := 6) (k := 1) kinX6_lashing_X6 rfl rfl (by decide) kwX6_lashing_3 rfl rfl dX6_lashing_1 4 rfl ?_
  refine vv_get C (q0 := 4) (ci := 3) (k := 0) kinX6_lashing_X3 rfl rfl (by decide) kwX6_lashing_4 rfl rfl dX6_lashing_4 7 rfl ?_
  refine vv_iload_n C dX6_lashing_7 rfl 1 rfl 8 rfl ?_
  obtain ⟨r1, hr1, h⟩ := bnd_s h
  refine vv_callVi C (fun l => mt_X0_has l D c B B_number a1 r1 hr1) gX6_lashing_X0_has rfl rfl rfl yd_X0_has ⟨Nat.le_of_ble_eq_true rfl, Nat.le_of_ble_eq_true rfl⟩ [5] rfl (by decide) 0 rfl rfl (wX6_lashing c X W R B K Q T Y X_ropes W_number W_windDx W_windDy W_wave W_counting R_hour R_broken B_number B_goods B_people B_x B_y Q_number Q_first Q_second Q_strength Q_wear) [(false, 0), (false, 1), (false, 2), (false, 3), (false, 4), (true, 0), (false, 6), (false, 7), (false, 8), (false, 9), (false, 10), (false, 11), (false, 12), (false, 13), (false, 14)] rfl (by decide) rfl rfl [] rfl (Nat.le_of_ble_eq_true rfl) ⟨Nat.le_of_ble_eq_true rfl, Nat.le_of_ble_eq_true rfl⟩ dX6_lashing_8 11 0 0 rfl ⟨rfl, rfl⟩ ?_
  refine vv_if_eq C 36 14 dX6_lashing_11 (by decide) rfl (fun hc => ?_) (fun hc => ?_)
  · replace h := ite_t hc h
    exact thr 3 (Option.some.inj h).symm 75 180 79 "no such barrel or question" _ _ thX6_lashing_3 (by decide) dX6_lashing_36 dX6_lashing_39 dX6_lashing_40 dX6_lashing_42 dX6_lashing_45
  · replace h := ite_f hc h
    refine vv_aload_n C dX6_lashing_14 rfl 0 rfl 15 rfl ?_
    refine vv_get C (q0 := 0) (ci := 6) (k := 1) kinX6_lashing_X6 rfl rfl (by decide) kwX6_lashing_3 rfl rfl dX6_lashing_15 18 rfl ?_
    refine vv_get C (q0 := 4) (ci := 3) (k := 0) kinX6_lashing_X3 rfl rfl (by decide) kwX6_lashing_4 rfl rfl dX6_lashing_18 21 rfl ?_
    refine vv_iload_n C dX6_lashing_21 rfl 2 rfl 22 rfl ?_
    obtain ⟨r2, hr2, h⟩ := bnd_s h
    refine vv_callVi C (fun l => mt_X0_has l D c B B_number a2 r2 hr2) gX6_lashing_X0_has rfl rfl rfl yd_X0_has ⟨Nat.le_of_ble_eq_true rfl, Nat.le_of_ble_eq_true rfl⟩ [5] rfl (by decide) 0 rfl rfl (wX6_lashing c X W R B K Q T Y X_ropes W_number W_windDx W_windDy W_wave W_counting R_hour R_broken B_number B_goods B_people B_x B_y Q_number Q_first Q_second Q_strength Q_wear) [(false, 0), (false, 1), (false, 2), (false, 3), (false, 4), (true, 0), (false, 6), (false, 7), (false, 8), (false, 9), (false, 10), (false, 11), (false, 12), (false, 13), (false, 14)] rfl (by decide) rfl rfl [] rfl (Nat.le_of_ble_eq_true rfl) ⟨Nat.le_of_ble_eq_true rfl, Nat.le_of_ble_eq_true rfl⟩ dX6_lashing_22 25 0 0 rfl ⟨rfl, rfl⟩ ?_
    refine vv_if_eq C 36 28 dX6_lashing_25 (by decide) rfl (fun hc => ?_) (fun hc => ?_)
    · replace h := ite_t hc h
      exact thr 3 (Option.some.inj h).symm 75 180 79 "no such barrel or question" _ _ thX6_lashing_3 (by decide) dX6_lashing_36 dX6_lashing_39 dX6_lashing_40 dX6_lashing_42 dX6_lashing_45
    · replace h := ite_f hc h
      refine vv_iload_n C dX6_lashing_28 rfl 3 rfl 29 rfl ?_
      refine vv_iconst C (v := 3) dX6_lashing_29 (by decide) 30 rfl ?_
      obtain ⟨r3, hr3, h⟩ := bnd_s h
      refine vv_callSi C (fun l => mt_X6_isBelow l D c a3 3 r3 hr3) gX6_lashing_X6_isBelow rfl rfl rfl yd_X6_isBelow ⟨Nat.le_of_ble_eq_true rfl, Nat.le_of_ble_eq_true rfl⟩ [] rfl (by decide) (wX6_lashing c X W R B K Q T Y X_ropes W_number W_windDx W_windDy W_wave W_counting R_hour R_broken B_number B_goods B_people B_x B_y Q_number Q_first Q_second Q_strength Q_wear) [(false, 0), (false, 1), (false, 2), (false, 3), (false, 4), (false, 5), (false, 6), (false, 7), (false, 8), (false, 9), (false, 10), (false, 11), (false, 12), (false, 13), (false, 14)] rfl (by decide) rfl rfl [] rfl (Nat.le_of_ble_eq_true rfl) ⟨Nat.le_of_ble_eq_true rfl, Nat.le_of_ble_eq_true rfl⟩ dX6_lashing_30 33 0 0 rfl ⟨rfl, rfl⟩ ?_
      refine vv_if_ne C 46 36 dX6_lashing_33 (by decide) rfl (fun hc => ?_) (fun hc => ?_)
      · replace h := ite_f hc h
        refine vv_aload_n C dX6_lashing_46 rfl 0 rfl 47 rfl ?_
        refine vv_get C (q0 := 0) (ci := 6) (k := 1) kinX6_lashing_X6 rfl rfl (by decide) kwX6_lashing_3 rfl rfl dX6_lashing_47 50 rfl ?_
        refine vv_get C (q0 := 4) (ci := 3) (k := 2) kinX6_lashing_X3 rfl rfl (by decide) kwX6_lashing_5 rfl rfl dX6_lashing_50 53 rfl ?_
        refine vv_iload_n C dX6_lashing_53 rfl 1 rfl 54 rfl ?_
        refine vv_iload_n C dX6_lashing_54 rfl 2 rfl 55 rfl ?_
        obtain ⟨r4, hr4, h⟩ := bnd_s h
        refine vv_callVi C (fun l => mt_X2_find l D c Q Q_number Q_first Q_second a1 a2 r4 hr4) gX6_lashing_X2_find rfl rfl rfl yd_X2_find ⟨Nat.le_of_ble_eq_true rfl, Nat.le_of_ble_eq_true rfl⟩ [10, 11, 12] rfl (by decide) 0 rfl rfl (wX6_lashing c X W R B K Q T Y X_ropes W_number W_windDx W_windDy W_wave W_counting R_hour R_broken B_number B_goods B_people B_x B_y Q_number Q_first Q_second Q_strength Q_wear) [(false, 0), (false, 1), (false, 2), (false, 3), (false, 4), (false, 5), (false, 6), (false, 7), (false, 8), (false, 9), (true, 0), (true, 1), (true, 2), (false, 13), (false, 14)] rfl (by decide) rfl rfl [] rfl (Nat.le_of_ble_eq_true rfl) ⟨Nat.le_of_ble_eq_true rfl, Nat.le_of_ble_eq_true rfl⟩ dX6_lashing_55 58 0 0 rfl ⟨rfl, rfl⟩ ?_
        refine vv_istore C [(4, .int r4), (0, .ref (X 0)), (1, .int a1), (2, .int a2), (3, .int a3)] dX6_lashing_58 (by decide) rfl 60 rfl ?_
        refine vv_iload C dX6_lashing_60 0 rfl 62 rfl ?_
        refine vv_if_ge C 67 65 dX6_lashing_62 (by decide) rfl (fun hc => ?_) (fun hc => ?_)
        · replace h := ite_t hc h
          refine vv_iload_n C dX6_lashing_67 rfl 4 rfl 68 rfl ?_
          by_cases hn0 : a3 = 0
          · replace h := ite_t hn0 h
            refine vv_lk C (off := 28) 96 dX6_lashing_68 (by decide) (by rw [hn0]; rfl) (by decide) ?_
            refine vv_aload_n C dX6_lashing_96 rfl 1 rfl 97 rfl ?_
            refine vv_get C (q0 := 0) (ci := 6) (k := 1) kinX6_lashing_X6 rfl rfl (by decide) kwX6_lashing_3 rfl rfl dX6_lashing_97 100 rfl ?_
            refine vv_get C (q0 := 4) (ci := 3) (k := 2) kinX6_lashing_X3 rfl rfl (by decide) kwX6_lashing_5 rfl rfl dX6_lashing_100 103 rfl ?_
            refine vv_get C (q0 := 10) (ci := 2) (k := 2) kinX6_lashing_X2 rfl rfl (by decide) kwX6_lashing_6 rfl rfl dX6_lashing_103 106 rfl ?_
            refine vv_iload C dX6_lashing_106 0 rfl 108 rfl ?_
            obtain ⟨hi, h⟩ := chk_s h
            refine vv_iald C (q0 := 13) rfl hi dX6_lashing_108 109 rfl ?_
            refine vv_widen (k := 1) (n := 6) (by decide) (by decide) ?_
            exact ret _ (Option.some.inj h).symm _ _ dX6_lashing_109
          · replace h := ite_f hn0 h
            by_cases hn1 : a3 = 1
            · replace h := ite_t hn1 h
              refine vv_lk C (off := 42) 110 dX6_lashing_68 (by decide) (by rw [hn1]; rfl) (by decide) ?_
              refine vv_aload_n C dX6_lashing_110 rfl 1 rfl 111 rfl ?_
              refine vv_get C (q0 := 0) (ci := 6) (k := 1) kinX6_lashing_X6 rfl rfl (by decide) kwX6_lashing_3 rfl rfl dX6_lashing_111 114 rfl ?_
              refine vv_get C (q0 := 4) (ci := 3) (k := 2) kinX6_lashing_X3 rfl rfl (by decide) kwX6_lashing_5 rfl rfl dX6_lashing_114 117 rfl ?_
              refine vv_get C (q0 := 10) (ci := 2) (k := 3) kinX6_lashing_X2 rfl rfl (by decide) kwX6_lashing_7 rfl rfl dX6_lashing_117 120 rfl ?_
              refine vv_iload C dX6_lashing_120 0 rfl 122 rfl ?_
              obtain ⟨hi, h⟩ := chk_s h
              refine vv_iald C (q0 := 14) rfl hi dX6_lashing_122 123 rfl ?_
              refine vv_widen (k := 1) (n := 6) (by decide) (by decide) ?_
              exact ret _ (Option.some.inj h).symm _ _ dX6_lashing_123
            · replace h := ite_f hn1 h
              refine vv_lk C (off := 56) 124 dX6_lashing_68 (by decide) (by show Op.lookupswitch.offset [(0, 28), (1, 42)] 56 _ = 56; rw [Op.lookupswitch.offset_cons, if_neg (lk_ne (v := 0) (by decide) hn0), Op.lookupswitch.offset_cons, if_neg (lk_ne (v := 1) (by decide) hn1), Op.lookupswitch.offset_nil]) (by decide) ?_
              refine vv_aload_n C dX6_lashing_124 rfl 1 rfl 125 rfl ?_
              refine vv_get C (q0 := 0) (ci := 6) (k := 1) kinX6_lashing_X6 rfl rfl (by decide) kwX6_lashing_3 rfl rfl dX6_lashing_125 128 rfl ?_
              refine vv_iload C dX6_lashing_128 0 rfl 130 rfl ?_
              refine vv_aload_n C dX6_lashing_130 rfl 1 rfl 131 rfl ?_
              refine vv_get C (q0 := 0) (ci := 6) (k := 0) kinX6_lashing_X6 rfl rfl (by decide) kwX6_lashing_8 rfl rfl dX6_lashing_131 134 rfl ?_
              obtain ⟨r5, hr5, h⟩ := bnd_s h
              refine vv_callVi C (fun l => mt_X3_stress l D c R B K Q W R_hour R_broken B_number B_goods B_people B_x B_y Q_number Q_first Q_second W_number W_windDx W_windDy W_wave W_counting r4 r5 hr5) gX6_lashing_X3_stress rfl rfl rfl yd_X3_stress ⟨Nat.le_of_ble_eq_true rfl, Nat.le_of_ble_eq_true rfl⟩ [4, 5, 6, 7, 8, 9, 10, 11, 12, 1, 2, 3] rfl (by decide) 0 rfl rfl (wX6_lashing c X W R B K Q T Y X_ropes W_number W_windDx W_windDy W_wave W_counting R_hour R_broken B_number B_goods B_people B_x B_y Q_number Q_first Q_second Q_strength Q_wear) [(false, 0), (true, 9), (true, 10), (true, 11), (true, 0), (true, 1), (true, 2), (true, 3), (true, 4), (true, 5), (true, 6), (true, 7), (true, 8), (false, 13), (false, 14)] rfl (by decide) rfl rfl [] rfl (Nat.le_of_ble_eq_true rfl) ⟨Nat.le_of_ble_eq_true rfl, Nat.le_of_ble_eq_true rfl⟩ dX6_lashing_134 137 0 0 rfl ⟨rfl, rfl⟩ ?_
              refine vv_widen (k := 1) (n := 6) (by decide) (by decide) ?_
              exact ret _ (Option.some.inj h).symm _ _ dX6_lashing_137
        · replace h := ite_f hc h
          refine vv_iconst C (v := 0) dX6_lashing_65 (by decide) 66 rfl ?_
          refine vv_widen (k := 1) (n := 6) (by decide) (by decide) ?_
          exact ret _ (Option.some.inj h).symm _ _ dX6_lashing_66
      · replace h := ite_t hc h
        exact thr 3 (Option.some.inj h).symm 75 180 79 "no such barrel or question" _ _ thX6_lashing_3 (by decide) dX6_lashing_36 dX6_lashing_39 dX6_lashing_40 dX6_lashing_42 dX6_lashing_45
abbrev wX6_load (c : Nat → ClassId) (X : Nat → Nat) (W : Nat → Nat) (R : Nat → Nat) (B : Nat → Nat) (K : Nat → Nat) (Q : Nat → Nat) (T : Nat → Nat) (Y : Nat → Nat) (X_ropes : Int32) (R_hour : Int32) (R_broken : Int32) (B_number : Int32) (B_goods : Nat → Int32) (B_state : Nat → Int32) : va_W := [(X 0, .inr (6, [.ref (W 0), .ref (R 0), .ref (T 0), .ref (Y 0), .int X_ropes])), (R 0, .inr (3, [.ref (B 0), .ref (K 0), .ref (Q 0), .ref (R 1), .ref (R 2), .int R_hour, .int R_broken])), (B 0, .inr (0, [.ref (B 1), .ref (B 2), .ref (B 3), .ref (B 4), .ref (B 5), .ref (B 6), .ref (B 7), .ref (B 8), .ref (B 9), .ref (B 10), .ref (B 11), .int B_number])), aI c (B 6) 24 B_goods, aI c (B 8) 24 B_state]
abbrev rmX6_load : Room := { frames := 6, cells := 1, slots := 6, locals := 90 }
theorem yd_X6_load : yX6_load.cls = RX6 ∧ yX6_load.cls ≠ "java/lang/invoke/MethodHandle" ∧ yX6_load.cls ≠ "java/lang/invoke/VarHandle" ∧ (parseMethodDescriptor yX6_load.desc).map (fun d => d.parameters.length) = some 2 := by decide +kernel
theorem kwX6_load_7 : Cond.fieldLink RX6 19 "BarrelRaft" "raft" "LBarrelRaft$Raft;" ∈ wsX6_load := List.mem_of_getElem? (i := 7) rfl
set_option maxRecDepth 20000 in
theorem kinX6_load_X6 : ∀ w ∈ u_ws RX6 TX6 5, w ∈ wsX6_load := by decide +kernel
theorem kwX6_load_8 : Cond.fieldLink RX6 94 "BarrelRaft$Raft" "barrels" "LBarrelRaft$Barrels;" ∈ wsX6_load := List.mem_of_getElem? (i := 8) rfl
set_option maxRecDepth 20000 in
theorem kinX6_load_X3 : ∀ w ∈ u_ws RX3 TX3 7, w ∈ wsX6_load := by decide +kernel
theorem kwX6_load_3 : Cond.classLink RX6 41 "java/lang/IllegalArgumentException" ∈ wsX6_load := List.mem_of_getElem? (i := 3) rfl
theorem kwX6_load_4 : Cond.initialized "java/lang/IllegalArgumentException" ∈ wsX6_load := List.mem_of_getElem? (i := 4) rfl
theorem kwX6_load_9 : Cond.fieldLink RX6 176 "BarrelRaft$Barrels" "goods" "[I" ∈ wsX6_load := List.mem_of_getElem? (i := 9) rfl
set_option maxRecDepth 20000 in
theorem kinX6_load_X0 : ∀ w ∈ u_ws RX0 TX0 12, w ∈ wsX6_load := by decide +kernel
theorem kwX6_load_5 : Cond.classLink RX6 59 "java/lang/IllegalStateException" ∈ wsX6_load := List.mem_of_getElem? (i := 5) rfl
theorem kwX6_load_6 : Cond.initialized "java/lang/IllegalStateException" ∈ wsX6_load := List.mem_of_getElem? (i := 6) rfl
theorem kwX6_load_1 : Cond.classLink RX6 75 "java/lang/IndexOutOfBoundsException" ∈ wsX6_load := List.mem_of_getElem? (i := 1) rfl
theorem kwX6_load_2 : Cond.initialized "java/lang/IndexOutOfBoundsException" ∈ wsX6_load := List.mem_of_getElem? (i := 2) rfl
def jX6_load (B_number : Int32) (B_goods : Nat → Int32) (B_state : Nat → Int32) (a1 : Int32) (a2 : Int32) : Option (Nat ⊕ (Int32 × (Nat → Int32))) :=
  bnd (jX0_has B_number a1) (fun r1 => (if r1 = 0 then some (Sum.inl 3) else (if a2 < 0 then some (Sum.inl 1) else (if a2 ≤ 30 then bnd (jX0_floats B_number B_state a1) (fun r2 => (if r2 = 0 then some (Sum.inl 2) else chk 24 a1 (chk 24 a1 (some (Sum.inr (rd B_goods a1, wr B_goods a1 a2)))))) else some (Sum.inl 1)))))
theorem thX6_load_1 : ThOK wsX6_load rmX6_load 1 41 45 := ⟨kwX6_load_3, kwX6_load_4, fun w hw => List.mem_cons_of_mem _ (List.mem_append_left _ (List.mem_append_right _ hw)), th1_n, th1_o, by decide, by decide, by decide, by decide, by decide⟩
theorem thX6_load_2 : ThOK wsX6_load rmX6_load 2 59 63 := ⟨kwX6_load_5, kwX6_load_6, fun w hw => List.mem_cons_of_mem _ (List.mem_append_right _ hw), th2_n, th2_o, by decide, by decide, by decide, by decide, by decide⟩
theorem thX6_load_3 : ThOK wsX6_load rmX6_load 3 75 79 := ⟨kwX6_load_1, kwX6_load_2, fun w hw => List.mem_cons_of_mem _ (List.mem_append_left _ (List.mem_append_left _ (List.mem_append_right _ hw))), th3_n, th3_o, by decide, by decide, by decide, by decide, by decide⟩
set_option maxHeartbeats 4000000 in
set_option maxRecDepth 100000 in
theorem mt_X6_load (l : Launch) (hfl : l.stackTraces = false) (D : va_G) (c : Nat → ClassId) (X : Nat → Nat) (W : Nat → Nat) (R : Nat → Nat) (B : Nat → Nat) (K : Nat → Nat) (Q : Nat → Nat) (T : Nat → Nat) (Y : Nat → Nat) (X_ropes : Int32) (R_hour : Int32) (R_broken : Int32) (B_number : Int32) (B_goods : Nat → Int32) (B_state : Nat → Int32) (a1 : Int32) (a2 : Int32) (q0 : Nat ⊕ (Int32 × (Nat → Int32))) (h : jX6_load B_number B_goods B_state a1 a2 = some q0) : DXi l yX6_load wsX6_load rmX6_load D c (wX6_load c X W R B K Q T Y X_ropes R_hour R_broken B_number B_goods B_state) [.ref (X 0), .int a1, .int a2] q0 (fun (q0 : Int32 × (Nat → Int32)) => q0.1) (fun q0 => (wX6_load c X W R B K Q T Y X_ropes R_hour R_broken B_number q0.2 B_state)) 1 6 := by
  refine DXi_of (cc := cX6_load) (nL := 4) rfl (by decide) rfl (Nat.le_of_ble_eq_true rfl) hfl ⟨by decide, by decide⟩ (fun g C ret thr => ?_)
  unfold jX6_load at h
  refine vv_lv [0, 1, 2] [(0, .ref (X 0)), (1, .int a1), (2, .int a2)] rfl ?_
  refine vv_aload_n C dX6_load_0 rfl 0 rfl 1 rfl ?_
  refine vv_get C (q0 := 0) (ci := 6) (k := 1) kinX6_load_X6 rfl rfl (by decide) kwX6_load_7 rfl rfl dX6_load_1 4 rfl ?_
  refine vv_get C (q0 := 1) (ci := 3) (k := 0) kinX6_load_X3 rfl rfl (by decide) kwX6_load_8 rfl rfl dX6_load_4 7 rfl ?_
  refine vv_iload_n C dX6_load_7 rfl 1 rfl 8 rfl ?_
  obtain ⟨r1, hr1, h⟩ := bnd_s h
  refine vv_callVi C (fun l => mt_X0_has l D c B B_number a1 r1 hr1) gX6_load_X0_has rfl rfl rfl yd_X0_has ⟨Nat.le_of_ble_eq_true rfl, Nat.le_of_ble_eq_true rfl⟩ [2] rfl (by decide) 0 rfl rfl (wX6_load c X W R B K Q T Y X_ropes R_hour R_broken B_number B_goods B_state) [(false, 0), (false, 1), (true, 0), (false, 3), (false, 4)] rfl (by decide) rfl rfl [] rfl (Nat.le_of_ble_eq_true rfl) ⟨Nat.le_of_ble_eq_true rfl, Nat.le_of_ble_eq_true rfl⟩ dX6_load_8 11 0 0 rfl ⟨rfl, rfl⟩ ?_
  refine vv_if_ne C 24 14 dX6_load_11 (by decide) rfl (fun hc => ?_) (fun hc => ?_)
  · replace h := ite_f hc h
    refine vv_iload_n C dX6_load_24 rfl 2 rfl 25 rfl ?_
    refine vv_if_lt C 34 28 dX6_load_25 (by decide) rfl (fun hc => ?_) (fun hc => ?_)
    · replace h := ite_t hc h
      exact thr 1 (Option.some.inj h).symm 41 169 45 "no such goods" _ _ thX6_load_1 (by decide) dX6_load_34 dX6_load_37 dX6_load_38 dX6_load_40 dX6_load_43
    · replace h := ite_f hc h
      refine vv_iload_n C dX6_load_28 rfl 2 rfl 29 rfl ?_
      refine vv_bipush C (v := 30) dX6_load_29 (by decide) 31 rfl ?_
      refine vv_icmp_le C 44 34 dX6_load_31 (by decide) rfl (fun hc => ?_) (fun hc => ?_)
      · replace h := ite_t hc h
        refine vv_aload_n C dX6_load_44 rfl 0 rfl 45 rfl ?_
        refine vv_get C (q0 := 0) (ci := 6) (k := 1) kinX6_load_X6 rfl rfl (by decide) kwX6_load_7 rfl rfl dX6_load_45 48 rfl ?_
        refine vv_get C (q0 := 1) (ci := 3) (k := 0) kinX6_load_X3 rfl rfl (by decide) kwX6_load_8 rfl rfl dX6_load_48 51 rfl ?_
        refine vv_iload_n C dX6_load_51 rfl 1 rfl 52 rfl ?_
        obtain ⟨r2, hr2, h⟩ := bnd_s h
        refine vv_callVi C (fun l => mt_X0_floats l D c B B_number B_state a1 r2 hr2) gX6_load_X0_floats rfl rfl rfl yd_X0_floats ⟨Nat.le_of_ble_eq_true rfl, Nat.le_of_ble_eq_true rfl⟩ [2, 4] rfl (by decide) 0 rfl rfl (wX6_load c X W R B K Q T Y X_ropes R_hour R_broken B_number B_goods B_state) [(false, 0), (false, 1), (true, 0), (false, 3), (true, 1)] rfl (by decide) rfl rfl [] rfl (Nat.le_of_ble_eq_true rfl) ⟨Nat.le_of_ble_eq_true rfl, Nat.le_of_ble_eq_true rfl⟩ dX6_load_52 55 0 0 rfl ⟨rfl, rfl⟩ ?_
        refine vv_if_ne C 68 58 dX6_load_55 (by decide) rfl (fun hc => ?_) (fun hc => ?_)
        · replace h := ite_f hc h
          refine vv_aload_n C dX6_load_68 rfl 0 rfl 69 rfl ?_
          refine vv_get C (q0 := 0) (ci := 6) (k := 1) kinX6_load_X6 rfl rfl (by decide) kwX6_load_7 rfl rfl dX6_load_69 72 rfl ?_
          refine vv_get C (q0 := 1) (ci := 3) (k := 0) kinX6_load_X3 rfl rfl (by decide) kwX6_load_8 rfl rfl dX6_load_72 75 rfl ?_
          refine vv_get C (q0 := 2) (ci := 0) (k := 5) kinX6_load_X0 rfl rfl (by decide) kwX6_load_9 rfl rfl dX6_load_75 78 rfl ?_
          refine vv_iload_n C dX6_load_78 rfl 1 rfl 79 rfl ?_
          obtain ⟨hi, h⟩ := chk_s h
          refine vv_iald C (q0 := 3) rfl hi dX6_load_79 80 rfl ?_
          refine vv_istore_n C [(3, .int (rd B_goods a1)), (0, .ref (X 0)), (1, .int a1), (2, .int a2)] dX6_load_80 rfl (by decide) rfl 81 rfl ?_
          refine vv_aload_n C dX6_load_81 rfl 1 rfl 82 rfl ?_
          refine vv_get C (q0 := 0) (ci := 6) (k := 1) kinX6_load_X6 rfl rfl (by decide) kwX6_load_7 rfl rfl dX6_load_82 85 rfl ?_
          refine vv_get C (q0 := 1) (ci := 3) (k := 0) kinX6_load_X3 rfl rfl (by decide) kwX6_load_8 rfl rfl dX6_load_85 88 rfl ?_
          refine vv_get C (q0 := 2) (ci := 0) (k := 5) kinX6_load_X0 rfl rfl (by decide) kwX6_load_9 rfl rfl dX6_load_88 91 rfl ?_
          refine vv_iload_n C dX6_load_91 rfl 2 rfl 92 rfl ?_
          refine vv_iload_n C dX6_load_92 rfl 3 rfl 93 rfl ?_
          obtain ⟨hi, h⟩ := chk_s h
          refine vv_iast C (q0 := 3) (wX6_load c X W R B K Q T Y X_ropes R_hour R_broken B_number (wr B_goods a1 a2) B_state) rfl hi rfl dX6_load_93 94 rfl ?_
          refine vv_iload_n C dX6_load_94 rfl 0 rfl 95 rfl ?_
          refine vv_widen (k := 1) (n := 6) (by decide) (by decide) ?_
          exact ret _ (Option.some.inj h).symm _ _ dX6_load_95
        · replace h := ite_t hc h
          exact thr 2 (Option.some.inj h).symm 59 174 63 "the barrel does not float" _ _ thX6_load_2 (by decide) dX6_load_58 dX6_load_61 dX6_load_62 dX6_load_64 dX6_load_67
      · replace h := ite_f hc h
        exact thr 1 (Option.some.inj h).symm 41 169 45 "no such goods" _ _ thX6_load_1 (by decide) dX6_load_34 dX6_load_37 dX6_load_38 dX6_load_40 dX6_load_43
  · replace h := ite_t hc h
    exact thr 3 (Option.some.inj h).symm 75 127 79 "no such barrel" _ _ thX6_load_3 (by decide) dX6_load_14 dX6_load_17 dX6_load_18 dX6_load_20 dX6_load_23
abbrev wX6_pass (c : Nat → ClassId) (X : Nat → Nat) (W : Nat → Nat) (R : Nat → Nat) (B : Nat → Nat) (K : Nat → Nat) (Q : Nat → Nat) (T : Nat → Nat) (Y : Nat → Nat) (X_ropes : Int32) (W_number : Int32) (W_windDx : Int32) (W_windDy : Int32) (W_dx : Nat → Int32) (W_dy : Nat → Int32) (W_wave : Nat → Int32) (W_counting : Nat → Int32) (R_hour : Int32) (R_broken : Int32) (R_pieceLift : Nat → Int32) (R_pieceLoad : Nat → Int32) (B_number : Int32) (B_lift : Nat → Int32) (B_leak : Nat → Int32) (B_water : Nat → Int32) (B_goods : Nat → Int32) (B_people : Nat → Int32) (B_state : Nat → Int32) (B_x : Nat → Int32) (B_y : Nat → Int32) (B_piece : Nat → Int32) (K_number : Int32) (K_seat : Nat → Int32) (K_state : Nat → Int32) (Q_number : Int32) (Q_first : Nat → Int32) (Q_second : Nat → Int32) (Q_strength : Nat → Int32) (Q_wear : Nat → Int32) : va_W := [(X 0, .inr (6, [.ref (W 0), .ref (R 0), .ref (T 0), .ref (Y 0), .int X_ropes])), (W 0, .inr (4, [.ref (W 1), .ref (W 2), .ref (W 3), .ref (W 4), .int W_number, .int W_windDx, .int W_windDy])), aI c (W 1) 8 W_dx, aI c (W 2) 8 W_dy, aI c (W 3) 8 W_wave, aI c (W 4) 600 W_counting, (R 0, .inr (3, [.ref (B 0), .ref (K 0), .ref (Q 0), .ref (R 1), .ref (R 2), .int R_hour, .int R_broken])), aI c (R 1) 24 R_pieceLift, aI c (R 2) 24 R_pieceLoad, (B 0, .inr (0, [.ref (B 1), .ref (B 2), .ref (B 3), .ref (B 4), .ref (B 5), .ref (B 6), .ref (B 7), .ref (B 8), .ref (B 9), .ref (B 10), .ref (B 11), .int B_number])), aI c (B 3) 24 B_lift, aI c (B 4) 24 B_leak, aI c (B 5) 24 B_water, aI c (B 6) 24 B_goods, aI c (B 7) 24 B_people, aI c (B 8) 24 B_state, aI c (B 9) 24 B_x, aI c (B 10) 24 B_y, aI c (B 11) 24 B_piece, (K 0, .inr (1, [.ref (K 1), .ref (K 2), .int K_number])), aI c (K 1) 8 K_seat, aI c (K 2) 8 K_state, (Q 0, .inr (2, [.ref (Q 1), .ref (Q 2), .ref (Q 3), .ref (Q 4), .int Q_number])), aI c (Q 1) 48 Q_first, aI c (Q 2) 48 Q_second, aI c (Q 3) 48 Q_strength, aI c (Q 4) 48 Q_wear]
abbrev rmX6_pass : Room := { frames := 6, cells := 1, slots := 6, locals := 115 }
theorem yd_X6_pass : yX6_pass.cls = RX6 ∧ yX6_pass.cls ≠ "java/lang/invoke/MethodHandle" ∧ yX6_pass.cls ≠ "java/lang/invoke/VarHandle" ∧ (parseMethodDescriptor yX6_pass.desc).map (fun d => d.parameters.length) = some 1 := by decide +kernel
theorem kwX6_pass_1 : Cond.classLink RX6 41 "java/lang/IllegalArgumentException" ∈ wsX6_pass := List.mem_of_getElem? (i := 1) rfl
theorem kwX6_pass_2 : Cond.initialized "java/lang/IllegalArgumentException" ∈ wsX6_pass := List.mem_of_getElem? (i := 2) rfl
theorem kwX6_pass_3 : Cond.fieldLink RX6 19 "BarrelRaft" "raft" "LBarrelRaft$Raft;" ∈ wsX6_pass := List.mem_of_getElem? (i := 3) rfl
set_option maxRecDepth 20000 in
theorem kinX6_pass_X6 : ∀ w ∈ u_ws RX6 TX6 5, w ∈ wsX6_pass := by decide +kernel
theorem kwX6_pass_4 : Cond.fieldLink RX6 231 "BarrelRaft$Raft" "broken" "I" ∈ wsX6_pass := List.mem_of_getElem? (i := 4) rfl
set_option maxRecDepth 20000 in
theorem kinX6_pass_X3 : ∀ w ∈ u_ws RX3 TX3 7, w ∈ wsX6_pass := by decide +kernel
theorem kwX6_pass_5 : Cond.fieldLink RX6 12 "BarrelRaft" "waters" "LBarrelRaft$Waters;" ∈ wsX6_pass := List.mem_of_getElem? (i := 5) rfl
def jX6_pass (W_number : Int32) (W_windDx : Int32) (W_windDy : Int32) (W_dx : Nat → Int32) (W_dy : Nat → Int32) (W_wave : Nat → Int32) (W_counting : Nat → Int32) (R_hour : Int32) (R_broken : Int32) (R_pieceLift : Nat → Int32) (R_pieceLoad : Nat → Int32) (B_number : Int32) (B_lift : Nat → Int32) (B_leak : Nat → Int32) (B_water : Nat → Int32) (B_goods : Nat → Int32) (B_people : Nat → Int32) (B_state : Nat → Int32) (B_x : Nat → Int32) (B_y : Nat → Int32) (B_piece : Nat → Int32) (K_number : Int32) (K_seat : Nat → Int32) (K_state : Nat → Int32) (Q_number : Int32) (Q_first : Nat → Int32) (Q_second : Nat → Int32) (Q_strength : Nat → Int32) (Q_wear : Nat → Int32) (a1 : Int32) : Option (Nat ⊕ (Int32 × Int32 × Int32 × (Nat → Int32) × (Nat → Int32) × (Nat → Int32) × (Nat → Int32) × (Nat → Int32) × (Nat → Int32) × (Nat → Int32) × (Nat → Int32) × (Nat → Int32) × (Nat → Int32) × (Nat → Int32) × Int32 × (Nat → Int32) × (Nat → Int32) × (Nat → Int32) × (Nat → Int32))) :=
  (if a1 < 1 then some (Sum.inl 1) else (if a1 ≤ 100 then bnd (jX3_passHours R_hour R_broken R_pieceLift R_pieceLoad B_number B_lift B_leak B_water B_goods B_people B_state B_x B_y B_piece K_number K_seat K_state Q_number Q_first Q_second Q_strength Q_wear W_number W_windDx W_windDy W_dx W_dy W_wave W_counting a1) (fun r1 => some (Sum.inr (r1.2.1 - R_broken, r1.1, r1.2.1, r1.2.2.1, r1.2.2.2.1, r1.2.2.2.2.1, r1.2.2.2.2.2.1, r1.2.2.2.2.2.2.1, r1.2.2.2.2.2.2.2.1, r1.2.2.2.2.2.2.2.2.1, r1.2.2.2.2.2.2.2.2.2.1, r1.2.2.2.2.2.2.2.2.2.2.1, r1.2.2.2.2.2.2.2.2.2.2.2.1, r1.2.2.2.2.2.2.2.2.2.2.2.2.1, r1.2.2.2.2.2.2.2.2.2.2.2.2.2.1, r1.2.2.2.2.2.2.2.2.2.2.2.2.2.2.1, r1.2.2.2.2.2.2.2.2.2.2.2.2.2.2.2.1, r1.2.2.2.2.2.2.2.2.2.2.2.2.2.2.2.2.1, r1.2.2.2.2.2.2.2.2.2.2.2.2.2.2.2.2.2))) else some (Sum.inl 1)))
theorem thX6_pass_1 : ThOK wsX6_pass rmX6_pass 1 41 45 := ⟨kwX6_pass_1, kwX6_pass_2, fun w hw => List.mem_cons_of_mem _ (List.mem_append_right _ hw), th1_n, th1_o, by decide, by decide, by decide, by decide, by decide⟩
set_option maxHeartbeats 4000000 in
set_option maxRecDepth 100000 in
theorem mt_X6_pass (l : Launch) (hfl : l.stackTraces = false) (D : va_G) (c : Nat → ClassId) (X : Nat → Nat) (W : Nat → Nat) (R : Nat → Nat) (B : Nat → Nat) (K : Nat → Nat) (Q : Nat → Nat) (T : Nat → Nat) (Y : Nat → Nat) (X_ropes : Int32) (W_number : Int32) (W_windDx : Int32) (W_windDy : Int32) (W_dx : Nat → Int32) (W_dy : Nat → Int32) (W_wave : Nat → Int32) (W_counting : Nat → Int32) (R_hour : Int32) (R_broken : Int32) (R_pieceLift : Nat → Int32) (R_pieceLoad : Nat → Int32) (B_number : Int32) (B_lift : Nat → Int32) (B_leak : Nat → Int32) (B_water : Nat → Int32) (B_goods : Nat → Int32) (B_people : Nat → Int32) (B_state : Nat → Int32) (B_x : Nat → Int32) (B_y : Nat → Int32) (B_piece : Nat → Int32) (K_number : Int32) (K_seat : Nat → Int32) (K_state : Nat → Int32) (Q_number : Int32) (Q_first : Nat → Int32) (Q_second : Nat → Int32) (Q_strength : Nat → Int32) (Q_wear : Nat → Int32) (a1 : Int32) (q0 : Nat ⊕ (Int32 × Int32 × Int32 × (Nat → Int32) × (Nat → Int32) × (Nat → Int32) × (Nat → Int32) × (Nat → Int32) × (Nat → Int32) × (Nat → Int32) × (Nat → Int32) × (Nat → Int32) × (Nat → Int32) × (Nat → Int32) × Int32 × (Nat → Int32) × (Nat → Int32) × (Nat → Int32) × (Nat → Int32))) (h : jX6_pass W_number W_windDx W_windDy W_dx W_dy W_wave W_counting R_hour R_broken R_pieceLift R_pieceLoad B_number B_lift B_leak B_water B_goods B_people B_state B_x B_y B_piece K_number K_seat K_state Q_number Q_first Q_second Q_strength Q_wear a1 = some q0) : DXi l yX6_pass wsX6_pass rmX6_pass D c (wX6_pass c X W R B K Q T Y X_ropes W_number W_windDx W_windDy W_dx W_dy W_wave W_counting R_hour R_broken R_pieceLift R_pieceLoad B_number B_lift B_leak B_water B_goods B_people B_state B_x B_y B_piece K_number K_seat K_state Q_number Q_first Q_second Q_strength Q_wear) [.ref (X 0), .int a1] q0 (fun (q0 : Int32 × Int32 × Int32 × (Nat → Int32) × (Nat → Int32) × (Nat → Int32) × (Nat → Int32) × (Nat → Int32) × (Nat → Int32) × (Nat → Int32) × (Nat → Int32) × (Nat → Int32) × (Nat → Int32) × (Nat → Int32) × Int32 × (Nat → Int32) × (Nat → Int32) × (Nat → Int32) × (Nat → Int32)) => q0.1) (fun q0 => (wX6_pass c X W R B K Q T Y X_ropes W_number W_windDx W_windDy W_dx W_dy W_wave W_counting q0.2.1 q0.2.2.1 q0.2.2.2.1 q0.2.2.2.2.1 B_number B_lift B_leak q0.2.2.2.2.2.1 q0.2.2.2.2.2.2.1 q0.2.2.2.2.2.2.2.1 q0.2.2.2.2.2.2.2.2.1 q0.2.2.2.2.2.2.2.2.2.1 q0.2.2.2.2.2.2.2.2.2.2.1 q0.2.2.2.2.2.2.2.2.2.2.2.1 K_number q0.2.2.2.2.2.2.2.2.2.2.2.2.1 q0.2.2.2.2.2.2.2.2.2.2.2.2.2.1 q0.2.2.2.2.2.2.2.2.2.2.2.2.2.2.1 q0.2.2.2.2.2.2.2.2.2.2.2.2.2.2.2.1 q0.2.2.2.2.2.2.2.2.2.2.2.2.2.2.2.2.1 q0.2.2.2.2.2.2.2.2.2.2.2.2.2.2.2.2.2.1 q0.2.2.2.2.2.2.2.2.2.2.2.2.2.2.2.2.2.2)) 1 6 := by
  refine DXi_of (cc := cX6_pass) (nL := 3) rfl (by decide) rfl (Nat.le_of_ble_eq_true rfl) hfl ⟨by decide, by decide⟩ (fun g C ret thr => ?_)
  unfold jX6_pass at h
  refine vv_lv [0, 1] [(0, .ref (X 0)), (1, .int a1)] rfl ?_
  refine vv_iload_n C dX6_pass_0 rfl 1 rfl 1 rfl ?_
  refine vv_iconst C (v := 1) dX6_pass_1 (by decide) 2 rfl ?_
  refine vv_icmp_lt C 11 5 dX6_pass_2 (by decide) rfl (fun hc => ?_) (fun hc => ?_)
  · replace h := ite_t hc h
    exact thr 1 (Option.some.inj h).symm 41 229 45 "no such hours" _ _ thX6_pass_1 (by decide) dX6_pass_11 dX6_pass_14 dX6_pass_15 dX6_pass_17 dX6_pass_20
  · replace h := ite_f hc h
    refine vv_iload_n C dX6_pass_5 rfl 1 rfl 6 rfl ?_
    refine vv_bipush C (v := 100) dX6_pass_6 (by decide) 8 rfl ?_
    refine vv_icmp_le C 21 11 dX6_pass_8 (by decide) rfl (fun hc => ?_) (fun hc => ?_)
    · replace h := ite_t hc h
      refine vv_aload_n C dX6_pass_21 rfl 0 rfl 22 rfl ?_
      refine vv_get C (q0 := 0) (ci := 6) (k := 1) kinX6_pass_X6 rfl rfl (by decide) kwX6_pass_3 rfl rfl dX6_pass_22 25 rfl ?_
      refine vv_get C (q0 := 6) (ci := 3) (k := 6) kinX6_pass_X3 rfl rfl (by decide) kwX6_pass_4 rfl rfl dX6_pass_25 28 rfl ?_
      refine vv_istore_n C [(2, .int R_broken), (0, .ref (X 0)), (1, .int a1)] dX6_pass_28 rfl (by decide) rfl 29 rfl ?_
      refine vv_aload_n C dX6_pass_29 rfl 1 rfl 30 rfl ?_
      refine vv_get C (q0 := 0) (ci := 6) (k := 1) kinX6_pass_X6 rfl rfl (by decide) kwX6_pass_3 rfl rfl dX6_pass_30 33 rfl ?_
      refine vv_iload_n C dX6_pass_33 rfl 2 rfl 34 rfl ?_
      refine vv_aload_n C dX6_pass_34 rfl 1 rfl 35 rfl ?_
      refine vv_get C (q0 := 0) (ci := 6) (k := 0) kinX6_pass_X6 rfl rfl (by decide) kwX6_pass_5 rfl rfl dX6_pass_35 38 rfl ?_
      obtain ⟨r1, hr1, h⟩ := bnd_s h
      refine vv_callVv C (fun l => mt_X3_passHours l D c R B K Q W R_hour R_broken R_pieceLift R_pieceLoad B_number B_lift B_leak B_water B_goods B_people B_state B_x B_y B_piece K_number K_seat K_state Q_number Q_first Q_second Q_strength Q_wear W_number W_windDx W_windDy W_dx W_dy W_wave W_counting a1 r1 hr1) gX6_pass_X3_passHours rfl rfl rfl yd_X3_passHours ⟨Nat.le_of_ble_eq_true rfl, Nat.le_of_ble_eq_true rfl⟩ [6, 7, 8, 9, 10, 11, 12, 13, 14, 15, 16, 17, 18, 19, 20, 21, 22, 23, 24, 25, 26, 1, 2, 3, 4, 5] rfl (by decide) 0 rfl rfl (wX6_pass c X W R B K Q T Y X_ropes W_number W_windDx W_windDy W_dx W_dy W_wave W_counting r1.1 r1.2.1 r1.2.2.1 r1.2.2.2.1 B_number B_lift B_leak r1.2.2.2.2.1 r1.2.2.2.2.2.1 r1.2.2.2.2.2.2.1 r1.2.2.2.2.2.2.2.1 r1.2.2.2.2.2.2.2.2.1 r1.2.2.2.2.2.2.2.2.2.1 r1.2.2.2.2.2.2.2.2.2.2.1 K_number r1.2.2.2.2.2.2.2.2.2.2.2.1 r1.2.2.2.2.2.2.2.2.2.2.2.2.1 r1.2.2.2.2.2.2.2.2.2.2.2.2.2.1 r1.2.2.2.2.2.2.2.2.2.2.2.2.2.2.1 r1.2.2.2.2.2.2.2.2.2.2.2.2.2.2.2.1 r1.2.2.2.2.2.2.2.2.2.2.2.2.2.2.2.2.1 r1.2.2.2.2.2.2.2.2.2.2.2.2.2.2.2.2.2) [(false, 0), (true, 21), (true, 22), (true, 23), (true, 24), (true, 25), (true, 0), (true, 1), (true, 2), (true, 3), (true, 4), (true, 5), (true, 6), (true, 7), (true, 8), (true, 9), (true, 10), (true, 11), (true, 12), (true, 13), (true, 14), (true, 15), (true, 16), (true, 17), (true, 18), (true, 19), (true, 20)] rfl (by decide) rfl rfl [] rfl (Nat.le_of_ble_eq_true rfl) ⟨Nat.le_of_ble_eq_true rfl, Nat.le_of_ble_eq_true rfl⟩ dX6_pass_38 41 0 0 rfl ⟨rfl, rfl⟩ ?_
      refine vv_aload_n C dX6_pass_41 rfl 1 rfl 42 rfl ?_
      refine vv_get C (q0 := 0) (ci := 6) (k := 1) kinX6_pass_X6 rfl rfl (by decide) kwX6_pass_3 rfl rfl dX6_pass_42 45 rfl ?_
      refine vv_get C (q0 := 6) (ci := 3) (k := 6) kinX6_pass_X3 rfl rfl (by decide) kwX6_pass_4 rfl rfl dX6_pass_45 48 rfl ?_
      refine vv_iload_n C dX6_pass_48 rfl 0 rfl 49 rfl ?_
      refine vv_isub C dX6_pass_49 50 rfl ?_
      refine vv_widen (k := 1) (n := 6) (by decide) (by decide) ?_
      exact ret _ (Option.some.inj h).symm _ _ dX6_pass_50
    · replace h := ite_f hc h
      exact thr 1 (Option.some.inj h).symm 41 229 45 "no such hours" _ _ thX6_pass_1 (by decide) dX6_pass_11 dX6_pass_14 dX6_pass_15 dX6_pass_17 dX6_pass_20
abbrev wX6_piece (c : Nat → ClassId) (X : Nat → Nat) (W : Nat → Nat) (R : Nat → Nat) (B : Nat → Nat) (K : Nat → Nat) (Q : Nat → Nat) (T : Nat → Nat) (Y : Nat → Nat) (X_ropes : Int32) (R_hour : Int32) (R_broken : Int32) (B_number : Int32) (B_lift : Nat → Int32) (B_water : Nat → Int32) (B_goods : Nat → Int32) (B_people : Nat → Int32) (B_piece : Nat → Int32) (Q_number : Int32) (Q_first : Nat → Int32) (Q_second : Nat → Int32) (Y_used : Nat → Int32) (Y_cameBy : Nat → Int32) (Y_reached : Nat → Int32) : va_W := [(X 0, .inr (6, [.ref (W 0), .ref (R 0), .ref (T 0), .ref (Y 0), .int X_ropes])), (R 0, .inr (3, [.ref (B 0), .ref (K 0), .ref (Q 0), .ref (R 1), .ref (R 2), .int R_hour, .int R_broken])), (B 0, .inr (0, [.ref (B 1), .ref (B 2), .ref (B 3), .ref (B 4), .ref (B 5), .ref (B 6), .ref (B 7), .ref (B 8), .ref (B 9), .ref (B 10), .ref (B 11), .int B_number])), aI c (B 3) 24 B_lift, aI c (B 5) 24 B_water, aI c (B 6) 24 B_goods, aI c (B 7) 24 B_people, aI c (B 11) 24 B_piece, (Q 0, .inr (2, [.ref (Q 1), .ref (Q 2), .ref (Q 3), .ref (Q 4), .int Q_number])), aI c (Q 1) 48 Q_first, aI c (Q 2) 48 Q_second, (Y 0, .inr (5, [.ref (Y 1), .ref (Y 2), .ref (Y 3), .ref (Y 4)])), aI c (Y 1) 48 Y_used, aI c (Y 2) 24 Y_cameBy, aI c (Y 3) 24 Y_reached]
abbrev rmX6_piece : Room := { frames := 6, cells := 1, slots := 6, locals := 124 }
theorem yd_X6_piece : yX6_piece.cls = RX6 ∧ yX6_piece.cls ≠ "java/lang/invoke/MethodHandle" ∧ yX6_piece.cls ≠ "java/lang/invoke/VarHandle" ∧ (parseMethodDescriptor yX6_piece.desc).map (fun d => d.parameters.length) = some 2 := by decide +kernel
theorem kwX6_piece_3 : Cond.fieldLink RX6 19 "BarrelRaft" "raft" "LBarrelRaft$Raft;" ∈ wsX6_piece := List.mem_of_getElem? (i := 3) rfl
set_option maxRecDepth 20000 in
theorem kinX6_piece_X6 : ∀ w ∈ u_ws RX6 TX6 5, w ∈ wsX6_piece := by decide +kernel
theorem kwX6_piece_4 : Cond.fieldLink RX6 94 "BarrelRaft$Raft" "barrels" "LBarrelRaft$Barrels;" ∈ wsX6_piece := List.mem_of_getElem? (i := 4) rfl
set_option maxRecDepth 20000 in
theorem kinX6_piece_X3 : ∀ w ∈ u_ws RX3 TX3 7, w ∈ wsX6_piece := by decide +kernel
theorem kwX6_piece_1 : Cond.classLink RX6 75 "java/lang/IndexOutOfBoundsException" ∈ wsX6_piece := List.mem_of_getElem? (i := 1) rfl
theorem kwX6_piece_2 : Cond.initialized "java/lang/IndexOutOfBoundsException" ∈ wsX6_piece := List.mem_of_getElem? (i := 2) rfl
theorem kwX6_piece_5 : Cond.fieldLink RX6 250 "BarrelRaft$Barrels" "piece" "[I" ∈ wsX6_piece := List.mem_of_getElem? (i := 5) rfl
set_option maxRecDepth 20000 in
theorem kinX6_piece_X0 : ∀ w ∈ u_ws RX0 TX0 12, w ∈ wsX6_piece := by decide +kernel
def jX6_piece (B_number : Int32) (B_lift : Nat → Int32) (B_water : Nat → Int32) (B_goods : Nat → Int32) (B_people : Nat → Int32) (B_piece : Nat → Int32) (Q_number : Int32) (Q_first : Nat → Int32) (Q_second : Nat → Int32) (Y_used : Nat → Int32) (Y_cameBy : Nat → Int32) (Y_reached : Nat → Int32) (a1 : Int32) (a2 : Int32) : Option (Nat ⊕ (Int32 × (Nat → Int32) × (Nat → Int32) × (Nat → Int32))) :=
  bnd (jX0_has B_number a1) (fun r1 => (if r1 = 0 then some (Sum.inl 3) else bnd (jX6_isBelow a2 5) (fun r2 => (if r2 = 0 then some (Sum.inl 3) else chk 24 a1 ((if 0 ≤ rd B_piece a1 then (if a2 = 4 then bnd (jX6_singleLashings B_piece Q_number Q_first Q_second Y_used Y_cameBy Y_reached (rd B_piece a1)) (fun r4 => some (Sum.inr (r4.1, r4.2.1, r4.2.2.1, r4.2.2.2))) else bnd (jX6_pieceSum B_number B_lift B_water B_goods B_people B_piece (rd B_piece a1) a2) (fun r3 => some (Sum.inr (r3, Y_used, Y_cameBy, Y_reached)))) else some (Sum.inr (0, Y_used, Y_cameBy, Y_reached))))))))
theorem thX6_piece_3 : ThOK wsX6_piece rmX6_piece 3 75 79 := ⟨kwX6_piece_1, kwX6_piece_2, fun w hw => List.mem_cons_of_mem _ (List.mem_append_right _ hw), th3_n, th3_o, by decide, by decide, by decide, by decide, by decide⟩
set_option maxHeartbeats 4000000 in
set_option maxRecDepth 100000 in
theorem mt_X6_piece (l : Launch) (hfl : l.stackTraces = false) (D : va_G) (c : Nat → ClassId) (X : Nat → Nat) (W : Nat → Nat) (R : Nat → Nat) (B : Nat → Nat) (K : Nat → Nat) (Q : Nat → Nat) (T : Nat → Nat) (Y : Nat → Nat) (X_ropes : Int32) (R_hour : Int32) (R_broken : Int32) (B_number : Int32) (B_lift : Nat → Int32) (B_water : Nat → Int32) (B_goods : Nat → Int32) (B_people : Nat → Int32) (B_piece : Nat → Int32) (Q_number : Int32) (Q_first : Nat → Int32) (Q_second : Nat → Int32) (Y_used : Nat → Int32) (Y_cameBy : Nat → Int32) (Y_reached : Nat → Int32) (a1 : Int32) (a2 : Int32) (q0 : Nat ⊕ (Int32 × (Nat → Int32) × (Nat → Int32) × (Nat → Int32))) (h : jX6_piece B_number B_lift B_water B_goods B_people B_piece Q_number Q_first Q_second Y_used Y_cameBy Y_reached a1 a2 = some q0) : DXi l yX6_piece wsX6_piece rmX6_piece D c (wX6_piece c X W R B K Q T Y X_ropes R_hour R_broken B_number B_lift B_water B_goods B_people B_piece Q_number Q_first Q_second Y_used Y_cameBy Y_reached) [.ref (X 0), .int a1, .int a2] q0 (fun (q0 : Int32 × (Nat → Int32) × (Nat → Int32) × (Nat → Int32)) => q0.1) (fun q0 => (wX6_piece c X W R B K Q T Y X_ropes R_hour R_broken B_number B_lift B_water B_goods B_people B_piece Q_number Q_first Q_second q0.2.1 q0.2.2.1 q0.2.2.2)) 1 6 := by
  refine DXi_of (cc := cX6_piece) (nL := 4) rfl (by decide) rfl (Nat.le_of_ble_eq_true rfl) hfl ⟨by decide, by decide⟩ (fun g C ret thr => ?_)
  unfold jX6_piece at h
  refine vv_lv [0, 1, 2] [(0, .ref (X 0)), (1, .int a1), (2, .int a2)] rfl ?_
  refine vv_aload_n C dX6_piece_0 rfl 0 rfl 1 rfl ?_
  refine vv_get C (q0 := 0) (ci := 6) (k := 1) kinX6_piece_X6 rfl rfl (by decide) kwX6_piece_3 rfl rfl dX6_piece_1 4 rfl ?_
  refine vv_get C (q0 := 1) (ci := 3) (k := 0) kinX6_piece_X3 rfl rfl (by decide) kwX6_piece_4 rfl rfl dX6_piece_4 7 rfl ?_
  refine vv_iload_n C dX6_piece_7 rfl 1 rfl 8 rfl ?_
  obtain ⟨r1, hr1, h⟩ := bnd_s h
  refine vv_callVi C (fun l => mt_X0_has l D c B B_number a1 r1 hr1) gX6_piece_X0_has rfl rfl rfl yd_X0_has ⟨Nat.le_of_ble_eq_true rfl, Nat.le_of_ble_eq_true rfl⟩ [2] rfl (by decide) 0 rfl rfl (wX6_piece c X W R B K Q T Y X_ropes R_hour R_broken B_number B_lift B_water B_goods B_people B_piece Q_number Q_first Q_second Y_used Y_cameBy Y_reached) [(false, 0), (false, 1), (true, 0), (false, 3), (false, 4), (false, 5), (false, 6), (false, 7), (false, 8), (false, 9), (false, 10), (false, 11), (false, 12), (false, 13), (false, 14)] rfl (by decide) rfl rfl [] rfl (Nat.le_of_ble_eq_true rfl) ⟨Nat.le_of_ble_eq_true rfl, Nat.le_of_ble_eq_true rfl⟩ dX6_piece_8 11 0 0 rfl ⟨rfl, rfl⟩ ?_
  refine vv_if_eq C 22 14 dX6_piece_11 (by decide) rfl (fun hc => ?_) (fun hc => ?_)
  · replace h := ite_t hc h
    exact thr 3 (Option.some.inj h).symm 75 180 79 "no such barrel or question" _ _ thX6_piece_3 (by decide) dX6_piece_22 dX6_piece_25 dX6_piece_26 dX6_piece_28 dX6_piece_31
  · replace h := ite_f hc h
    refine vv_iload_n C dX6_piece_14 rfl 2 rfl 15 rfl ?_
    refine vv_iconst C (v := 5) dX6_piece_15 (by decide) 16 rfl ?_
    obtain ⟨r2, hr2, h⟩ := bnd_s h
    refine vv_callSi C (fun l => mt_X6_isBelow l D c a2 5 r2 hr2) gX6_piece_X6_isBelow rfl rfl rfl yd_X6_isBelow ⟨Nat.le_of_ble_eq_true rfl, Nat.le_of_ble_eq_true rfl⟩ [] rfl (by decide) (wX6_piece c X W R B K Q T Y X_ropes R_hour R_broken B_number B_lift B_water B_goods B_people B_piece Q_number Q_first Q_second Y_used Y_cameBy Y_reached) [(false, 0), (false, 1), (false, 2), (false, 3), (false, 4), (false, 5), (false, 6), (false, 7), (false, 8), (false, 9), (false, 10), (false, 11), (false, 12), (false, 13), (false, 14)] rfl (by decide) rfl rfl [] rfl (Nat.le_of_ble_eq_true rfl) ⟨Nat.le_of_ble_eq_true rfl, Nat.le_of_ble_eq_true rfl⟩ dX6_piece_16 19 0 0 rfl ⟨rfl, rfl⟩ ?_
    refine vv_if_ne C 32 22 dX6_piece_19 (by decide) rfl (fun hc => ?_) (fun hc => ?_)
    · replace h := ite_f hc h
      refine vv_aload_n C dX6_piece_32 rfl 0 rfl 33 rfl ?_
      refine vv_get C (q0 := 0) (ci := 6) (k := 1) kinX6_piece_X6 rfl rfl (by decide) kwX6_piece_3 rfl rfl dX6_piece_33 36 rfl ?_
      refine vv_get C (q0 := 1) (ci := 3) (k := 0) kinX6_piece_X3 rfl rfl (by decide) kwX6_piece_4 rfl rfl dX6_piece_36 39 rfl ?_
      refine vv_get C (q0 := 2) (ci := 0) (k := 10) kinX6_piece_X0 rfl rfl (by decide) kwX6_piece_5 rfl rfl dX6_piece_39 42 rfl ?_
      refine vv_iload_n C dX6_piece_42 rfl 1 rfl 43 rfl ?_
      obtain ⟨hi, h⟩ := chk_s h
      refine vv_iald C (q0 := 7) rfl hi dX6_piece_43 44 rfl ?_
      refine vv_istore_n C [(3, .int (rd B_piece a1)), (0, .ref (X 0)), (1, .int a1), (2, .int a2)] dX6_piece_44 rfl (by decide) rfl 45 rfl ?_
      refine vv_iload_n C dX6_piece_45 rfl 0 rfl 46 rfl ?_
      refine vv_if_ge C 51 49 dX6_piece_46 (by decide) rfl (fun hc => ?_) (fun hc => ?_)
      · replace h := ite_t hc h
        refine vv_iload_n C dX6_piece_51 rfl 3 rfl 52 rfl ?_
        refine vv_iconst C (v := 4) dX6_piece_52 (by decide) 53 rfl ?_
        refine vv_icmp_ne C 64 56 dX6_piece_53 (by decide) rfl (fun hc => ?_) (fun hc => ?_)
        · replace h := ite_f hc h
          refine vv_aload_n C dX6_piece_64 rfl 1 rfl 65 rfl ?_
          refine vv_iload_n C dX6_piece_65 rfl 0 rfl 66 rfl ?_
          refine vv_iload_n C dX6_piece_66 rfl 3 rfl 67 rfl ?_
          obtain ⟨r3, hr3, h⟩ := bnd_s h
          refine vv_callVi C (fun l => mt_X6_pieceSum l D c X W R B K Q T Y X_ropes R_hour R_broken B_number B_lift B_water B_goods B_people B_piece (rd B_piece a1) a2 r3 hr3) gX6_piece_X6_pieceSum rfl rfl rfl yd_X6_pieceSum ⟨Nat.le_of_ble_eq_true rfl, Nat.le_of_ble_eq_true rfl⟩ [0, 1, 2, 3, 4, 5, 6, 7] rfl (by decide) 0 rfl rfl (wX6_piece c X W R B K Q T Y X_ropes R_hour R_broken B_number B_lift B_water B_goods B_people B_piece Q_number Q_first Q_second Y_used Y_cameBy Y_reached) [(true, 0), (true, 1), (true, 2), (true, 3), (true, 4), (true, 5), (true, 6), (true, 7), (false, 8), (false, 9), (false, 10), (false, 11), (false, 12), (false, 13), (false, 14)] rfl (by decide) rfl rfl [] rfl (Nat.le_of_ble_eq_true rfl) ⟨Nat.le_of_ble_eq_true rfl, Nat.le_of_ble_eq_true rfl⟩ dX6_piece_67 70 0 0 rfl ⟨rfl, rfl⟩ ?_
          refine vv_widen (k := 1) (n := 6) (by decide) (by decide) ?_
          exact ret _ (Option.some.inj h).symm _ _ dX6_piece_70
        · replace h := ite_t hc h
          refine vv_aload_n C dX6_piece_56 rfl 1 rfl 57 rfl ?_
          refine vv_iload_n C dX6_piece_57 rfl 0 rfl 58 rfl ?_
          obtain ⟨r4, hr4, h⟩ := bnd_s h
          refine vv_callVi C (fun l => mt_X6_singleLashings l D c X W R B K Q T Y X_ropes R_hour R_broken B_number B_piece Q_number Q_first Q_second Y_used Y_cameBy Y_reached (rd B_piece a1) r4 hr4) gX6_piece_X6_singleLashings rfl rfl rfl yd_X6_singleLashings ⟨Nat.le_of_ble_eq_true rfl, Nat.le_of_ble_eq_true rfl⟩ [0, 1, 2, 7, 8, 9, 10, 11, 12, 13, 14] rfl (by decide) 0 rfl rfl (wX6_piece c X W R B K Q T Y X_ropes R_hour R_broken B_number B_lift B_water B_goods B_people B_piece Q_number Q_first Q_second r4.2.1 r4.2.2.1 r4.2.2.2) [(true, 0), (true, 1), (true, 2), (false, 3), (false, 4), (false, 5), (false, 6), (true, 3), (true, 4), (true, 5), (true, 6), (true, 7), (true, 8), (true, 9), (true, 10)] rfl (by decide) rfl rfl [] rfl (Nat.le_of_ble_eq_true rfl) ⟨Nat.le_of_ble_eq_true rfl, Nat.le_of_ble_eq_true rfl⟩ dX6_piece_58 61 0 0 rfl ⟨rfl, rfl⟩ ?_
          refine vv_goto C 70 dX6_piece_61 (by decide) ?_
          refine vv_widen (k := 1) (n := 6) (by decide) (by decide) ?_
          exact ret _ (Option.some.inj h).symm _ _ dX6_piece_70
      · replace h := ite_f hc h
        refine vv_iconst C (v := 0) dX6_piece_49 (by decide) 50 rfl ?_
        refine vv_widen (k := 1) (n := 6) (by decide) (by decide) ?_
        exact ret _ (Option.some.inj h).symm _ _ dX6_piece_50
    · replace h := ite_t hc h
      exact thr 3 (Option.some.inj h).symm 75 180 79 "no such barrel or question" _ _ thX6_piece_3 (by decide) dX6_piece_22 dX6_piece_25 dX6_piece_26 dX6_piece_28 dX6_piece_31
abbrev wX6_setWind (c : Nat → ClassId) (X : Nat → Nat) (W : Nat → Nat) (R : Nat → Nat) (T : Nat → Nat) (Y : Nat → Nat) (X_ropes : Int32) (W_number : Int32) (W_windDx : Int32) (W_windDy : Int32) : va_W := [(X 0, .inr (6, [.ref (W 0), .ref (R 0), .ref (T 0), .ref (Y 0), .int X_ropes])), (W 0, .inr (4, [.ref (W 1), .ref (W 2), .ref (W 3), .ref (W 4), .int W_number, .int W_windDx, .int W_windDy]))]
abbrev rmX6_setWind : Room := { frames := 6, cells := 1, slots := 6, locals := 90 }
theorem yd_X6_setWind : yX6_setWind.cls = RX6 ∧ yX6_setWind.cls ≠ "java/lang/invoke/MethodHandle" ∧ yX6_setWind.cls ≠ "java/lang/invoke/VarHandle" ∧ (parseMethodDescriptor yX6_setWind.desc).map (fun d => d.parameters.length) = some 2 := by decide +kernel
theorem kwX6_setWind_1 : Cond.classLink RX6 41 "java/lang/IllegalArgumentException" ∈ wsX6_setWind := List.mem_of_getElem? (i := 1) rfl
theorem kwX6_setWind_2 : Cond.initialized "java/lang/IllegalArgumentException" ∈ wsX6_setWind := List.mem_of_getElem? (i := 2) rfl
theorem kwX6_setWind_3 : Cond.fieldLink RX6 12 "BarrelRaft" "waters" "LBarrelRaft$Waters;" ∈ wsX6_setWind := List.mem_of_getElem? (i := 3) rfl
set_option maxRecDepth 20000 in
theorem kinX6_setWind_X6 : ∀ w ∈ u_ws RX6 TX6 5, w ∈ wsX6_setWind := by decide +kernel
theorem kwX6_setWind_4 : Cond.fieldLink RX6 105 "BarrelRaft$Waters" "windDx" "I" ∈ wsX6_setWind := List.mem_of_getElem? (i := 4) rfl
set_option maxRecDepth 20000 in
theorem kinX6_setWind_X4 : ∀ w ∈ u_ws RX4 TX4 7, w ∈ wsX6_setWind := by decide +kernel
theorem kwX6_setWind_5 : Cond.fieldLink RX6 108 "BarrelRaft$Waters" "windDy" "I" ∈ wsX6_setWind := List.mem_of_getElem? (i := 5) rfl
def jX6_setWind (W_windDx : Int32) (W_windDy : Int32) (a1 : Int32) (a2 : Int32) : Option (Nat ⊕ (Int32 × Int32 × Int32)) :=
  bnd (jX6_isFlow a1) (fun r1 => (if r1 = 0 then some (Sum.inl 1) else bnd (jX6_isFlow a2) (fun r2 => (if r2 = 0 then some (Sum.inl 1) else some (Sum.inr (((5 * (W_windDx + 2)) + W_windDy) + 2, a1, a2))))))
theorem thX6_setWind_1 : ThOK wsX6_setWind rmX6_setWind 1 41 45 := ⟨kwX6_setWind_1, kwX6_setWind_2, fun w hw => List.mem_cons_of_mem _ (List.mem_append_right _ hw), th1_n, th1_o, by decide, by decide, by decide, by decide, by decide⟩
set_option maxHeartbeats 4000000 in
set_option maxRecDepth 100000 in
theorem mt_X6_setWind (l : Launch) (hfl : l.stackTraces = false) (D : va_G) (c : Nat → ClassId) (X : Nat → Nat) (W : Nat → Nat) (R : Nat → Nat) (T : Nat → Nat) (Y : Nat → Nat) (X_ropes : Int32) (W_number : Int32) (W_windDx : Int32) (W_windDy : Int32) (a1 : Int32) (a2 : Int32) (q0 : Nat ⊕ (Int32 × Int32 × Int32)) (h : jX6_setWind W_windDx W_windDy a1 a2 = some q0) : DXi l yX6_setWind wsX6_setWind rmX6_setWind D c (wX6_setWind c X W R T Y X_ropes W_number W_windDx W_windDy) [.ref (X 0), .int a1, .int a2] q0 (fun (q0 : Int32 × Int32 × Int32) => q0.1) (fun q0 => (wX6_setWind c X W R T Y X_ropes W_number q0.2.1 q0.2.2)) 1 6 := by
  refine DXi_of (cc := cX6_setWind) (nL := 4) rfl (by decide) rfl (Nat.le_of_ble_eq_true rfl) hfl ⟨by decide, by decide⟩ (fun g C ret thr => ?_)
  unfold jX6_setWind at h
  refine vv_lv [0, 1, 2] [(0, .ref (X 0)), (1, .int a1), (2, .int a2)] rfl ?_
  refine vv_iload_n C dX6_setWind_0 rfl 1 rfl 1 rfl ?_
  obtain ⟨r1, hr1, h⟩ := bnd_s h
  refine vv_callSi C (fun l => mt_X6_isFlow l D c a1 r1 hr1) gX6_setWind_X6_isFlow rfl rfl rfl yd_X6_isFlow ⟨Nat.le_of_ble_eq_true rfl, Nat.le_of_ble_eq_true rfl⟩ [] rfl (by decide) (wX6_setWind c X W R T Y X_ropes W_number W_windDx W_windDy) [(false, 0), (false, 1)] rfl (by decide) rfl rfl [] rfl (Nat.le_of_ble_eq_true rfl) ⟨Nat.le_of_ble_eq_true rfl, Nat.le_of_ble_eq_true rfl⟩ dX6_setWind_1 4 0 0 rfl ⟨rfl, rfl⟩ ?_
  refine vv_if_eq C 14 7 dX6_setWind_4 (by decide) rfl (fun hc => ?_) (fun hc => ?_)
  · replace h := ite_t hc h
    exact thr 1 (Option.some.inj h).symm 41 103 45 "no such wind" _ _ thX6_setWind_1 (by decide) dX6_setWind_14 dX6_setWind_17 dX6_setWind_18 dX6_setWind_20 dX6_setWind_23
  · replace h := ite_f hc h
    refine vv_iload_n C dX6_setWind_7 rfl 2 rfl 8 rfl ?_
    obtain ⟨r2, hr2, h⟩ := bnd_s h
    refine vv_callSi C (fun l => mt_X6_isFlow l D c a2 r2 hr2) gX6_setWind_X6_isFlow rfl rfl rfl yd_X6_isFlow ⟨Nat.le_of_ble_eq_true rfl, Nat.le_of_ble_eq_true rfl⟩ [] rfl (by decide) (wX6_setWind c X W R T Y X_ropes W_number W_windDx W_windDy) [(false, 0), (false, 1)] rfl (by decide) rfl rfl [] rfl (Nat.le_of_ble_eq_true rfl) ⟨Nat.le_of_ble_eq_true rfl, Nat.le_of_ble_eq_true rfl⟩ dX6_setWind_8 11 0 0 rfl ⟨rfl, rfl⟩ ?_
    refine vv_if_ne C 24 14 dX6_setWind_11 (by decide) rfl (fun hc => ?_) (fun hc => ?_)
    · replace h := ite_f hc h
      refine vv_iconst C (v := 5) dX6_setWind_24 (by decide) 25 rfl ?_
      refine vv_aload_n C dX6_setWind_25 rfl 0 rfl 26 rfl ?_
      refine vv_get C (q0 := 0) (ci := 6) (k := 0) kinX6_setWind_X6 rfl rfl (by decide) kwX6_setWind_3 rfl rfl dX6_setWind_26 29 rfl ?_
      refine vv_get C (q0 := 1) (ci := 4) (k := 5) kinX6_setWind_X4 rfl rfl (by decide) kwX6_setWind_4 rfl rfl dX6_setWind_29 32 rfl ?_
      refine vv_iconst C (v := 2) dX6_setWind_32 (by decide) 33 rfl ?_
      refine vv_iadd C dX6_setWind_33 34 rfl ?_
      refine vv_imul C dX6_setWind_34 35 rfl ?_
      refine vv_aload_n C dX6_setWind_35 rfl 0 rfl 36 rfl ?_
      refine vv_get C (q0 := 0) (ci := 6) (k := 0) kinX6_setWind_X6 rfl rfl (by decide) kwX6_setWind_3 rfl rfl dX6_setWind_36 39 rfl ?_
      refine vv_get C (q0 := 1) (ci := 4) (k := 6) kinX6_setWind_X4 rfl rfl (by decide) kwX6_setWind_5 rfl rfl dX6_setWind_39 42 rfl ?_
      refine vv_iadd C dX6_setWind_42 43 rfl ?_
      refine vv_iconst C (v := 2) dX6_setWind_43 (by decide) 44 rfl ?_
      refine vv_iadd C dX6_setWind_44 45 rfl ?_
      refine vv_istore_n C [(3, .int (((5 * (W_windDx + 2)) + W_windDy) + 2)), (0, .ref (X 0)), (1, .int a1), (2, .int a2)] dX6_setWind_45 rfl (by decide) rfl 46 rfl ?_
      refine vv_aload_n C dX6_setWind_46 rfl 1 rfl 47 rfl ?_
      refine vv_get C (q0 := 0) (ci := 6) (k := 0) kinX6_setWind_X6 rfl rfl (by decide) kwX6_setWind_3 rfl rfl dX6_setWind_47 50 rfl ?_
      refine vv_iload_n C dX6_setWind_50 rfl 2 rfl 51 rfl ?_
      refine vv_put C (q0 := 1) (ci := 4) (k := 5) (ty := .int) (wX6_setWind c X W R T Y X_ropes W_number a1 W_windDy) tyX4 tyX4_ok nmX4 kinX6_setWind_X4 rfl rfl (by decide) kwX6_setWind_4 rfl rfl rfl rfl rfl (Nat.le_of_ble_eq_true rfl) rfl dX6_setWind_51 54 rfl ?_
      refine vv_aload_n C dX6_setWind_54 rfl 1 rfl 55 rfl ?_
      refine vv_get C (q0 := 0) (ci := 6) (k := 0) kinX6_setWind_X6 rfl rfl (by decide) kwX6_setWind_3 rfl rfl dX6_setWind_55 58 rfl ?_
      refine vv_iload_n C dX6_setWind_58 rfl 3 rfl 59 rfl ?_
      refine vv_put C (q0 := 1) (ci := 4) (k := 6) (ty := .int) (wX6_setWind c X W R T Y X_ropes W_number a1 a2) tyX4 tyX4_ok nmX4 kinX6_setWind_X4 rfl rfl (by decide) kwX6_setWind_5 rfl rfl rfl rfl rfl (Nat.le_of_ble_eq_true rfl) rfl dX6_setWind_59 62 rfl ?_
      refine vv_iload_n C dX6_setWind_62 rfl 0 rfl 63 rfl ?_
      refine vv_widen (k := 1) (n := 6) (by decide) (by decide) ?_
      exact ret _ (Option.some.inj h).symm _ _ dX6_setWind_63
    · replace h := ite_t hc h
      exact thr 1 (Option.some.inj h).symm 41 103 45 "no such wind" _ _ thX6_setWind_1 (by decide) dX6_setWind_14 dX6_setWind_17 dX6_setWind_18 dX6_setWind_20 dX6_setWind_23
abbrev wX6_tie (c : Nat → ClassId) (X : Nat → Nat) (W : Nat → Nat) (R : Nat → Nat) (B : Nat → Nat) (K : Nat → Nat) (Q : Nat → Nat) (T : Nat → Nat) (Y : Nat → Nat) (X_ropes : Int32) (R_hour : Int32) (R_broken : Int32) (B_number : Int32) (B_column : Nat → Int32) (B_row : Nat → Int32) (B_state : Nat → Int32) (B_x : Nat → Int32) (B_y : Nat → Int32) (B_piece : Nat → Int32) (Q_number : Int32) (Q_first : Nat → Int32) (Q_second : Nat → Int32) (Q_strength : Nat → Int32) (Q_wear : Nat → Int32) : va_W := [(X 0, .inr (6, [.ref (W 0), .ref (R 0), .ref (T 0), .ref (Y 0), .int X_ropes])), (R 0, .inr (3, [.ref (B 0), .ref (K 0), .ref (Q 0), .ref (R 1), .ref (R 2), .int R_hour, .int R_broken])), (B 0, .inr (0, [.ref (B 1), .ref (B 2), .ref (B 3), .ref (B 4), .ref (B 5), .ref (B 6), .ref (B 7), .ref (B 8), .ref (B 9), .ref (B 10), .ref (B 11), .int B_number])), aI c (B 1) 24 B_column, aI c (B 2) 24 B_row, aI c (B 8) 24 B_state, aI c (B 9) 24 B_x, aI c (B 10) 24 B_y, aI c (B 11) 24 B_piece, (Q 0, .inr (2, [.ref (Q 1), .ref (Q 2), .ref (Q 3), .ref (Q 4), .int Q_number])), aI c (Q 1) 48 Q_first, aI c (Q 2) 48 Q_second, aI c (Q 3) 48 Q_strength, aI c (Q 4) 48 Q_wear]
abbrev rmX6_tie : Room := { frames := 6, cells := 1, slots := 6, locals := 90 }
theorem yd_X6_tie : yX6_tie.cls = RX6 ∧ yX6_tie.cls ≠ "java/lang/invoke/MethodHandle" ∧ yX6_tie.cls ≠ "java/lang/invoke/VarHandle" ∧ (parseMethodDescriptor yX6_tie.desc).map (fun d => d.parameters.length) = some 3 := by decide +kernel
theorem kwX6_tie_7 : Cond.fieldLink RX6 19 "BarrelRaft" "raft" "LBarrelRaft$Raft;" ∈ wsX6_tie := List.mem_of_getElem? (i := 7) rfl
set_option maxRecDepth 20000 in
theorem kinX6_tie_X6 : ∀ w ∈ u_ws RX6 TX6 5, w ∈ wsX6_tie := by decide +kernel
theorem kwX6_tie_8 : Cond.fieldLink RX6 94 "BarrelRaft$Raft" "barrels" "LBarrelRaft$Barrels;" ∈ wsX6_tie := List.mem_of_getElem? (i := 8) rfl
set_option maxRecDepth 20000 in
theorem kinX6_tie_X3 : ∀ w ∈ u_ws RX3 TX3 7, w ∈ wsX6_tie := by decide +kernel
theorem kwX6_tie_1 : Cond.classLink RX6 75 "java/lang/IndexOutOfBoundsException" ∈ wsX6_tie := List.mem_of_getElem? (i := 1) rfl
theorem kwX6_tie_2 : Cond.initialized "java/lang/IndexOutOfBoundsException" ∈ wsX6_tie := List.mem_of_getElem? (i := 2) rfl
theorem kwX6_tie_3 : Cond.classLink RX6 41 "java/lang/IllegalArgumentException" ∈ wsX6_tie := List.mem_of_getElem? (i := 3) rfl
theorem kwX6_tie_4 : Cond.initialized "java/lang/IllegalArgumentException" ∈ wsX6_tie := List.mem_of_getElem? (i := 4) rfl
theorem kwX6_tie_5 : Cond.classLink RX6 59 "java/lang/IllegalStateException" ∈ wsX6_tie := List.mem_of_getElem? (i := 5) rfl
theorem kwX6_tie_6 : Cond.initialized "java/lang/IllegalStateException" ∈ wsX6_tie := List.mem_of_getElem? (i := 6) rfl
theorem kwX6_tie_9 : Cond.fieldLink RX6 33 "BarrelRaft" "ropes" "I" ∈ wsX6_tie := List.mem_of_getElem? (i := 9) rfl
theorem kwX6_tie_10 : Cond.fieldLink RX6 136 "BarrelRaft$Raft" "lashings" "LBarrelRaft$Lashings;" ∈ wsX6_tie := List.mem_of_getElem? (i := 10) rfl
theorem kwX6_tie_11 : Cond.methodLink RX6 140 Lib.Math.min.name ∈ wsX6_tie := List.mem_of_getElem? (i := 11) rfl
theorem kwX6_tie_12 : Cond.static Lib.Math.min.name ∈ wsX6_tie := List.mem_of_getElem? (i := 12) rfl
theorem kwX6_tie_13 : Cond.initialized "java/lang/Math" ∈ wsX6_tie := List.mem_of_getElem? (i := 13) rfl
theorem kwX6_tie_14 : Cond.code Lib.Math.min.name Lib.Math.min.code 2 (some .int) ∈ wsX6_tie := List.mem_of_getElem? (i := 14) rfl
theorem kwX6_tie_15 : Cond.methodLink RX6 145 Lib.Math.max.name ∈ wsX6_tie := List.mem_of_getElem? (i := 15) rfl
theorem kwX6_tie_16 : Cond.static Lib.Math.max.name ∈ wsX6_tie := List.mem_of_getElem? (i := 16) rfl
theorem kwX6_tie_17 : Cond.code Lib.Math.max.name Lib.Math.max.code 2 (some .int) ∈ wsX6_tie := List.mem_of_getElem? (i := 17) rfl
def jX6_tie (X_ropes : Int32) (B_number : Int32) (B_column : Nat → Int32) (B_row : Nat → Int32) (B_state : Nat → Int32) (B_x : Nat → Int32) (B_y : Nat → Int32) (B_piece : Nat → Int32) (Q_number : Int32) (Q_first : Nat → Int32) (Q_second : Nat → Int32) (Q_strength : Nat → Int32) (Q_wear : Nat → Int32) (a1 : Int32) (a2 : Int32) (a3 : Int32) : Option (Nat ⊕ (Int32 × Int32 × (Nat → Int32) × Int32 × (Nat → Int32) × (Nat → Int32) × (Nat → Int32) × (Nat → Int32))) :=
  bnd (jX0_has B_number a1) (fun r1 => (if r1 = 0 then some (Sum.inl 3) else bnd (jX0_has B_number a2) (fun r2 => (if r2 = 0 then some (Sum.inl 3) else (if a1 = a2 then some (Sum.inl 1) else (if a3 < 1 then some (Sum.inl 1) else (if a3 ≤ 50 then bnd (jX0_canBeTied B_number B_column B_row B_state B_x B_y a1 a2) (fun r3 => (if r3 = 0 then some (Sum.inl 2) else (if 0 < X_ropes then bnd (jX2_make Q_number Q_first Q_second Q_strength Q_wear (mmin a1 a2) (mmax a1 a2) a3) (fun r4 => bnd (jX3_findPieces B_number B_state B_piece r4.1 r4.2.1 r4.2.2.1) (fun r5 => some (Sum.inr (X_ropes - 1, X_ropes - 1, r5, r4.1, r4.2.1, r4.2.2.1, r4.2.2.2.1, r4.2.2.2.2)))) else some (Sum.inl 2)))) else some (Sum.inl 1))))))))
theorem thX6_tie_3 : ThOK wsX6_tie rmX6_tie 3 75 79 := ⟨kwX6_tie_1, kwX6_tie_2, fun w hw => List.mem_cons_of_mem _ (List.mem_append_left _ (List.mem_append_left _ (List.mem_append_right _ hw))), th3_n, th3_o, by decide, by decide, by decide, by decide, by decide⟩
theorem thX6_tie_1 : ThOK wsX6_tie rmX6_tie 1 41 45 := ⟨kwX6_tie_3, kwX6_tie_4, fun w hw => List.mem_cons_of_mem _ (List.mem_append_left _ (List.mem_append_right _ hw)), th1_n, th1_o, by decide, by decide, by decide, by decide, by decide⟩
theorem thX6_tie_2 : ThOK wsX6_tie rmX6_tie 2 59 63 := ⟨kwX6_tie_5, kwX6_tie_6, fun w hw => List.mem_cons_of_mem _ (List.mem_append_right _ hw), th2_n, th2_o, by decide, by decide, by decide, by decide, by decide⟩
set_option maxHeartbeats 4000000 in
set_option maxRecDepth 100000 in
theorem mt_X6_tie (l : Launch) (hfl : l.stackTraces = false) (D : va_G) (c : Nat → ClassId) (X : Nat → Nat) (W : Nat → Nat) (R : Nat → Nat) (B : Nat → Nat) (K : Nat → Nat) (Q : Nat → Nat) (T : Nat → Nat) (Y : Nat → Nat) (X_ropes : Int32) (R_hour : Int32) (R_broken : Int32) (B_number : Int32) (B_column : Nat → Int32) (B_row : Nat → Int32) (B_state : Nat → Int32) (B_x : Nat → Int32) (B_y : Nat → Int32) (B_piece : Nat → Int32) (Q_number : Int32) (Q_first : Nat → Int32) (Q_second : Nat → Int32) (Q_strength : Nat → Int32) (Q_wear : Nat → Int32) (a1 : Int32) (a2 : Int32) (a3 : Int32) (q0 : Nat ⊕ (Int32 × Int32 × (Nat → Int32) × Int32 × (Nat → Int32) × (Nat → Int32) × (Nat → Int32) × (Nat → Int32))) (h : jX6_tie X_ropes B_number B_column B_row B_state B_x B_y B_piece Q_number Q_first Q_second Q_strength Q_wear a1 a2 a3 = some q0) : DXi l yX6_tie wsX6_tie rmX6_tie D c (wX6_tie c X W R B K Q T Y X_ropes R_hour R_broken B_number B_column B_row B_state B_x B_y B_piece Q_number Q_first Q_second Q_strength Q_wear) [.ref (X 0), .int a1, .int a2, .int a3] q0 (fun (q0 : Int32 × Int32 × (Nat → Int32) × Int32 × (Nat → Int32) × (Nat → Int32) × (Nat → Int32) × (Nat → Int32)) => q0.1) (fun q0 => (wX6_tie c X W R B K Q T Y q0.2.1 R_hour R_broken B_number B_column B_row B_state B_x B_y q0.2.2.1 q0.2.2.2.1 q0.2.2.2.2.1 q0.2.2.2.2.2.1 q0.2.2.2.2.2.2.1 q0.2.2.2.2.2.2.2)) 1 6 := by
  refine DXi_of (cc := cX6_tie) (nL := 4) rfl (by decide) rfl (Nat.le_of_ble_eq_true rfl) hfl ⟨by decide, by decide⟩ (fun g C ret thr => ?_)
  unfold jX6_tie at h
  refine vv_lv [0, 1, 2, 3] [(0, .ref (X 0)), (1, .int a1), (2, .int a2), (3, .int a3)] rfl ?_
  refine vv_aload_n C dX6_tie_0 rfl 0 rfl 1 rfl ?_
  refine vv_get C (q0 := 0) (ci := 6) (k := 1) kinX6_tie_X6 rfl rfl (by decide) kwX6_tie_7 rfl rfl dX6_tie_1 4 rfl ?_
  refine vv_get C (q0 := 1) (ci := 3) (k := 0) kinX6_tie_X3 rfl rfl (by decide) kwX6_tie_8 rfl rfl dX6_tie_4 7 rfl ?_
  refine vv_iload_n C dX6_tie_7 rfl 1 rfl 8 rfl ?_
  obtain ⟨r1, hr1, h⟩ := bnd_s h
  refine vv_callVi C (fun l => mt_X0_has l D c B B_number a1 r1 hr1) gX6_tie_X0_has rfl rfl rfl yd_X0_has ⟨Nat.le_of_ble_eq_true rfl, Nat.le_of_ble_eq_true rfl⟩ [2] rfl (by decide) 0 rfl rfl (wX6_tie c X W R B K Q T Y X_ropes R_hour R_broken B_number B_column B_row B_state B_x B_y B_piece Q_number Q_first Q_second Q_strength Q_wear) [(false, 0), (false, 1), (true, 0), (false, 3), (false, 4), (false, 5), (false, 6), (false, 7), (false, 8), (false, 9), (false, 10), (false, 11), (false, 12), (false, 13)] rfl (by decide) rfl rfl [] rfl (Nat.le_of_ble_eq_true rfl) ⟨Nat.le_of_ble_eq_true rfl, Nat.le_of_ble_eq_true rfl⟩ dX6_tie_8 11 0 0 rfl ⟨rfl, rfl⟩ ?_
  refine vv_if_eq C 28 14 dX6_tie_11 (by decide) rfl (fun hc => ?_) (fun hc => ?_)
  · replace h := ite_t hc h
    exact thr 3 (Option.some.inj h).symm 75 127 79 "no such barrel" _ _ thX6_tie_3 (by decide) dX6_tie_28 dX6_tie_31 dX6_tie_32 dX6_tie_34 dX6_tie_37
  · replace h := ite_f hc h
    refine vv_aload_n C dX6_tie_14 rfl 0 rfl 15 rfl ?_
    refine vv_get C (q0 := 0) (ci := 6) (k := 1) kinX6_tie_X6 rfl rfl (by decide) kwX6_tie_7 rfl rfl dX6_tie_15 18 rfl ?_
    refine vv_get C (q0 := 1) (ci := 3) (k := 0) kinX6_tie_X3 rfl rfl (by decide) kwX6_tie_8 rfl rfl dX6_tie_18 21 rfl ?_
    refine vv_iload_n C dX6_tie_21 rfl 2 rfl 22 rfl ?_
    obtain ⟨r2, hr2, h⟩ := bnd_s h
    refine vv_callVi C (fun l => mt_X0_has l D c B B_number a2 r2 hr2) gX6_tie_X0_has rfl rfl rfl yd_X0_has ⟨Nat.le_of_ble_eq_true rfl, Nat.le_of_ble_eq_true rfl⟩ [2] rfl (by decide) 0 rfl rfl (wX6_tie c X W R B K Q T Y X_ropes R_hour R_broken B_number B_column B_row B_state B_x B_y B_piece Q_number Q_first Q_second Q_strength Q_wear) [(false, 0), (false, 1), (true, 0), (false, 3), (false, 4), (false, 5), (false, 6), (false, 7), (false, 8), (false, 9), (false, 10), (false, 11), (false, 12), (false, 13)] rfl (by decide) rfl rfl [] rfl (Nat.le_of_ble_eq_true rfl) ⟨Nat.le_of_ble_eq_true rfl, Nat.le_of_ble_eq_true rfl⟩ dX6_tie_22 25 0 0 rfl ⟨rfl, rfl⟩ ?_
    refine vv_if_ne C 38 28 dX6_tie_25 (by decide) rfl (fun hc => ?_) (fun hc => ?_)
    · replace h := ite_f hc h
      refine vv_iload_n C dX6_tie_38 rfl 1 rfl 39 rfl ?_
      refine vv_iload_n C dX6_tie_39 rfl 2 rfl 40 rfl ?_
      refine vv_icmp_eq C 54 43 dX6_tie_40 (by decide) rfl (fun hc => ?_) (fun hc => ?_)
      · replace h := ite_t hc h
        exact thr 1 (Option.some.inj h).symm 41 129 45 "the same barrel, or no such strength" _ _ thX6_tie_1 (by decide) dX6_tie_54 dX6_tie_57 dX6_tie_58 dX6_tie_60 dX6_tie_63
      · replace h := ite_f hc h
        refine vv_iload_n C dX6_tie_43 rfl 3 rfl 44 rfl ?_
        refine vv_iconst C (v := 1) dX6_tie_44 (by decide) 45 rfl ?_
        refine vv_icmp_lt C 54 48 dX6_tie_45 (by decide) rfl (fun hc => ?_) (fun hc => ?_)
        · replace h := ite_t hc h
          exact thr 1 (Option.some.inj h).symm 41 129 45 "the same barrel, or no such strength" _ _ thX6_tie_1 (by decide) dX6_tie_54 dX6_tie_57 dX6_tie_58 dX6_tie_60 dX6_tie_63
        · replace h := ite_f hc h
          refine vv_iload_n C dX6_tie_48 rfl 3 rfl 49 rfl ?_
          refine vv_bipush C (v := 50) dX6_tie_49 (by decide) 51 rfl ?_
          refine vv_icmp_le C 64 54 dX6_tie_51 (by decide) rfl (fun hc => ?_) (fun hc => ?_)
          · replace h := ite_t hc h
            refine vv_aload_n C dX6_tie_64 rfl 0 rfl 65 rfl ?_
            refine vv_get C (q0 := 0) (ci := 6) (k := 1) kinX6_tie_X6 rfl rfl (by decide) kwX6_tie_7 rfl rfl dX6_tie_65 68 rfl ?_
            refine vv_get C (q0 := 1) (ci := 3) (k := 0) kinX6_tie_X3 rfl rfl (by decide) kwX6_tie_8 rfl rfl dX6_tie_68 71 rfl ?_
            refine vv_iload_n C dX6_tie_71 rfl 1 rfl 72 rfl ?_
            refine vv_iload_n C dX6_tie_72 rfl 2 rfl 73 rfl ?_
            obtain ⟨r3, hr3, h⟩ := bnd_s h
            refine vv_callVi C (fun l => mt_X0_canBeTied l D c B B_number B_column B_row B_state B_x B_y a1 a2 r3 hr3) gX6_tie_X0_canBeTied rfl rfl rfl yd_X0_canBeTied ⟨Nat.le_of_ble_eq_true rfl, Nat.le_of_ble_eq_true rfl⟩ [2, 3, 4, 5, 6, 7] rfl (by decide) 0 rfl rfl (wX6_tie c X W R B K Q T Y X_ropes R_hour R_broken B_number B_column B_row B_state B_x B_y B_piece Q_number Q_first Q_second Q_strength Q_wear) [(false, 0), (false, 1), (true, 0), (true, 1), (true, 2), (true, 3), (true, 4), (true, 5), (false, 8), (false, 9), (false, 10), (false, 11), (false, 12), (false, 13)] rfl (by decide) rfl rfl [] rfl (Nat.le_of_ble_eq_true rfl) ⟨Nat.le_of_ble_eq_true rfl, Nat.le_of_ble_eq_true rfl⟩ dX6_tie_73 76 0 0 rfl ⟨rfl, rfl⟩ ?_
            refine vv_if_eq C 86 79 dX6_tie_76 (by decide) rfl (fun hc => ?_) (fun hc => ?_)
            · replace h := ite_t hc h
              exact thr 2 (Option.some.inj h).symm 59 134 63 "these can't be tied" _ _ thX6_tie_2 (by decide) dX6_tie_86 dX6_tie_89 dX6_tie_90 dX6_tie_92 dX6_tie_95
            · replace h := ite_f hc h
              refine vv_aload_n C dX6_tie_79 rfl 0 rfl 80 rfl ?_
              refine vv_get C (q0 := 0) (ci := 6) (k := 4) kinX6_tie_X6 rfl rfl (by decide) kwX6_tie_9 rfl rfl dX6_tie_80 83 rfl ?_
              refine vv_if_gt C 96 86 dX6_tie_83 (by decide) rfl (fun hc => ?_) (fun hc => ?_)
              · replace h := ite_t hc h
                refine vv_aload_n C dX6_tie_96 rfl 0 rfl 97 rfl ?_
                refine vv_get C (q0 := 0) (ci := 6) (k := 1) kinX6_tie_X6 rfl rfl (by decide) kwX6_tie_7 rfl rfl dX6_tie_97 100 rfl ?_
                refine vv_get C (q0 := 1) (ci := 3) (k := 2) kinX6_tie_X3 rfl rfl (by decide) kwX6_tie_10 rfl rfl dX6_tie_100 103 rfl ?_
                refine vv_iload_n C dX6_tie_103 rfl 1 rfl 104 rfl ?_
                refine vv_iload_n C dX6_tie_104 rfl 2 rfl 105 rfl ?_
                refine vv_mmin C kwX6_tie_11 kwX6_tie_12 kwX6_tie_13 kwX6_tie_14 ⟨Nat.le_of_ble_eq_true rfl, Nat.le_of_ble_eq_true rfl⟩ ⟨Nat.le_of_ble_eq_true rfl, Nat.le_of_ble_eq_true rfl⟩ dX6_tie_105 108 rfl ?_
                refine vv_iload_n C dX6_tie_108 rfl 1 rfl 109 rfl ?_
                refine vv_iload_n C dX6_tie_109 rfl 2 rfl 110 rfl ?_
                refine vv_mmax C kwX6_tie_15 kwX6_tie_16 kwX6_tie_13 kwX6_tie_17 ⟨Nat.le_of_ble_eq_true rfl, Nat.le_of_ble_eq_true rfl⟩ ⟨Nat.le_of_ble_eq_true rfl, Nat.le_of_ble_eq_true rfl⟩ dX6_tie_110 113 rfl ?_
                refine vv_iload_n C dX6_tie_113 rfl 3 rfl 114 rfl ?_
                obtain ⟨r4, hr4, h⟩ := bnd_s h
                refine vv_callVv C (fun l => mt_X2_make l D c Q Q_number Q_first Q_second Q_strength Q_wear (mmin a1 a2) (mmax a1 a2) a3 r4 hr4) gX6_tie_X2_make rfl rfl rfl yd_X2_make ⟨Nat.le_of_ble_eq_true rfl, Nat.le_of_ble_eq_true rfl⟩ [9, 10, 11, 12, 13] rfl (by decide) 0 rfl rfl (wX6_tie c X W R B K Q T Y X_ropes R_hour R_broken B_number B_column B_row B_state B_x B_y B_piece r4.1 r4.2.1 r4.2.2.1 r4.2.2.2.1 r4.2.2.2.2) [(false, 0), (false, 1), (false, 2), (false, 3), (false, 4), (false, 5), (false, 6), (false, 7), (false, 8), (true, 0), (true, 1), (true, 2), (true, 3), (true, 4)] rfl (by decide) rfl rfl [] rfl (Nat.le_of_ble_eq_true rfl) ⟨Nat.le_of_ble_eq_true rfl, Nat.le_of_ble_eq_true rfl⟩ dX6_tie_114 117 0 0 rfl ⟨rfl, rfl⟩ ?_
                refine vv_aload_n C dX6_tie_117 rfl 0 rfl 118 rfl ?_
                refine vv_get C (q0 := 0) (ci := 6) (k := 1) kinX6_tie_X6 rfl rfl (by decide) kwX6_tie_7 rfl rfl dX6_tie_118 121 rfl ?_
                obtain ⟨r5, hr5, h⟩ := bnd_s h
                refine vv_callVv C (fun l => mt_X3_findPieces l D c R B K Q R_hour R_broken B_number B_state B_piece r4.1 r4.2.1 r4.2.2.1 r5 hr5) gX6_tie_X3_findPieces rfl rfl rfl yd_X3_findPieces ⟨Nat.le_of_ble_eq_true rfl, Nat.le_of_ble_eq_true rfl⟩ [1, 2, 5, 8, 9, 10, 11] rfl (by decide) 0 rfl rfl (wX6_tie c X W R B K Q T Y X_ropes R_hour R_broken B_number B_column B_row B_state B_x B_y r5 r4.1 r4.2.1 r4.2.2.1 r4.2.2.2.1 r4.2.2.2.2) [(false, 0), (true, 0), (true, 1), (false, 3), (false, 4), (true, 2), (false, 6), (false, 7), (true, 3), (true, 4), (true, 5), (true, 6), (false, 12), (false, 13)] rfl (by decide) rfl rfl [] rfl (Nat.le_of_ble_eq_true rfl) ⟨Nat.le_of_ble_eq_true rfl, Nat.le_of_ble_eq_true rfl⟩ dX6_tie_121 124 0 0 rfl ⟨rfl, rfl⟩ ?_
                refine vv_aload_n C dX6_tie_124 rfl 0 rfl 125 rfl ?_
                refine vv_dup C dX6_tie_125 rfl 126 rfl ?_
                refine vv_get C (q0 := 0) (ci := 6) (k := 4) kinX6_tie_X6 rfl rfl (by decide) kwX6_tie_9 rfl rfl dX6_tie_126 129 rfl ?_
                refine vv_iconst C (v := 1) dX6_tie_129 (by decide) 130 rfl ?_
                refine vv_isub C dX6_tie_130 131 rfl ?_
                refine vv_put C (q0 := 0) (ci := 6) (k := 4) (ty := .int) (wX6_tie c X W R B K Q T Y (X_ropes - 1) R_hour R_broken B_number B_column B_row B_state B_x B_y r5 r4.1 r4.2.1 r4.2.2.1 r4.2.2.2.1 r4.2.2.2.2) tyX6 tyX6_ok nmX6 kinX6_tie_X6 rfl rfl (by decide) kwX6_tie_9 rfl rfl rfl rfl rfl (Nat.le_of_ble_eq_true rfl) rfl dX6_tie_131 134 rfl ?_
                refine vv_aload_n C dX6_tie_134 rfl 0 rfl 135 rfl ?_
                refine vv_get C (q0 := 0) (ci := 6) (k := 4) kinX6_tie_X6 rfl rfl (by decide) kwX6_tie_9 rfl rfl dX6_tie_135 138 rfl ?_
                refine vv_widen (k := 1) (n := 6) (by decide) (by decide) ?_
                exact ret _ (Option.some.inj h).symm _ _ dX6_tie_138
              · replace h := ite_f hc h
                exact thr 2 (Option.some.inj h).symm 59 134 63 "these can't be tied" _ _ thX6_tie_2 (by decide) dX6_tie_86 dX6_tie_89 dX6_tie_90 dX6_tie_92 dX6_tie_95
          · replace h := ite_f hc h
            exact thr 1 (Option.some.inj h).symm 41 129 45 "the same barrel, or no such strength" _ _ thX6_tie_1 (by decide) dX6_tie_54 dX6_tie_57 dX6_tie_58 dX6_tie_60 dX6_tie_63
    · replace h := ite_t hc h
      exact thr 3 (Option.some.inj h).symm 75 127 79 "no such barrel" _ _ thX6_tie_3 (by decide) dX6_tie_28 dX6_tie_31 dX6_tie_32 dX6_tie_34 dX6_tie_37
