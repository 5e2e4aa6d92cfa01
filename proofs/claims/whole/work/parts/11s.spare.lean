/-! the two calls that divide doubles: they may draw -/
def SPR (q : Int32 × Int32) (r : UInt64) : Prop := (q.2 = 0 → r = FP.dconst0) ∧ (¬ q.2 = 0 → alike64 r (FP.ddiv (FP.i2d q.1) (FP.i2d q.2)) = true)
def MDd (l : Launch) (y : MethodName) (wy : List Cond) (rm : Room) (D : va_G) (c : Nat → ClassId) (w : va_W) (av : List Value) (q : Int32 × Int32) (w' : va_W) (mc ms : Nat) : Prop :=
  ∀ sz, MetD lw_cs l y wy rm (va_Pc av (CPre D c w sz)) (va_Qd (fun (r : UInt64) (_ : Unit) => SPR q r) (fun _ t => CPost D c w' (va_A w sz) t) (va_A w sz)) mc ms (va_A w sz)
theorem vv_dconst0 {g : CtxT} {D : va_G} {c : Nat → ClassId} {cc : ByteArray} {own : String} {Ts : List Cond} {nL cells slots pc : Nat} {rm : Room} {ws : va_W} {lv : List (Nat × Value)} {st : List Value} (C : CX g D c cc own Ts nL rm) (hd : decode cc pc = .ok (.dconst 0, 1)) (pc' : Nat) (hp : pc + 1 = pc') (kk : VV g D nL cells slots ws lv pc' (.double FP.dconst0 :: st)) : VV g D nL cells slots ws lv pc st := by
  obtain ⟨p, l, e, R, s, m, args, below, meth, c0, A, H0, Q⟩ := g
  obtain ⟨hx, hb, hml, hown, hts, hK, hA, hlk, rfl, hNW⟩ := C
  subst hp
  intro H locs ls hP hD hS hl
  exact lv_dconst0 hx hb hd (kk H locs ls hP hD hS hl)
theorem MDd_of {l : Launch} {y : MethodName} {wy wy' : List Cond} {rm : Room} {D : va_G} {c : Nat → ClassId} {w : va_W} {av : List Value} {w' : va_W} {mc ms : Nat} {cc : ByteArray} {nL : Nat} {q : Int32 × Int32} (own : String) (ho : y.cls = own) (hy : plainName y.cls = true) (hw : wy = Cond.code y cc nL (some .double) :: wy') (hlen : (lg_sl av).length ≤ nL)
    (body : ∀ (g : CtxT), CX g D c cc own wy nL rm → (q.2 = 0 → ∀ (lv : List (Nat × Value)) (pc : Nat), decode cc pc = .ok (.dreturn, 1) → VV g D nL mc ms w' lv pc [.double FP.dconst0]) →
      (∀ x y : Int32, ¬ y = 0 → q = (x, y) → ∀ (lv : List (Nat × Value)) (pc : Nat), decode cc pc = .ok (.ddiv, 1) → decode cc (pc + 1) = .ok (.dreturn, 1) → VV g D nL mc ms w' lv pc [.double (FP.i2d y), .double (FP.i2d x)]) → VV g D nL 0 0 w (lv_args 0 av) 0 []) : MDd l y wy rm D c w av q w' mc ms := by
  intro sz
  refine MetD.ofW (cc := cc) (maxL := nL) (ret := some .double) hy hw ?_
  intro p e s m args below meth c0 s₁ B hml hv hd0
  obtain ⟨rfl, hsz, hP, hK, hD0, hNW⟩ := hv
  have hts := atoms_spec (ws := wy) B.pre
  have hown : s.vm.findClass own = some m.cls := ho ▸ findClass_of_methodNamed B.named
  subst hsz
  rw [lg_entry_eq]
  refine body (p, l, e, _, s.setDrawn s.drawn, m, _, below, meth, c0, va_A w s.heap.size, s.heap, _) ⟨B.exec, B.bytes, hml, hown, dr_words hts _, hK, fun q h => Or.inr h, B.notSynchronized, rfl, hNW.same rfl⟩ ?_ ?_ s.heap [] _ hP hD0.self va_S.rf (lv_entry av hlen)
  · intro hz lv pc hd H locs ls hP hD hS hl
    refine W.endD hd0 ?_
    exact W.dret B.exec B.bytes B.returns (fun t ht hW => ⟨⟨FP.dconst0, (), rfl, ⟨fun _ => rfl, fun h => absurd hz h⟩, by rw [ht]; exact hP, va_K.moved hW.alike hK, hD⟩, hS.F ht⟩) hS.2.2 hd B.notSynchronized
  · intro x y hy0 hq lv pc hd1 hd2 H locs ls hP hD hS hl
    refine lv_ddiv_any hd0 lw_bits B.exec B.bytes hd1 (fun r d1 hal hd1' => ?_)
    refine W.endD hd1' ?_
    subst hq
    exact W.dret B.exec B.bytes B.returns (fun t ht hW => ⟨⟨r, (), rfl, ⟨fun h => absurd h hy0, fun _ => hal⟩, by rw [ht]; exact hP, va_K.moved hW.alike hK, hD⟩, hS.F ht⟩) hS.2.2 hd2 B.notSynchronized
abbrev wX6_spare (c : Nat → ClassId) (X : Nat → Nat) (W : Nat → Nat) (R : Nat → Nat) (B : Nat → Nat) (K : Nat → Nat) (Q : Nat → Nat) (T : Nat → Nat) (Y : Nat → Nat) (X_ropes : Int32) (R_hour : Int32) (R_broken : Int32) (B_number : Int32) (B_lift : Nat → Int32) (B_water : Nat → Int32) (B_goods : Nat → Int32) (B_people : Nat → Int32) (B_state : Nat → Int32) : va_W := [(X 0, .inr (6, [.ref (W 0), .ref (R 0), .ref (T 0), .ref (Y 0), .int X_ropes])), (R 0, .inr (3, [.ref (B 0), .ref (K 0), .ref (Q 0), .ref (R 1), .ref (R 2), .int R_hour, .int R_broken])), (B 0, .inr (0, [.ref (B 1), .ref (B 2), .ref (B 3), .ref (B 4), .ref (B 5), .ref (B 6), .ref (B 7), .ref (B 8), .ref (B 9), .ref (B 10), .ref (B 11), .int B_number])), aI c (B 3) 24 B_lift, aI c (B 5) 24 B_water, aI c (B 6) 24 B_goods, aI c (B 7) 24 B_people, aI c (B 8) 24 B_state]
abbrev rmX6_spare : Room := { frames := 2, cells := 0, slots := 0, locals := 42 }
theorem yd_X6_spare : yX6_spare.cls = RX6 ∧ yX6_spare.cls ≠ "java/lang/invoke/MethodHandle" ∧ yX6_spare.cls ≠ "java/lang/invoke/VarHandle" ∧ (parseMethodDescriptor yX6_spare.desc).map (fun d => d.parameters.length) = some 0 := by decide +kernel
theorem kwX6_spare_1 : Cond.fieldLink RX6 19 "BarrelRaft" "raft" "LBarrelRaft$Raft;" ∈ wsX6_spare := List.mem_of_getElem? (i := 1) rfl
set_option maxRecDepth 20000 in
theorem kinX6_spare_X6 : ∀ w ∈ u_ws RX6 TX6 5, w ∈ wsX6_spare := by decide +kernel
theorem kwX6_spare_2 : Cond.fieldLink RX6 94 "BarrelRaft$Raft" "barrels" "LBarrelRaft$Barrels;" ∈ wsX6_spare := List.mem_of_getElem? (i := 2) rfl
set_option maxRecDepth 20000 in
theorem kinX6_spare_X3 : ∀ w ∈ u_ws RX3 TX3 7, w ∈ wsX6_spare := by decide +kernel
theorem kwX6_spare_3 : Cond.fieldLink RX6 118 "BarrelRaft$Barrels" "number" "I" ∈ wsX6_spare := List.mem_of_getElem? (i := 3) rfl
set_option maxRecDepth 20000 in
theorem kinX6_spare_X0 : ∀ w ∈ u_ws RX0 TX0 12, w ∈ wsX6_spare := by decide +kernel
def jX6_spare_L22 (B_number : Int32) (B_lift : Nat → Int32) (B_water : Nat → Int32) (B_goods : Nat → Int32) (B_people : Nat → Int32) (B_state : Nat → Int32) (n : Nat) (v2_22 : Int32) (v3_22 : Int32) : Option (Int32) :=
  match n with
  | 0 => none
  | n + 1 => (if B_number ≤ v3_22 then some v2_22 else bnd (jX0_floats B_number B_state v3_22) (fun r2 => (if r2 = 0 then jX6_spare_L22 B_number B_lift B_water B_goods B_people B_state n v2_22 (v3_22 + 1) else bnd (jX0_liftNow B_lift B_water v3_22) (fun r3 => bnd (jX0_loadOf B_goods B_people v3_22) (fun r4 => jX6_spare_L22 B_number B_lift B_water B_goods B_people B_state n (v2_22 + (r3 - r4)) (v3_22 + 1))))))
def jX6_spare (B_number : Int32) (B_lift : Nat → Int32) (B_water : Nat → Int32) (B_goods : Nat → Int32) (B_people : Nat → Int32) (B_state : Nat → Int32) : Option ((Int32 × Int32)) :=
  bnd (jX0_countOf B_number B_state 0) (fun r1 => (if r1 = 0 then some (0, 0) else bnd (jX6_spare_L22 B_number B_lift B_water B_goods B_people B_state FU 0 0) (fun r5 => chkP (¬ r1 = 0) (some (r5, r1)))))
set_option maxHeartbeats 4000000 in
set_option maxRecDepth 100000 in
theorem mt_X6_spare (l : Launch) (D : va_G) (c : Nat → ClassId) (X : Nat → Nat) (W : Nat → Nat) (R : Nat → Nat) (B : Nat → Nat) (K : Nat → Nat) (Q : Nat → Nat) (T : Nat → Nat) (Y : Nat → Nat) (X_ropes : Int32) (R_hour : Int32) (R_broken : Int32) (B_number : Int32) (B_lift : Nat → Int32) (B_water : Nat → Int32) (B_goods : Nat → Int32) (B_people : Nat → Int32) (B_state : Nat → Int32) (q0 : (Int32 × Int32)) (h : jX6_spare B_number B_lift B_water B_goods B_people B_state = some q0) : MDd l yX6_spare wsX6_spare rmX6_spare D c (wX6_spare c X W R B K Q T Y X_ropes R_hour R_broken B_number B_lift B_water B_goods B_people B_state) [.ref (X 0)] q0 (wX6_spare c X W R B K Q T Y X_ropes R_hour R_broken B_number B_lift B_water B_goods B_people B_state) 0 0 := by
  refine MDd_of (cc := cX6_spare) (nL := 4) RX6 rfl (by decide) rfl (Nat.le_of_ble_eq_true rfl) (fun g C ret0 retdiv => ?_)
  unfold jX6_spare at h
  refine vv_lv [0] [(0, .ref (X 0))] rfl ?_
  refine vv_aload_n C dX6_spare_0 rfl 0 rfl 1 rfl ?_
  refine vv_get C (q0 := 0) (ci := 6) (k := 1) kinX6_spare_X6 rfl rfl (by decide) kwX6_spare_1 rfl rfl dX6_spare_1 4 rfl ?_
  refine vv_get C (q0 := 1) (ci := 3) (k := 0) kinX6_spare_X3 rfl rfl (by decide) kwX6_spare_2 rfl rfl dX6_spare_4 7 rfl ?_
  refine vv_iconst C (v := 0) dX6_spare_7 (by decide) 8 rfl ?_
  obtain ⟨r1, hr1, h⟩ := bnd_s h
  refine vv_callVi C (fun l => mt_X0_countOf l D c B B_number B_state 0 r1 hr1) gX6_spare_X0_countOf rfl rfl rfl yd_X0_countOf ⟨Nat.le_of_ble_eq_true rfl, Nat.le_of_ble_eq_true rfl⟩ [2, 7] rfl (by decide) 0 rfl rfl (wX6_spare c X W R B K Q T Y X_ropes R_hour R_broken B_number B_lift B_water B_goods B_people B_state) [(false, 0), (false, 1), (true, 0), (false, 3), (false, 4), (false, 5), (false, 6), (true, 1)] rfl (by decide) rfl rfl [] rfl (Nat.le_of_ble_eq_true rfl) ⟨Nat.le_of_ble_eq_true rfl, Nat.le_of_ble_eq_true rfl⟩ dX6_spare_8 11 0 0 rfl ⟨rfl, rfl⟩ ?_
  refine vv_istore_n C [(1, .int r1), (0, .ref (X 0))] dX6_spare_11 rfl (by decide) rfl 12 rfl ?_
  refine vv_iload_n C dX6_spare_12 rfl 0 rfl 13 rfl ?_
  refine vv_if_ne C 18 16 dX6_spare_13 (by decide) rfl (fun hc => ?_) (fun hc => ?_)
  · replace h := ite_f hc h
    refine vv_iconst C (v := 0) dX6_spare_18 (by decide) 19 rfl ?_
    refine vv_istore_n C [(2, .int 0), (1, .int r1), (0, .ref (X 0))] dX6_spare_19 rfl (by decide) rfl 20 rfl ?_
    refine vv_iconst C (v := 0) dX6_spare_20 (by decide) 21 rfl ?_
    refine vv_istore_n C [(3, .int 0), (2, .int 0), (1, .int r1), (0, .ref (X 0))] dX6_spare_21 rfl (by decide) rfl 22 rfl ?_
    refine vv_lv [3, 2, 1, 0] [(0, .ref (X 0)), (1, .int r1), (2, .int 0), (3, .int 0)] rfl ?_
    have L22 : ∀ (n : Nat) (v2_22 : Int32) (v3_22 : Int32) (q22 : Int32), jX6_spare_L22 B_number B_lift B_water B_goods B_people B_state n v2_22 v3_22 = some q22 → (VV g D 4 0 0 (wX6_spare c X W R B K Q T Y X_ropes R_hour R_broken B_number B_lift B_water B_goods B_people B_state) [(1, .int r1), (2, .int q22)] 82 []) → VV g D 4 0 0 (wX6_spare c X W R B K Q T Y X_ropes R_hour R_broken B_number B_lift B_water B_goods B_people B_state) [(0, .ref (X 0)), (1, .int r1), (2, .int v2_22), (3, .int v3_22)] 22 [] := by
      intro n
      induction n with
      | zero =>
        intro v2_22 v3_22 q22 h _
        rw [jX6_spare_L22] at h
        cases h
      | succ n ih22 =>
        intro v2_22 v3_22 q22 h kk22
        rw [jX6_spare_L22] at h
        refine vv_iload_n C dX6_spare_22 rfl 3 rfl 23 rfl ?_
        refine vv_aload_n C dX6_spare_23 rfl 0 rfl 24 rfl ?_
        refine vv_get C (q0 := 0) (ci := 6) (k := 1) kinX6_spare_X6 rfl rfl (by decide) kwX6_spare_1 rfl rfl dX6_spare_24 27 rfl ?_
        refine vv_get C (q0 := 1) (ci := 3) (k := 0) kinX6_spare_X3 rfl rfl (by decide) kwX6_spare_2 rfl rfl dX6_spare_27 30 rfl ?_
        refine vv_get C (q0 := 2) (ci := 0) (k := 11) kinX6_spare_X0 rfl rfl (by decide) kwX6_spare_3 rfl rfl dX6_spare_30 33 rfl ?_
        refine vv_icmp_ge C 82 36 dX6_spare_33 (by decide) rfl (fun hc => ?_) (fun hc => ?_)
        · replace h := ite_t hc h
          refine vv_lv [1, 2] [(1, .int r1), (2, .int v2_22)] rfl ?_
          obtain rfl := Option.some.inj h
          exact kk22
        · replace h := ite_f hc h
          refine vv_aload_n C dX6_spare_36 rfl 0 rfl 37 rfl ?_
          refine vv_get C (q0 := 0) (ci := 6) (k := 1) kinX6_spare_X6 rfl rfl (by decide) kwX6_spare_1 rfl rfl dX6_spare_37 40 rfl ?_
          refine vv_get C (q0 := 1) (ci := 3) (k := 0) kinX6_spare_X3 rfl rfl (by decide) kwX6_spare_2 rfl rfl dX6_spare_40 43 rfl ?_
          refine vv_iload_n C dX6_spare_43 rfl 3 rfl 44 rfl ?_
          obtain ⟨r2, hr2, h⟩ := bnd_s h
          refine vv_callVi C (fun l => mt_X0_floats l D c B B_number B_state v3_22 r2 hr2) gX6_spare_X0_floats rfl rfl rfl yd_X0_floats ⟨Nat.le_of_ble_eq_true rfl, Nat.le_of_ble_eq_true rfl⟩ [2, 7] rfl (by decide) 0 rfl rfl (wX6_spare c X W R B K Q T Y X_ropes R_hour R_broken B_number B_lift B_water B_goods B_people B_state) [(false, 0), (false, 1), (true, 0), (false, 3), (false, 4), (false, 5), (false, 6), (true, 1)] rfl (by decide) rfl rfl [] rfl (Nat.le_of_ble_eq_true rfl) ⟨Nat.le_of_ble_eq_true rfl, Nat.le_of_ble_eq_true rfl⟩ dX6_spare_44 47 0 0 rfl ⟨rfl, rfl⟩ ?_
          refine vv_if_eq C 76 50 dX6_spare_47 (by decide) rfl (fun hc => ?_) (fun hc => ?_)
          · replace h := ite_t hc h
            refine vv_iinc C (k := 3) [(3, .int (v3_22 + 1)), (0, .ref (X 0)), (1, .int r1), (2, .int v2_22)] dX6_spare_76 rfl rfl (by decide) rfl 79 rfl ?_
            refine vv_goto C 22 dX6_spare_79 (by decide) ?_
            refine vv_lv [1, 2, 3, 0] [(0, .ref (X 0)), (1, .int r1), (2, .int v2_22), (3, .int (v3_22 + 1))] rfl ?_
            exact ih22 v2_22 (v3_22 + 1) _ h kk22
          · replace h := ite_f hc h
            refine vv_iload_n C dX6_spare_50 rfl 2 rfl 51 rfl ?_
            refine vv_aload_n C dX6_spare_51 rfl 0 rfl 52 rfl ?_
            refine vv_get C (q0 := 0) (ci := 6) (k := 1) kinX6_spare_X6 rfl rfl (by decide) kwX6_spare_1 rfl rfl dX6_spare_52 55 rfl ?_
            refine vv_get C (q0 := 1) (ci := 3) (k := 0) kinX6_spare_X3 rfl rfl (by decide) kwX6_spare_2 rfl rfl dX6_spare_55 58 rfl ?_
            refine vv_iload_n C dX6_spare_58 rfl 3 rfl 59 rfl ?_
            obtain ⟨r3, hr3, h⟩ := bnd_s h
            refine vv_callVi C (fun l => mt_X0_liftNow l D c B B_number B_lift B_water v3_22 r3 hr3) gX6_spare_X0_liftNow rfl rfl rfl yd_X0_liftNow ⟨Nat.le_of_ble_eq_true rfl, Nat.le_of_ble_eq_true rfl⟩ [2, 3, 4] rfl (by decide) 0 rfl rfl (wX6_spare c X W R B K Q T Y X_ropes R_hour R_broken B_number B_lift B_water B_goods B_people B_state) [(false, 0), (false, 1), (true, 0), (true, 1), (true, 2), (false, 5), (false, 6), (false, 7)] rfl (by decide) rfl rfl [.int v2_22] rfl (Nat.le_of_ble_eq_true rfl) ⟨Nat.le_of_ble_eq_true rfl, Nat.le_of_ble_eq_true rfl⟩ dX6_spare_59 62 0 0 rfl ⟨rfl, rfl⟩ ?_
            refine vv_aload_n C dX6_spare_62 rfl 0 rfl 63 rfl ?_
            refine vv_get C (q0 := 0) (ci := 6) (k := 1) kinX6_spare_X6 rfl rfl (by decide) kwX6_spare_1 rfl rfl dX6_spare_63 66 rfl ?_
            refine vv_get C (q0 := 1) (ci := 3) (k := 0) kinX6_spare_X3 rfl rfl (by decide) kwX6_spare_2 rfl rfl dX6_spare_66 69 rfl ?_
            refine vv_iload_n C dX6_spare_69 rfl 3 rfl 70 rfl ?_
            obtain ⟨r4, hr4, h⟩ := bnd_s h
            refine vv_callVi C (fun l => mt_X0_loadOf l D c B B_number B_goods B_people v3_22 r4 hr4) gX6_spare_X0_loadOf rfl rfl rfl yd_X0_loadOf ⟨Nat.le_of_ble_eq_true rfl, Nat.le_of_ble_eq_true rfl⟩ [2, 5, 6] rfl (by decide) 0 rfl rfl (wX6_spare c X W R B K Q T Y X_ropes R_hour R_broken B_number B_lift B_water B_goods B_people B_state) [(false, 0), (false, 1), (true, 0), (false, 3), (false, 4), (true, 1), (true, 2), (false, 7)] rfl (by decide) rfl rfl [.int r3, .int v2_22] rfl (Nat.le_of_ble_eq_true rfl) ⟨Nat.le_of_ble_eq_true rfl, Nat.le_of_ble_eq_true rfl⟩ dX6_spare_70 73 0 0 rfl ⟨rfl, rfl⟩ ?_
            refine vv_isub C dX6_spare_73 74 rfl ?_
            refine vv_iadd C dX6_spare_74 75 rfl ?_
            refine vv_istore_n C [(2, .int (v2_22 + (r3 - r4))), (0, .ref (X 0)), (1, .int r1), (3, .int v3_22)] dX6_spare_75 rfl (by decide) rfl 76 rfl ?_
            refine vv_iinc C (k := 3) [(3, .int (v3_22 + 1)), (2, .int (v2_22 + (r3 - r4))), (0, .ref (X 0)), (1, .int r1)] dX6_spare_76 rfl rfl (by decide) rfl 79 rfl ?_
            refine vv_goto C 22 dX6_spare_79 (by decide) ?_
            refine vv_lv [2, 3, 1, 0] [(0, .ref (X 0)), (1, .int r1), (2, .int (v2_22 + (r3 - r4))), (3, .int (v3_22 + 1))] rfl ?_
            exact ih22 (v2_22 + (r3 - r4)) (v3_22 + 1) _ h kk22
    obtain ⟨r5, hr5, h⟩ := bnd_s h
    refine L22 FU 0 0 r5 hr5 ?_
    refine vv_iload_n C dX6_spare_82 rfl 1 rfl 83 rfl ?_
    refine vv_i2d C dX6_spare_83 84 rfl ?_
    refine vv_iload_n C dX6_spare_84 rfl 0 rfl 85 rfl ?_
    refine vv_i2d C dX6_spare_85 86 rfl ?_
    obtain ⟨hz, h⟩ := chkP_s h
    obtain rfl := Option.some.inj h
    exact retdiv _ _ hz rfl _ _ dX6_spare_86 dX6_spare_87
  · replace h := ite_t hc h
    refine vv_dconst0 C dX6_spare_16 17 rfl ?_
    obtain rfl := Option.some.inj h
    exact ret0 rfl _ _ dX6_spare_17
abbrev wX7_spare (c : Nat → ClassId) (M : Nat → Nat) (M_thrown : Int32) (M_waters : Int32) (M_windX : Int32) (M_windY : Int32) (M_barrels : Int32) (M_crew : Int32) (M_fixed : Nat → Int32) (M_table : Nat → Int32) (M_people : Nat → Int32) : va_W := [(M 0, .inr (7, [.int M_thrown, .int M_waters, .ref (M 1), .int M_windX, .int M_windY, .int M_barrels, .ref (M 2), .int M_crew, .ref (M 3), .ref (M 4), .ref (M 5), .ref (M 6), .ref (M 7), .ref (M 8), .ref (M 9), .ref (M 10), .ref (M 11), .ref (M 12)])), aI c (M 2) 72 M_fixed, aI c (M 3) 120 M_table, aI c (M 6) 16 M_people]
abbrev rmX7_spare : Room := { frames := 2, cells := 0, slots := 0, locals := 45 }
theorem yd_X7_spare : yX7_spare.cls = RX7 ∧ yX7_spare.cls ≠ "java/lang/invoke/MethodHandle" ∧ yX7_spare.cls ≠ "java/lang/invoke/VarHandle" ∧ (parseMethodDescriptor yX7_spare.desc).map (fun d => d.parameters.length) = some 0 := by decide +kernel
theorem kwX7_spare_1 : Cond.fieldLink RX7 47 "BarrelRaftModel" "thrown" "I" ∈ wsX7_spare := List.mem_of_getElem? (i := 1) rfl
set_option maxRecDepth 20000 in
theorem kinX7_spare_X7 : ∀ w ∈ u_ws RX7 TX7 18, w ∈ wsX7_spare := by decide +kernel
theorem kwX7_spare_2 : Cond.fieldLink RX7 51 "BarrelRaftModel" "barrels" "I" ∈ wsX7_spare := List.mem_of_getElem? (i := 2) rfl
def jX7_spare_L9 (M_barrels : Int32) (M_crew : Int32) (M_fixed : Nat → Int32) (M_table : Nat → Int32) (M_people : Nat → Int32) (n : Nat) (v1_9 : Int32) (v2_9 : Int32) : Option (Int32) :=
  match n with
  | 0 => none
  | n + 1 => (if M_barrels ≤ v2_9 then some v1_9 else bnd (jX7_floats M_table v2_9) (fun r1 => (if r1 = 0 then jX7_spare_L9 M_barrels M_crew M_fixed M_table M_people n (v1_9 + 0) (v2_9 + 1) else bnd (jX7_lifts M_fixed M_table v2_9) (fun r2 => bnd (jX7_loadOf M_crew M_table M_people v2_9) (fun r3 => jX7_spare_L9 M_barrels M_crew M_fixed M_table M_people n (v1_9 + (r2 - r3)) (v2_9 + 1))))))
def jX7_spare (M_thrown : Int32) (M_barrels : Int32) (M_crew : Int32) (M_fixed : Nat → Int32) (M_table : Nat → Int32) (M_people : Nat → Int32) : Option ((Int32 × Int32) × Int32) :=
  bnd (jX7_spare_L9 M_barrels M_crew M_fixed M_table M_people FU 0 0) (fun r4 => bnd (jX7_withState M_barrels M_table 0) (fun r5 => (if r5 = 0 then some ((0, 0), 0) else bnd (jX7_withState M_barrels M_table 0) (fun r6 => chkP (¬ r6 = 0) (some ((r4, r6), 0))))))
set_option maxHeartbeats 4000000 in
set_option maxRecDepth 100000 in
theorem mt_X7_spare (l : Launch) (D : va_G) (c : Nat → ClassId) (M : Nat → Nat) (M_thrown : Int32) (M_waters : Int32) (M_windX : Int32) (M_windY : Int32) (M_barrels : Int32) (M_crew : Int32) (M_fixed : Nat → Int32) (M_table : Nat → Int32) (M_people : Nat → Int32) (q0 : (Int32 × Int32) × Int32) (h : jX7_spare M_thrown M_barrels M_crew M_fixed M_table M_people = some q0) : MDd l yX7_spare wsX7_spare rmX7_spare D c (wX7_spare c M M_thrown M_waters M_windX M_windY M_barrels M_crew M_fixed M_table M_people) [.ref (M 0)] q0.1 (wX7_spare c M q0.2 M_waters M_windX M_windY M_barrels M_crew M_fixed M_table M_people) 0 0 := by
  refine MDd_of (cc := cX7_spare) (nL := 3) RX7 rfl (by decide) rfl (Nat.le_of_ble_eq_true rfl) (fun g C ret0 retdiv => ?_)
  unfold jX7_spare at h
  refine vv_lv [0] [(0, .ref (M 0))] rfl ?_
  refine vv_aload_n C dX7_spare_0 rfl 0 rfl 1 rfl ?_
  refine vv_iconst C (v := 0) dX7_spare_1 (by decide) 2 rfl ?_
  refine vv_put C (q0 := 0) (ci := 7) (k := 0) (ty := .int) (wX7_spare c M 0 M_waters M_windX M_windY M_barrels M_crew M_fixed M_table M_people) tyX7 tyX7_ok nmX7 kinX7_spare_X7 rfl rfl (by decide) kwX7_spare_1 rfl rfl rfl rfl rfl (Nat.le_of_ble_eq_true rfl) rfl dX7_spare_2 5 rfl ?_
  refine vv_iconst C (v := 0) dX7_spare_5 (by decide) 6 rfl ?_
  refine vv_istore_n C [(1, .int 0), (0, .ref (M 0))] dX7_spare_6 rfl (by decide) rfl 7 rfl ?_
  refine vv_iconst C (v := 0) dX7_spare_7 (by decide) 8 rfl ?_
  refine vv_istore_n C [(2, .int 0), (1, .int 0), (0, .ref (M 0))] dX7_spare_8 rfl (by decide) rfl 9 rfl ?_
  refine vv_lv [2, 1, 0] [(0, .ref (M 0)), (1, .int 0), (2, .int 0)] rfl ?_
  have L9 : ∀ (n : Nat) (v1_9 : Int32) (v2_9 : Int32) (q9 : Int32), jX7_spare_L9 M_barrels M_crew M_fixed M_table M_people n v1_9 v2_9 = some q9 → (VV g D 3 0 0 (wX7_spare c M 0 M_waters M_windX M_windY M_barrels M_crew M_fixed M_table M_people) [(0, .ref (M 0)), (1, .int q9)] 49 []) → VV g D 3 0 0 (wX7_spare c M 0 M_waters M_windX M_windY M_barrels M_crew M_fixed M_table M_people) [(0, .ref (M 0)), (1, .int v1_9), (2, .int v2_9)] 9 [] := by
    intro n
    induction n with
    | zero =>
      intro v1_9 v2_9 q9 h _
      rw [jX7_spare_L9] at h
      cases h
    | succ n ih9 =>
      intro v1_9 v2_9 q9 h kk9
      rw [jX7_spare_L9] at h
      refine vv_iload_n C dX7_spare_9 rfl 2 rfl 10 rfl ?_
      refine vv_aload_n C dX7_spare_10 rfl 0 rfl 11 rfl ?_
      refine vv_get C (q0 := 0) (ci := 7) (k := 5) kinX7_spare_X7 rfl rfl (by decide) kwX7_spare_2 rfl rfl dX7_spare_11 14 rfl ?_
      refine vv_icmp_ge C 49 17 dX7_spare_14 (by decide) rfl (fun hc => ?_) (fun hc => ?_)
      · replace h := ite_t hc h
        refine vv_lv [0, 1] [(0, .ref (M 0)), (1, .int v1_9)] rfl ?_
        obtain rfl := Option.some.inj h
        exact kk9
      · replace h := ite_f hc h
        refine vv_iload_n C dX7_spare_17 rfl 1 rfl 18 rfl ?_
        refine vv_aload_n C dX7_spare_18 rfl 0 rfl 19 rfl ?_
        refine vv_iload_n C dX7_spare_19 rfl 2 rfl 20 rfl ?_
        obtain ⟨r1, hr1, h⟩ := bnd_s h
        refine vv_callVi C (fun l => mt_X7_floats l D c M 0 M_waters M_windX M_windY M_barrels M_crew M_table v2_9 r1 hr1) gX7_spare_X7_floats rfl rfl rfl yd_X7_floats ⟨Nat.le_of_ble_eq_true rfl, Nat.le_of_ble_eq_true rfl⟩ [0, 2] rfl (by decide) 0 rfl rfl (wX7_spare c M 0 M_waters M_windX M_windY M_barrels M_crew M_fixed M_table M_people) [(true, 0), (false, 1), (true, 1), (false, 3)] rfl (by decide) rfl rfl [.int v1_9] rfl (Nat.le_of_ble_eq_true rfl) ⟨Nat.le_of_ble_eq_true rfl, Nat.le_of_ble_eq_true rfl⟩ dX7_spare_20 23 0 0 rfl ⟨rfl, rfl⟩ ?_
        refine vv_if_eq C 40 26 dX7_spare_23 (by decide) rfl (fun hc => ?_) (fun hc => ?_)
        · replace h := ite_t hc h
          refine vv_iconst C (v := 0) dX7_spare_40 (by decide) 41 rfl ?_
          refine vv_iadd C dX7_spare_41 42 rfl ?_
          refine vv_istore_n C [(1, .int (v1_9 + 0)), (0, .ref (M 0)), (2, .int v2_9)] dX7_spare_42 rfl (by decide) rfl 43 rfl ?_
          refine vv_iinc C (k := 2) [(2, .int (v2_9 + 1)), (1, .int (v1_9 + 0)), (0, .ref (M 0))] dX7_spare_43 rfl rfl (by decide) rfl 46 rfl ?_
          refine vv_goto C 9 dX7_spare_46 (by decide) ?_
          refine vv_lv [2, 1, 0] [(0, .ref (M 0)), (1, .int (v1_9 + 0)), (2, .int (v2_9 + 1))] rfl ?_
          exact ih9 (v1_9 + 0) (v2_9 + 1) _ h kk9
        · replace h := ite_f hc h
          refine vv_aload_n C dX7_spare_26 rfl 0 rfl 27 rfl ?_
          refine vv_iload_n C dX7_spare_27 rfl 2 rfl 28 rfl ?_
          obtain ⟨r2, hr2, h⟩ := bnd_s h
          refine vv_callVi C (fun l => mt_X7_lifts l D c M 0 M_waters M_windX M_windY M_barrels M_crew M_fixed M_table v2_9 r2 hr2) gX7_spare_X7_lifts rfl rfl rfl yd_X7_lifts ⟨Nat.le_of_ble_eq_true rfl, Nat.le_of_ble_eq_true rfl⟩ [0, 1, 2] rfl (by decide) 0 rfl rfl (wX7_spare c M 0 M_waters M_windX M_windY M_barrels M_crew M_fixed M_table M_people) [(true, 0), (true, 1), (true, 2), (false, 3)] rfl (by decide) rfl rfl [.int v1_9] rfl (Nat.le_of_ble_eq_true rfl) ⟨Nat.le_of_ble_eq_true rfl, Nat.le_of_ble_eq_true rfl⟩ dX7_spare_28 31 0 0 rfl ⟨rfl, rfl⟩ ?_
          refine vv_aload_n C dX7_spare_31 rfl 0 rfl 32 rfl ?_
          refine vv_iload_n C dX7_spare_32 rfl 2 rfl 33 rfl ?_
          obtain ⟨r3, hr3, h⟩ := bnd_s h
          refine vv_callVi C (fun l => mt_X7_loadOf l D c M 0 M_waters M_windX M_windY M_barrels M_crew M_table M_people v2_9 r3 hr3) gX7_spare_X7_loadOf rfl rfl rfl yd_X7_loadOf ⟨Nat.le_of_ble_eq_true rfl, Nat.le_of_ble_eq_true rfl⟩ [0, 2, 3] rfl (by decide) 0 rfl rfl (wX7_spare c M 0 M_waters M_windX M_windY M_barrels M_crew M_fixed M_table M_people) [(true, 0), (false, 1), (true, 1), (true, 2)] rfl (by decide) rfl rfl [.int r2, .int v1_9] rfl (Nat.le_of_ble_eq_true rfl) ⟨Nat.le_of_ble_eq_true rfl, Nat.le_of_ble_eq_true rfl⟩ dX7_spare_33 36 0 0 rfl ⟨rfl, rfl⟩ ?_
          refine vv_isub C dX7_spare_36 37 rfl ?_
          refine vv_goto C 41 dX7_spare_37 (by decide) ?_
          refine vv_iadd C dX7_spare_41 42 rfl ?_
          refine vv_istore_n C [(1, .int (v1_9 + (r2 - r3))), (0, .ref (M 0)), (2, .int v2_9)] dX7_spare_42 rfl (by decide) rfl 43 rfl ?_
          refine vv_iinc C (k := 2) [(2, .int (v2_9 + 1)), (1, .int (v1_9 + (r2 - r3))), (0, .ref (M 0))] dX7_spare_43 rfl rfl (by decide) rfl 46 rfl ?_
          refine vv_goto C 9 dX7_spare_46 (by decide) ?_
          refine vv_lv [2, 1, 0] [(0, .ref (M 0)), (1, .int (v1_9 + (r2 - r3))), (2, .int (v2_9 + 1))] rfl ?_
          exact ih9 (v1_9 + (r2 - r3)) (v2_9 + 1) _ h kk9
  obtain ⟨r4, hr4, h⟩ := bnd_s h
  refine L9 FU 0 0 r4 hr4 ?_
  refine vv_aload_n C dX7_spare_49 rfl 0 rfl 50 rfl ?_
  refine vv_iconst C (v := 0) dX7_spare_50 (by decide) 51 rfl ?_
  obtain ⟨r5, hr5, h⟩ := bnd_s h
  refine vv_callVi C (fun l => mt_X7_withState l D c M 0 M_waters M_windX M_windY M_barrels M_crew M_table 0 r5 hr5) gX7_spare_X7_withState rfl rfl rfl yd_X7_withState ⟨Nat.le_of_ble_eq_true rfl, Nat.le_of_ble_eq_true rfl⟩ [0, 2] rfl (by decide) 0 rfl rfl (wX7_spare c M 0 M_waters M_windX M_windY M_barrels M_crew M_fixed M_table M_people) [(true, 0), (false, 1), (true, 1), (false, 3)] rfl (by decide) rfl rfl [] rfl (Nat.le_of_ble_eq_true rfl) ⟨Nat.le_of_ble_eq_true rfl, Nat.le_of_ble_eq_true rfl⟩ dX7_spare_51 54 0 0 rfl ⟨rfl, rfl⟩ ?_
  refine vv_if_ne C 61 57 dX7_spare_54 (by decide) rfl (fun hc => ?_) (fun hc => ?_)
  · replace h := ite_f hc h
    refine vv_iload_n C dX7_spare_61 rfl 1 rfl 62 rfl ?_
    refine vv_i2d C dX7_spare_62 63 rfl ?_
    refine vv_aload_n C dX7_spare_63 rfl 0 rfl 64 rfl ?_
    refine vv_iconst C (v := 0) dX7_spare_64 (by decide) 65 rfl ?_
    obtain ⟨r6, hr6, h⟩ := bnd_s h
    refine vv_callVi C (fun l => mt_X7_withState l D c M 0 M_waters M_windX M_windY M_barrels M_crew M_table 0 r6 hr6) gX7_spare_X7_withState rfl rfl rfl yd_X7_withState ⟨Nat.le_of_ble_eq_true rfl, Nat.le_of_ble_eq_true rfl⟩ [0, 2] rfl (by decide) 0 rfl rfl (wX7_spare c M 0 M_waters M_windX M_windY M_barrels M_crew M_fixed M_table M_people) [(true, 0), (false, 1), (true, 1), (false, 3)] rfl (by decide) rfl rfl [.double (FP.i2d r4)] rfl (Nat.le_of_ble_eq_true rfl) ⟨Nat.le_of_ble_eq_true rfl, Nat.le_of_ble_eq_true rfl⟩ dX7_spare_65 68 0 0 rfl ⟨rfl, rfl⟩ ?_
    refine vv_i2d C dX7_spare_68 69 rfl ?_
    obtain ⟨hz, h⟩ := chkP_s h
    obtain rfl := Option.some.inj h
    exact retdiv _ _ hz rfl _ _ dX7_spare_69 dX7_spare_70
  · replace h := ite_t hc h
    refine vv_dconst0 C dX7_spare_57 58 rfl ?_
    refine vv_goto C 70 dX7_spare_58 (by decide) ?_
    obtain rfl := Option.some.inj h
    exact ret0 rfl _ _ dX7_spare_70
