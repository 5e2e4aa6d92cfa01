abbrev rmL_act : Room := { frames := 8, cells := 45, slots := 422, locals := 142 }
theorem yd_L_act : yL_act.cls ≠ "java/lang/invoke/MethodHandle" ∧ yL_act.cls ≠ "java/lang/invoke/VarHandle" ∧ (parseMethodDescriptor yL_act.desc).map (fun d => d.parameters.length) = some 3 := by decide +kernel
theorem kwL_act_1 : Cond.fieldLink RL 40 "BarrelRaftLaw$Sim" "barrels" "[[I" ∈ wsL_act := List.mem_of_getElem? (i := 1) rfl
set_option maxRecDepth 20000 in
theorem kinL_act_X7 : ∀ w ∈ u_ws RX7 TX7 9, w ∈ wsL_act := by decide +kernel
theorem kwL_act_2 : Cond.fieldLink RL 51 "BarrelRaftLaw$Sim" "people" "[[I" ∈ wsL_act := List.mem_of_getElem? (i := 2) rfl
theorem kwL_act_3 : Cond.fieldLink RL 69 "BarrelRaftLaw$Sim" "ties" "[[I" ∈ wsL_act := List.mem_of_getElem? (i := 3) rfl
theorem kwL_act_4 : Cond.fieldLink RL 59 "BarrelRaftLaw$Sim" "ropes" "I" ∈ wsL_act := List.mem_of_getElem? (i := 4) rfl
theorem kwL_act_5 : Cond.methodLink RL 76 Lib.Math.min.name ∈ wsL_act := List.mem_of_getElem? (i := 5) rfl
theorem kwL_act_6 : Cond.static Lib.Math.min.name ∈ wsL_act := List.mem_of_getElem? (i := 6) rfl
theorem kwL_act_7 : Cond.initialized "java/lang/Math" ∈ wsL_act := List.mem_of_getElem? (i := 7) rfl
theorem kwL_act_8 : Cond.code Lib.Math.min.name Lib.Math.min.code 2 (some .int) ∈ wsL_act := List.mem_of_getElem? (i := 8) rfl
theorem kwL_act_9 : Cond.fieldLink RL 96 "BarrelRaftLaw$Sim" "windX" "I" ∈ wsL_act := List.mem_of_getElem? (i := 9) rfl
theorem kwL_act_10 : Cond.fieldLink RL 99 "BarrelRaftLaw$Sim" "windY" "I" ∈ wsL_act := List.mem_of_getElem? (i := 10) rfl
def jL_act (ropes : Int32) (windX : Int32) (windY : Int32) (nB : Nat) (nT : Nat) (nP : Nat) (nR : Nat) (sg : Nat → Nat) (bF : Nat → Nat → Int32) (tF : Nat → Nat → Int32) (pF : Nat → Nat → Int32) (S : Nat → Nat → Int32) (a1 : Int32) : Option (Int32 × Int32 × Int32 × Int32 × Nat × Nat × (Nat → Nat) × (Nat → Nat → Int32) × (Nat → Nat → Int32) × (Nat → Nat → Int32) × (Nat → Nat → Int32)) := chkP (¬ (nI nB) = 0) (jn (fun (x36 : Int32) => (if bl (shr5 a1 6) 7 = 0 then bnd (jL_tie ropes nB nT nR sg bF tF S (shr5 a1 2)) (fun r_6 => chkZ r_6.1 (some (r_6.1, r_6.2.1, windX, windY, r_6.2.2.1, r_6.2.2.2.1, r_6.2.2.2.2.1, bF, r_6.2.2.2.2.2.1, pF, r_6.2.2.2.2.2.2))) else (if bl (shr5 a1 6) 7 = 1 then (if nI nT = 0 then chkZ 1 (some (1, ropes, windX, windY, nT, nR, sg, bF, tF, pF, S)) else chkP (¬ (nI nT) = 0) (chk nT (bl a1 (nI nT)) (chkP (sg (((bl a1 (nI nT))).toNatClampNeg) < nR) (bnd (jS_untie nT nR sg (sg (((bl a1 (nI nT))).toNatClampNeg))) (fun r_11 => bnd (op_cut S (rd (tF (sg (((bl a1 (nI nT))).toNatClampNeg))) 1) (rd (tF (sg (((bl a1 (nI nT))).toNatClampNeg))) 0)) (fun r_13 => (if r_13.1 = mmin 40 (ropes + 1) then chkZ 1 (some (1, mmin 40 (ropes + 1), windX, windY, r_11.1, nR, r_11.2, bF, tF, pF, r_13.2)) else none))))))) else (if bl (shr5 a1 6) 7 = 2 then chk nB (bl a1 (nI nB)) ((if rd (bF (((bl a1 (nI nB))).toNatClampNeg)) 6 ≤ 0 then chk nB (bl a1 (nI nB)) (chk nB (bl a1 (nI nB)) (chk nB (bl a1 (nI nB)) (bnd (op_load S (bl a1 (nI nB)) (rd (uF bF (((bl a1 (nI nB))).toNatClampNeg) (wr (bF (((bl a1 (nI nB))).toNatClampNeg)) 5 (bl (shr5 a1 2) 31)) (((bl a1 (nI nB))).toNatClampNeg)) 5)) (fun r_23 => (if r_23.1 = rd (bF (((bl a1 (nI nB))).toNatClampNeg)) 5 then chkZ 1 (some (1, ropes, windX, windY, nT, nR, sg, uF bF (((bl a1 (nI nB))).toNatClampNeg) (wr (bF (((bl a1 (nI nB))).toNatClampNeg)) 5 (bl (shr5 a1 2) 31)), tF, pF, r_23.2)) else none))))) else chkZ 1 (some (1, ropes, windX, windY, nT, nR, sg, bF, tF, pF, S)))) else (if bl (shr5 a1 6) 7 = 3 then (if x36 < 0 then chkZ 1 (some (1, ropes, windX, windY, nT, nR, sg, bF, tF, pF, S)) else chk nP x36 ((if rd (pF ((x36).toNatClampNeg)) 0 < 0 then chkZ 1 (some (1, ropes, windX, windY, nT, nR, sg, bF, tF, pF, S)) else chk nP x36 (bnd (jS_tie nT nR sg tF (rd (pF ((x36).toNatClampNeg)) 0) (bl a1 (nI nB))) (fun r_30 => (if r_30 = none then chkZ 1 (some (1, ropes, windX, windY, nT, nR, sg, bF, tF, pF, S)) else chk nP x36 (bnd (op_go S x36 (bl a1 (nI nB))) (fun r_33 => bnd (jS_load nB nP bF (uF pF ((x36).toNatClampNeg) (wr (pF ((x36).toNatClampNeg)) 0 (bl a1 (nI nB)))) (bl a1 (nI nB))) (fun r_38 => chk nB (bl a1 (nI nB)) ((if r_33.1 = (r_38 - (rd (bF (((bl a1 (nI nB))).toNatClampNeg)) 5)) / 7 then chkZ 1 (some (1, ropes, windX, windY, nT, nR, sg, bF, tF, uF pF ((x36).toNatClampNeg) (wr (pF ((x36).toNatClampNeg)) 0 (bl a1 (nI nB))), r_33.2)) else none))))))))))) else (if bl (shr5 a1 6) 7 = 4 then (if x36 < 0 then chkZ 1 (some (1, ropes, windX, windY, nT, nR, sg, bF, tF, pF, S)) else chk nP x36 ((if 0 ≤ rd (pF ((x36).toNatClampNeg)) 0 then chk nP x36 (chk nB (rd (pF ((x36).toNatClampNeg)) 0) (jn (fun (x376 : Int32) => bnd (op_bail S x36) (fun r_44 => (if r_44.1 = rd (uF bF (((rd (pF ((x36).toNatClampNeg)) 0)).toNatClampNeg) (wr (bF (((rd (pF ((x36).toNatClampNeg)) 0)).toNatClampNeg)) 4 x376) (((rd (pF ((x36).toNatClampNeg)) 0)).toNatClampNeg)) 4 then chkZ 1 (some (1, ropes, windX, windY, nT, nR, sg, uF bF (((rd (pF ((x36).toNatClampNeg)) 0)).toNatClampNeg) (wr (bF (((rd (pF ((x36).toNatClampNeg)) 0)).toNatClampNeg)) 4 x376), tF, pF, r_44.2)) else none))) (fun k376 => (if rd (bF (((rd (pF ((x36).toNatClampNeg)) 0)).toNatClampNeg)) 4 ≤ 25 then k376 0 else k376 ((rd (bF (((rd (pF ((x36).toNatClampNeg)) 0)).toNatClampNeg)) 4) - 25))))) else chkZ 1 (some (1, ropes, windX, windY, nT, nR, sg, bF, tF, pF, S))))) else (if bl (shr5 a1 6) 7 = 5 then bnd (op_setWind S ((bl (shr5 a1 1) 5) - 2) ((bl (shr5 a1 4) 5) - 2)) (fun r_51 => (if r_51.1 = ((5 * (windX + 2)) + windY) + 2 then chkZ 1 (some (1, ropes, (bl (shr5 a1 1) 5) - 2, (bl (shr5 a1 4) 5) - 2, nT, nR, sg, bF, tF, pF, r_51.2)) else none)) else chkZ 1 (some (1, ropes, windX, windY, nT, nR, sg, bF, tF, pF, S))))))))) (fun k36 => (if nI nP = 0 then k36 (-1) else chkP (¬ (nI nP) = 0) (k36 (bl (shr5 a1 3) (nI nP))))))
set_option maxHeartbeats 40000000 in
set_option maxRecDepth 100000 in
theorem mt_L_act (l : Launch) (hfl : l.stackTraces = false) (D : va_G) (c : Nat → ClassId) (X W R B K Q T TB TK TQ Y : Nat → Nat) (b L : Nat) (hL : L < 2 ^ 31) (xs : Nat → Int32) (m0 oW oB oT oP : Nat) (WA BA TA PA : Nat → Nat) (hour : Int32) (ropes : Int32) (broken : Int32) (windX : Int32) (windY : Int32) (nW : Nat) (nB : Nat) (nT : Nat) (nP : Nat) (nR : Nat) (sg : Nat → Nat) (wF : Nat → Nat → Int32) (bF : Nat → Nat → Int32) (tF : Nat → Nat → Int32) (pF : Nat → Nat → Int32) (S : Nat → Nat → Int32) (a1 : Int32) (q0 : Int32 × Int32 × Int32 × Int32 × Nat × Nat × (Nat → Nat) × (Nat → Nat → Int32) × (Nat → Nat → Int32) × (Nat → Nat → Int32) × (Nat → Nat → Int32)) (h : jL_act ropes windX windY nB nT nP nR sg bF tF pF S a1 = some q0) : MLi l yL_act wsL_act rmL_act D c (List.flatten [sO m0 hour ropes broken windX windY oW oB oT oP, [aR c oW nW (fun i => some (WA i))], [aR c oB nB (fun i => some (BA i))], [aR c oT nT (fun i => some (TA (sg i)))], [aR c oP nP (fun i => some (PA i))], rowsW c WA nW 7 wF, rowsW c BA nB 9 bF, rowsW c TA nR 4 tF, rowsW c PA nP 2 pF, wRf c X W R B K Q T TB TK TQ Y S]) [.ref (X 0), .ref m0, .int a1] b L xs (fun (r : Int32) (_ : Nat × (Nat → Nat)) => r = q0.1) (fun u => (List.flatten [sO m0 hour q0.2.1 broken q0.2.2.1 q0.2.2.2.1 oW oB u.1 oP, [aR c oW nW (fun i => some (WA i))], [aR c oB nB (fun i => some (BA i))], [aR c u.1 q0.2.2.2.2.1 (fun i => some (u.2 (q0.2.2.2.2.2.2.1 i)))], [aR c oP nP (fun i => some (PA i))], rowsW c WA nW 7 wF, rowsW c BA nB 9 q0.2.2.2.2.2.2.2.1, rowsW c u.2 q0.2.2.2.2.2.1 4 q0.2.2.2.2.2.2.2.2.1, rowsW c PA nP 2 q0.2.2.2.2.2.2.2.2.2.1, wRf c X W R B K Q T TB TK TQ Y q0.2.2.2.2.2.2.2.2.2.2])) 45 422 := by
  refine MLz_of hfl (cc := cL_act) (nL := 10) RL rfl (by decide) rfl (Nat.le_of_ble_eq_true rfl) (fun g C XL ret => ?_)
  unfold jL_act at h
  refine vv_lv [0, 1, 2] [(0, .ref (X 0)), (1, .ref m0), (2, .int a1)] rfl ?_
  refine vv_aload_n C dL_act_0 rfl 1 rfl 1 rfl ?_
  refine vv_get C (q0 := 0) (ci := 7) (k := 6) kinL_act_X7 rfl rfl (by decide) kwL_act_1 rfl rfl dL_act_1 4 rfl ?_
  refine vs_alenR C (q0 := 2) rfl dL_act_4 5 rfl ?_
  refine vv_istore_n C [(3, .int (nI nB)), (0, .ref (X 0)), (1, .ref m0), (2, .int a1)] dL_act_5 rfl (by decide) rfl 6 rfl ?_
  refine vv_iload_n C dL_act_6 rfl 3 rfl 7 rfl ?_
  refine vv_iload_n C dL_act_7 rfl 0 rfl 8 rfl ?_
  obtain ⟨hz_1, h⟩ := chkP_s h
  refine vs_callSi C (S := Unit) (fun l => mt_L_below l D c a1 (nI nB) hz_1) gL_act_L_below rfl rfl rfl yd_L_below ⟨Nat.le_of_ble_eq_true rfl, Nat.le_of_ble_eq_true rfl⟩ (List.flatten [sO m0 hour ropes broken windX windY oW oB oT oP, [aR c oW nW (fun i => some (WA i))], [aR c oB nB (fun i => some (BA i))], [aR c oT nT (fun i => some (TA (sg i)))], [aR c oP nP (fun i => some (PA i))], rowsW c WA nW 7 wF, rowsW c BA nB 9 bF, rowsW c TA nR 4 tF, rowsW c PA nP 2 pF, wRf c X W R B K Q T TB TK TQ Y S]) vs_nilP rfl [] rfl (Nat.le_of_ble_eq_true rfl) ⟨show 0 + 0 ≤ 45 by omega, show 0 + 0 ≤ 422 by omega⟩ dL_act_8 11 0 0 rfl ⟨rfl, rfl⟩ (fun _ u_2 hu => ?_)
  rw [hu]
  refine vs_nilR ?_
  refine vv_istore C [(4, .int (bl a1 (nI nB))), (3, .int (nI nB)), (0, .ref (X 0)), (1, .ref m0), (2, .int a1)] dL_act_11 (by decide) rfl 13 rfl ?_
  refine vv_aload_n C dL_act_13 rfl 3 rfl 14 rfl ?_
  refine vv_get C (q0 := 0) (ci := 7) (k := 8) kinL_act_X7 rfl rfl (by decide) kwL_act_2 rfl rfl dL_act_14 17 rfl ?_
  refine vs_alenR C (q0 := 4) rfl dL_act_17 18 rfl ?_
  obtain ⟨k36, hk36, h⟩ := jn_s h
  have J36 : ∀  (x36 : Int32), k36 x36 = some q0 → VV g D 10 0 0 (List.flatten [sO m0 hour ropes broken windX windY oW oB oT oP, [aR c oW nW (fun i => some (WA i))], [aR c oB nB (fun i => some (BA i))], [aR c oT nT (fun i => some (TA (sg i)))], [aR c oP nP (fun i => some (PA i))], rowsW c WA nW 7 wF, rowsW c BA nB 9 bF, rowsW c TA nR 4 tF, rowsW c PA nP 2 pF, wRf c X W R B K Q T TB TK TQ Y S]) [(0, .ref (X 0)), (1, .ref m0), (2, .int a1), (4, .int (bl a1 (nI nB)))] 36 [.int x36] := by
    intro x36 h
    replace h := jn_u hk36 h
    refine vv_istore C [(5, .int x36), (0, .ref (X 0)), (1, .ref m0), (2, .int a1), (4, .int (bl a1 (nI nB)))] dL_act_36 (by decide) rfl 38 rfl ?_
    refine vv_iload_n C dL_act_38 rfl 3 rfl 39 rfl ?_
    refine vv_bipush C (v := 6) dL_act_39 (by decide) 41 rfl ?_
    refine vv_ishr C dL_act_41 42 rfl ?_
    refine vv_bipush C (v := 7) dL_act_42 (by decide) 44 rfl ?_
    refine vs_callSi C (S := Unit) (fun l => mt_L_below l D c (shr5 a1 6) 7 (by decide)) gL_act_L_below rfl rfl rfl yd_L_below ⟨Nat.le_of_ble_eq_true rfl, Nat.le_of_ble_eq_true rfl⟩ (List.flatten [sO m0 hour ropes broken windX windY oW oB oT oP, [aR c oW nW (fun i => some (WA i))], [aR c oB nB (fun i => some (BA i))], [aR c oT nT (fun i => some (TA (sg i)))], [aR c oP nP (fun i => some (PA i))], rowsW c WA nW 7 wF, rowsW c BA nB 9 bF, rowsW c TA nR 4 tF, rowsW c PA nP 2 pF, wRf c X W R B K Q T TB TK TQ Y S]) vs_nilP rfl [] rfl (Nat.le_of_ble_eq_true rfl) ⟨show 0 + 0 ≤ 45 by omega, show 0 + 0 ≤ 422 by omega⟩ dL_act_44 47 0 0 rfl ⟨rfl, rfl⟩ (fun _ u_5 hu => ?_)
    rw [hu]
    refine vs_nilR ?_
    by_cases hn0 : bl (shr5 a1 6) 7 = 0
    · replace h := ite_t hn0 h
      refine vv_swIn C (off := 37) 84 dL_act_47 (by rw [hn0]; decide) (by rw [hn0]; decide) (by rw [hn0]; rfl) (by decide) ?_
      refine vv_aload_n C dL_act_84 rfl 1 rfl 85 rfl ?_
      refine vv_aload_n C dL_act_85 rfl 2 rfl 86 rfl ?_
      refine vv_iload_n C dL_act_86 rfl 3 rfl 87 rfl ?_
      refine vv_iconst C (v := 2) dL_act_87 (by decide) 88 rfl ?_
      refine vv_ishr C dL_act_88 89 rfl ?_
      obtain ⟨r_6, hr_6, h⟩ := bnd_s h
      refine vs_callLi C XL (S := (Nat × (Nat → Nat))) (fun l hfl => mt_L_tie l hfl D c X W R B K Q T TB TK TQ Y b L hL xs m0 oW oB oT oP WA BA TA PA hour ropes broken windX windY nW nB nT nP nR sg wF bF tF pF S (shr5 a1 2) r_6 hr_6) gL_act_L_tie rfl rfl rfl yd_L_tie ⟨Nat.le_of_ble_eq_true rfl, Nat.le_of_ble_eq_true rfl⟩ (List.flatten []) (sg_pick2 [] [0, 1, 2, 3, 4, 5, 6, 7, 8, 9] rfl rfl (pm_of (N := 10) rfl (by decide +kernel))) rfl [] rfl (Nat.le_of_ble_eq_true rfl) ⟨show 0 + 45 ≤ 45 by omega, show 0 + 422 ≤ 422 by omega⟩ dL_act_89 92 45 422 rfl ⟨by omega, by omega⟩ (fun _ u_7 hu => ?_)
      rw [hu]
      refine vs_app ?_
      refine vv_seg [0, 1, 2, 3, 4, 5, 6, 7, 8, 9] [] [sO m0 hour r_6.2.1 broken windX windY oW oB u_7.1 oP, [aR c oW nW (fun i => some (WA i))], [aR c oB nB (fun i => some (BA i))], [aR c u_7.1 r_6.2.2.1 (fun i => some (u_7.2 (r_6.2.2.2.2.1 i)))], [aR c oP nP (fun i => some (PA i))], rowsW c WA nW 7 wF, rowsW c BA nB 9 bF, rowsW c u_7.2 r_6.2.2.2.1 4 r_6.2.2.2.2.2.1, rowsW c PA nP 2 pF, wRf c X W R B K Q T TB TK TQ Y r_6.2.2.2.2.2.2] rfl (pm_of (N := 10) rfl (by decide +kernel)) ?_
      obtain ⟨hz, h⟩ := chkZ_s h
      obtain rfl := Option.some.inj h
      refine vv_widen (k := 45) (n := 422) (by omega) (by omega) ?_
      exact ret (u_7.1, u_7.2) _ rfl hz _ _ dL_act_92
    · replace h := ite_f hn0 h
      by_cases hn1 : bl (shr5 a1 6) 7 = 1
      · replace h := ite_t hn1 h
        refine vv_swIn C (off := 46) 93 dL_act_47 (by rw [hn1]; decide) (by rw [hn1]; decide) (by rw [hn1]; rfl) (by decide) ?_
        refine vv_aload_n C dL_act_93 rfl 2 rfl 94 rfl ?_
        refine vv_get C (q0 := 0) (ci := 7) (k := 7) kinL_act_X7 rfl rfl (by decide) kwL_act_3 rfl rfl dL_act_94 97 rfl ?_
        refine vs_alenR C (q0 := 3) rfl dL_act_97 98 rfl ?_
        refine vv_if_ne C 103 101 dL_act_98 (by decide) rfl (fun hc => ?_) (fun hc => ?_)
        · replace h := ite_f hc h
          refine vv_aload_n C dL_act_103 rfl 2 rfl 104 rfl ?_
          refine vv_get C (q0 := 0) (ci := 7) (k := 7) kinL_act_X7 rfl rfl (by decide) kwL_act_3 rfl rfl dL_act_104 107 rfl ?_
          refine vv_iload_n C dL_act_107 rfl 3 rfl 108 rfl ?_
          refine vv_aload_n C dL_act_108 rfl 2 rfl 109 rfl ?_
          refine vv_get C (q0 := 0) (ci := 7) (k := 7) kinL_act_X7 rfl rfl (by decide) kwL_act_3 rfl rfl dL_act_109 112 rfl ?_
          refine vs_alenR C (q0 := 3) rfl dL_act_112 113 rfl ?_
          obtain ⟨hz_8, h⟩ := chkP_s h
          refine vs_callSi C (S := Unit) (fun l => mt_L_below l D c a1 (nI nT) hz_8) gL_act_L_below rfl rfl rfl yd_L_below ⟨Nat.le_of_ble_eq_true rfl, Nat.le_of_ble_eq_true rfl⟩ (List.flatten [sO m0 hour ropes broken windX windY oW oB oT oP, [aR c oW nW (fun i => some (WA i))], [aR c oB nB (fun i => some (BA i))], [aR c oT nT (fun i => some (TA (sg i)))], [aR c oP nP (fun i => some (PA i))], rowsW c WA nW 7 wF, rowsW c BA nB 9 bF, rowsW c TA nR 4 tF, rowsW c PA nP 2 pF, wRf c X W R B K Q T TB TK TQ Y S]) vs_nilP rfl [.ref oT] rfl (Nat.le_of_ble_eq_true rfl) ⟨show 0 + 0 ≤ 45 by omega, show 0 + 0 ≤ 422 by omega⟩ dL_act_113 116 0 0 rfl ⟨rfl, rfl⟩ (fun _ u_9 hu => ?_)
          rw [hu]
          refine vs_nilR ?_
          obtain ⟨hi, h⟩ := chk_s h
          obtain ⟨hr_10, h⟩ := chkP_s h
          refine vs_aald C (q0 := 3) (k := ((bl a1 (nI nT))).toNatClampNeg) rfl hi rfl dL_act_116 117 rfl ?_
          refine vv_eq (st' := [.ref (TA (sg (((bl a1 (nI nT))).toNatClampNeg)))]) rfl rfl rfl ?_
          refine vv_astore C [(6, .ref (TA (sg (((bl a1 (nI nT))).toNatClampNeg)))), (5, .int x36), (0, .ref (X 0)), (1, .ref m0), (2, .int a1), (4, .int (bl a1 (nI nB)))] dL_act_117 (by decide) rfl 119 rfl ?_
          refine vv_aload_n C dL_act_119 rfl 3 rfl 120 rfl ?_
          refine vv_aload C dL_act_120 0 rfl 122 rfl ?_
          obtain ⟨r_11, hr_11, h⟩ := bnd_s h
          refine vs_callVv C (S := Nat) (fun l => mt_X7_untie l D c m0 oW oB oT oP WA BA TA PA hour ropes broken windX windY nW nB nT nP nR sg wF bF tF pF (sg (((bl a1 (nI nT))).toNatClampNeg)) r_11 hr_11) gL_act_X7_untie rfl rfl rfl yd_X7_untie ⟨Nat.le_of_ble_eq_true rfl, Nat.le_of_ble_eq_true rfl⟩ (List.flatten [wRf c X W R B K Q T TB TK TQ Y S]) (sg_pick2 [9] [0, 1, 2, 3, 4, 5, 6, 7, 8] rfl rfl (pm_of (N := 10) rfl (by decide +kernel))) 0 rfl rfl rfl [] rfl (Nat.le_of_ble_eq_true rfl) ⟨show 0 + 11 ≤ 45 by omega, show 0 + 120 ≤ 422 by omega⟩ dL_act_122 125 11 120 rfl ⟨by omega, by omega⟩ (fun u_12 _ => ?_)
          refine vs_app ?_
          refine vv_seg [1, 2, 3, 4, 5, 6, 7, 8, 9, 0] [] [sO m0 hour ropes broken windX windY oW oB u_12 oP, [aR c oW nW (fun i => some (WA i))], [aR c oB nB (fun i => some (BA i))], [aR c u_12 r_11.1 (fun i => some (TA (r_11.2 i)))], [aR c oP nP (fun i => some (PA i))], rowsW c WA nW 7 wF, rowsW c BA nB 9 bF, rowsW c TA nR 4 tF, rowsW c PA nP 2 pF, wRf c X W R B K Q T TB TK TQ Y S] rfl (pm_of (N := 10) rfl (by decide +kernel)) ?_
          refine vv_aload_n C dL_act_125 rfl 3 rfl 126 rfl ?_
          refine vv_bipush C (v := 40) dL_act_126 (by decide) 128 rfl ?_
          refine vv_aload_n C dL_act_128 rfl 3 rfl 129 rfl ?_
          refine vv_get C (q0 := 0) (ci := 7) (k := 1) kinL_act_X7 rfl rfl (by decide) kwL_act_4 rfl rfl dL_act_129 132 rfl ?_
          refine vv_iconst C (v := 1) dL_act_132 (by decide) 133 rfl ?_
          refine vv_iadd C dL_act_133 134 rfl ?_
          refine vv_mmin C kwL_act_5 kwL_act_6 kwL_act_7 kwL_act_8 ⟨Nat.le_of_ble_eq_true rfl, Nat.le_of_ble_eq_true rfl⟩ ⟨Nat.le_of_ble_eq_true rfl, Nat.le_of_ble_eq_true rfl⟩ dL_act_134 137 rfl ?_
          refine vv_put C (q0 := 0) (ci := 7) (k := 1) (ty := .int) (List.flatten [sO m0 hour (mmin 40 (ropes + 1)) broken windX windY oW oB u_12 oP, [aR c oW nW (fun i => some (WA i))], [aR c oB nB (fun i => some (BA i))], [aR c u_12 r_11.1 (fun i => some (TA (r_11.2 i)))], [aR c oP nP (fun i => some (PA i))], rowsW c WA nW 7 wF, rowsW c BA nB 9 bF, rowsW c TA nR 4 tF, rowsW c PA nP 2 pF, wRf c X W R B K Q T TB TK TQ Y S]) tyX7 tyX7_ok nmX7 kinL_act_X7 rfl rfl (by decide) kwL_act_4 rfl rfl rfl rfl rfl (Nat.le_of_ble_eq_true rfl) rfl dL_act_137 140 rfl ?_
          refine vv_aload_n C dL_act_140 rfl 2 rfl 141 rfl ?_
          refine vv_aload C dL_act_141 0 rfl 143 rfl ?_
          refine vv_iconst C (v := 1) dL_act_143 (by decide) 144 rfl ?_
          refine vs_iald C (r := sg (((bl a1 (nI nT))).toNatClampNeg)) 7 rfl hr_10 (inB_t (by decide)) dL_act_144 145 rfl ?_
          refine vv_aload C dL_act_145 0 rfl 147 rfl ?_
          refine vv_iconst C (v := 0) dL_act_147 (by decide) 148 rfl ?_
          refine vs_iald C (r := sg (((bl a1 (nI nT))).toNatClampNeg)) 7 rfl hr_10 (inB_t (by decide)) dL_act_148 149 rfl ?_
          obtain ⟨r_13, hr_13, h⟩ := bnd_s h
          obtain ⟨u_14, g_15, hu_16, -, e_17⟩ := op_cut_s hr_13
          refine vs_callX C XL (fun l hfl => mt_X6_cut l hfl D c X W R B K Q T Y (S 0 0) (S 10 0) (S 11 0) (S 23 0) (S 19) (S 22) (S 31 0) (S 27) (S 28) (S 29) (S 30) (rd (tF (sg (((bl a1 (nI nT))).toNatClampNeg))) 1) (rd (tF (sg (((bl a1 (nI nT))).toNatClampNeg))) 0) (Sum.inr u_14) hu_16) gL_act_X6_cut rfl rfl rfl yd_X6_cut ⟨Nat.le_of_ble_eq_true rfl, Nat.le_of_ble_eq_true rfl⟩ 9 (wRf c X W R B K Q T TB TK TQ Y S) (wRf c X W R B K Q T TB TK TQ Y (up (up (up (up (up (up (up (up (up (up (up S 0 (fun _ => u_14.2.1)) 22 u_14.2.2.1) 31 (fun _ => u_14.2.2.2.1)) 27 u_14.2.2.2.2.1) 28 u_14.2.2.2.2.2.1) 29 u_14.2.2.2.2.2.2.1) 30 u_14.2.2.2.2.2.2.2) 60 (fun _ => g_15.2.1)) 69 g_15.2.2.1) 70 g_15.2.2.2.1) 72 g_15.2.2.2.2)) [((W 0), .inr (4, [.ref (W 1), .ref (W 2), .ref (W 3), .ref (W 4), .int (S 5 0), .int (S 6 0), .int (S 7 0)])), aI c (W 1) 8 (S 1), aI c (W 2) 8 (S 2), aI c (W 3) 8 (S 3), aI c (W 4) 600 (S 4), aI c (R 1) 24 (S 8), aI c (R 2) 24 (S 9), aI c (B 1) 24 (S 12), aI c (B 2) 24 (S 13), aI c (B 3) 24 (S 14), aI c (B 4) 24 (S 15), aI c (B 5) 24 (S 16), aI c (B 6) 24 (S 17), aI c (B 7) 24 (S 18), aI c (B 9) 24 (S 20), aI c (B 10) 24 (S 21), ((K 0), .inr (1, [.ref (K 1), .ref (K 2), .int (S 26 0)])), aI c (K 1) 8 (S 24), aI c (K 2) 8 (S 25), ((T 0), .inr (3, [.ref (TB 0), .ref (TK 0), .ref (TQ 0), .ref (T 1), .ref (T 2), .int (S 34 0), .int (S 35 0)])), aI c (T 1) 24 (S 32), aI c (T 2) 24 (S 33), ((TB 0), .inr (0, [.ref (TB 1), .ref (TB 2), .ref (TB 3), .ref (TB 4), .ref (TB 5), .ref (TB 6), .ref (TB 7), .ref (TB 8), .ref (TB 9), .ref (TB 10), .ref (TB 11), .int (S 47 0)])), aI c (TB 1) 24 (S 36), aI c (TB 2) 24 (S 37), aI c (TB 3) 24 (S 38), aI c (TB 4) 24 (S 39), aI c (TB 5) 24 (S 40), aI c (TB 6) 24 (S 41), aI c (TB 7) 24 (S 42), aI c (TB 8) 24 (S 43), aI c (TB 9) 24 (S 44), aI c (TB 10) 24 (S 45), aI c (TB 11) 24 (S 46), ((TK 0), .inr (1, [.ref (TK 1), .ref (TK 2), .int (S 50 0)])), aI c (TK 1) 8 (S 48), aI c (TK 2) 8 (S 49), ((TQ 0), .inr (2, [.ref (TQ 1), .ref (TQ 2), .ref (TQ 3), .ref (TQ 4), .int (S 55 0)])), aI c (TQ 1) 48 (S 51), aI c (TQ 2) 48 (S 52), aI c (TQ 3) 48 (S 53), aI c (TQ 4) 48 (S 54), ((Y 0), .inr (5, [.ref (Y 1), .ref (Y 2), .ref (Y 3), .ref (Y 4)])), aI c (Y 1) 48 (S 56), aI c (Y 2) 24 (S 57), aI c (Y 3) 24 (S 58), aI c (Y 4) 24 (S 59)] rfl [1, 2, 3, 4, 5, 7, 8, 10, 11, 12, 13, 14, 15, 16, 18, 19, 21, 22, 23, 29, 30, 31, 32, 33, 34, 35, 36, 37, 38, 39, 40, 41, 42, 43, 44, 45, 46, 47, 48, 49, 50, 51, 52, 53, 54, 55, 56] [0, 6, 9, 17, 20, 24, 25, 26, 27, 28] rfl rfl (pm_of (N := 57) rfl (by decide +kernel)) rfl rfl (pm_of (N := 57) rfl (by decide +kernel)) [sO m0 hour (mmin 40 (ropes + 1)) broken windX windY oW oB u_12 oP, [aR c oW nW (fun i => some (WA i))], [aR c oB nB (fun i => some (BA i))], [aR c u_12 r_11.1 (fun i => some (TA (r_11.2 i)))], [aR c oP nP (fun i => some (PA i))], rowsW c WA nW 7 wF, rowsW c BA nB 9 bF, rowsW c TA nR 4 tF, rowsW c PA nP 2 pF, wRf c X W R B K Q T TB TK TQ Y (up (up (up (up (up (up (up (up (up (up (up S 0 (fun _ => u_14.2.1)) 22 u_14.2.2.1) 31 (fun _ => u_14.2.2.2.1)) 27 u_14.2.2.2.2.1) 28 u_14.2.2.2.2.2.1) 29 u_14.2.2.2.2.2.2.1) 30 u_14.2.2.2.2.2.2.2) 60 (fun _ => g_15.2.1)) 69 g_15.2.2.1) 70 g_15.2.2.2.1) 72 g_15.2.2.2.2)] rfl 0 rfl rfl rfl [] rfl (Nat.le_of_ble_eq_true rfl) ⟨show 11 + 1 ≤ 45 by omega, show 120 + 6 ≤ 422 by omega⟩ dL_act_149 152 12 126 rfl ⟨by omega, by omega⟩ ?_
          refine vv_eq (ws' := (List.flatten [sO m0 hour (mmin 40 (ropes + 1)) broken windX windY oW oB u_12 oP, [aR c oW nW (fun i => some (WA i))], [aR c oB nB (fun i => some (BA i))], [aR c u_12 r_11.1 (fun i => some (TA (r_11.2 i)))], [aR c oP nP (fun i => some (PA i))], rowsW c WA nW 7 wF, rowsW c BA nB 9 bF, rowsW c TA nR 4 tF, rowsW c PA nP 2 pF, wRf c X W R B K Q T TB TK TQ Y r_13.2])) (st' := [.int r_13.1]) (by subst e_17; rfl) rfl (by subst e_17; rfl) ?_
          refine vv_aload_n C dL_act_152 rfl 3 rfl 153 rfl ?_
          refine vv_get C (q0 := 0) (ci := 7) (k := 1) kinL_act_X7 rfl rfl (by decide) kwL_act_4 rfl rfl dL_act_153 156 rfl ?_
          refine vv_icmp_ne C 163 159 dL_act_156 (by decide) rfl (fun hc => ?_) (fun hc => ?_)
          · replace h := ite_f hc h
            cases h
          · replace h := ite_t hc h
            refine vv_iconst C (v := 1) dL_act_159 (by decide) 160 rfl ?_
            refine vv_goto C 164 dL_act_160 (by decide) ?_
            obtain ⟨hz, h⟩ := chkZ_s h
            obtain rfl := Option.some.inj h
            refine vv_widen (k := 45) (n := 422) (by omega) (by omega) ?_
            exact ret (u_12, TA) _ rfl hz _ _ dL_act_164
        · replace h := ite_t hc h
          refine vv_iconst C (v := 1) dL_act_101 (by decide) 102 rfl ?_
          obtain ⟨hz, h⟩ := chkZ_s h
          obtain rfl := Option.some.inj h
          refine vv_widen (k := 45) (n := 422) (by omega) (by omega) ?_
          exact ret (oT, TA) _ rfl hz _ _ dL_act_102
      · replace h := ite_f hn1 h
        by_cases hn2 : bl (shr5 a1 6) 7 = 2
        · replace h := ite_t hn2 h
          refine vv_swIn C (off := 118) 165 dL_act_47 (by rw [hn2]; decide) (by rw [hn2]; decide) (by rw [hn2]; rfl) (by decide) ?_
          refine vv_aload_n C dL_act_165 rfl 2 rfl 166 rfl ?_
          refine vv_get C (q0 := 0) (ci := 7) (k := 6) kinL_act_X7 rfl rfl (by decide) kwL_act_1 rfl rfl dL_act_166 169 rfl ?_
          refine vv_iload C dL_act_169 4 rfl 171 rfl ?_
          obtain ⟨hi, h⟩ := chk_s h
          have hr_18 := in_lt hi
          refine vs_aald C (q0 := 2) (k := ((bl a1 (nI nB))).toNatClampNeg) rfl hi rfl dL_act_171 172 rfl ?_
          refine vv_eq (st' := [.ref (BA (((bl a1 (nI nB))).toNatClampNeg))]) rfl rfl rfl ?_
          refine vv_bipush C (v := 6) dL_act_172 (by decide) 174 rfl ?_
          refine vs_iald C (r := ((bl a1 (nI nB))).toNatClampNeg) 6 rfl hr_18 (inB_t (by decide)) dL_act_174 175 rfl ?_
          refine vv_if_le C 180 178 dL_act_175 (by decide) rfl (fun hc => ?_) (fun hc => ?_)
          · replace h := ite_t hc h
            refine vv_aload_n C dL_act_180 rfl 2 rfl 181 rfl ?_
            refine vv_get C (q0 := 0) (ci := 7) (k := 6) kinL_act_X7 rfl rfl (by decide) kwL_act_1 rfl rfl dL_act_181 184 rfl ?_
            refine vv_iload C dL_act_184 4 rfl 186 rfl ?_
            obtain ⟨hi, h⟩ := chk_s h
            have hr_19 := in_lt hi
            refine vs_aald C (q0 := 2) (k := ((bl a1 (nI nB))).toNatClampNeg) rfl hi rfl dL_act_186 187 rfl ?_
            refine vv_eq (st' := [.ref (BA (((bl a1 (nI nB))).toNatClampNeg))]) rfl rfl rfl ?_
            refine vv_iconst C (v := 5) dL_act_187 (by decide) 188 rfl ?_
            refine vs_iald C (r := ((bl a1 (nI nB))).toNatClampNeg) 6 rfl hr_19 (inB_t (by decide)) dL_act_188 189 rfl ?_
            refine vv_istore C [(7, .int (rd (bF (((bl a1 (nI nB))).toNatClampNeg)) 5)), (5, .int x36), (0, .ref (X 0)), (1, .ref m0), (2, .int a1), (4, .int (bl a1 (nI nB)))] dL_act_189 (by decide) rfl 191 rfl ?_
            refine vv_aload_n C dL_act_191 rfl 3 rfl 192 rfl ?_
            refine vv_get C (q0 := 0) (ci := 7) (k := 6) kinL_act_X7 rfl rfl (by decide) kwL_act_1 rfl rfl dL_act_192 195 rfl ?_
            refine vv_iload C dL_act_195 5 rfl 197 rfl ?_
            obtain ⟨hi, h⟩ := chk_s h
            have hr_20 := in_lt hi
            refine vs_aald C (q0 := 2) (k := ((bl a1 (nI nB))).toNatClampNeg) rfl hi rfl dL_act_197 198 rfl ?_
            refine vv_eq (st' := [.ref (BA (((bl a1 (nI nB))).toNatClampNeg))]) rfl rfl rfl ?_
            refine vv_iconst C (v := 5) dL_act_198 (by decide) 199 rfl ?_
            refine vv_iload_n C dL_act_199 rfl 4 rfl 200 rfl ?_
            refine vv_iconst C (v := 2) dL_act_200 (by decide) 201 rfl ?_
            refine vv_ishr C dL_act_201 202 rfl ?_
            refine vv_bipush C (v := 31) dL_act_202 (by decide) 204 rfl ?_
            refine vs_callSi C (S := Unit) (fun l => mt_L_below l D c (shr5 a1 2) 31 (by decide)) gL_act_L_below rfl rfl rfl yd_L_below ⟨Nat.le_of_ble_eq_true rfl, Nat.le_of_ble_eq_true rfl⟩ (List.flatten [sO m0 hour ropes broken windX windY oW oB oT oP, [aR c oW nW (fun i => some (WA i))], [aR c oB nB (fun i => some (BA i))], [aR c oT nT (fun i => some (TA (sg i)))], [aR c oP nP (fun i => some (PA i))], rowsW c WA nW 7 wF, rowsW c BA nB 9 bF, rowsW c TA nR 4 tF, rowsW c PA nP 2 pF, wRf c X W R B K Q T TB TK TQ Y S]) vs_nilP rfl [.int 5, .ref (BA (((bl a1 (nI nB))).toNatClampNeg))] rfl (Nat.le_of_ble_eq_true rfl) ⟨show 0 + 0 ≤ 45 by omega, show 0 + 0 ≤ 422 by omega⟩ dL_act_204 207 0 0 rfl ⟨rfl, rfl⟩ (fun _ u_21 hu => ?_)
            rw [hu]
            refine vs_nilR ?_
            refine vs_iast C (r := ((bl a1 (nI nB))).toNatClampNeg) [sO m0 hour ropes broken windX windY oW oB oT oP, [aR c oW nW (fun i => some (WA i))], [aR c oB nB (fun i => some (BA i))], [aR c oT nT (fun i => some (TA (sg i)))], [aR c oP nP (fun i => some (PA i))], rowsW c WA nW 7 wF, rowsW c BA nB 9 (uF bF (((bl a1 (nI nB))).toNatClampNeg) (wr (bF (((bl a1 (nI nB))).toNatClampNeg)) 5 (bl (shr5 a1 2) 31))), rowsW c TA nR 4 tF, rowsW c PA nP 2 pF, wRf c X W R B K Q T TB TK TQ Y S] 6 rfl hr_20 (inB_t (by decide)) rfl dL_act_207 208 rfl ?_
            refine vv_aload_n C dL_act_208 rfl 2 rfl 209 rfl ?_
            refine vv_iload C dL_act_209 5 rfl 211 rfl ?_
            refine vv_aload_n C dL_act_211 rfl 3 rfl 212 rfl ?_
            refine vv_get C (q0 := 0) (ci := 7) (k := 6) kinL_act_X7 rfl rfl (by decide) kwL_act_1 rfl rfl dL_act_212 215 rfl ?_
            refine vv_iload C dL_act_215 5 rfl 217 rfl ?_
            obtain ⟨hi, h⟩ := chk_s h
            have hr_22 := in_lt hi
            refine vs_aald C (q0 := 2) (k := ((bl a1 (nI nB))).toNatClampNeg) rfl hi rfl dL_act_217 218 rfl ?_
            refine vv_eq (st' := [.ref (BA (((bl a1 (nI nB))).toNatClampNeg)), .int (bl a1 (nI nB)), .ref (X 0)]) rfl rfl rfl ?_
            refine vv_iconst C (v := 5) dL_act_218 (by decide) 219 rfl ?_
            refine vs_iald C (r := ((bl a1 (nI nB))).toNatClampNeg) 6 rfl hr_22 (inB_t (by decide)) dL_act_219 220 rfl ?_
            obtain ⟨r_23, hr_23, h⟩ := bnd_s h
            obtain ⟨u_24, g_25, hu_26, -, e_27⟩ := op_load_s hr_23
            refine vs_callX C XL (fun l hfl => mt_X6_load l hfl D c X W R B K Q T Y (S 0 0) (S 10 0) (S 11 0) (S 23 0) (S 17) (S 19) (bl a1 (nI nB)) (rd ((uF bF (((bl a1 (nI nB))).toNatClampNeg) (wr (bF (((bl a1 (nI nB))).toNatClampNeg)) 5 (bl (shr5 a1 2) 31))) (((bl a1 (nI nB))).toNatClampNeg)) 5) (Sum.inr u_24) hu_26) gL_act_X6_load rfl rfl rfl yd_X6_load ⟨Nat.le_of_ble_eq_true rfl, Nat.le_of_ble_eq_true rfl⟩ 9 (wRf c X W R B K Q T TB TK TQ Y S) (wRf c X W R B K Q T TB TK TQ Y (up (up (up S 17 u_24.2) 60 (fun _ => g_25.2.1)) 68 g_25.2.2)) [((W 0), .inr (4, [.ref (W 1), .ref (W 2), .ref (W 3), .ref (W 4), .int (S 5 0), .int (S 6 0), .int (S 7 0)])), aI c (W 1) 8 (S 1), aI c (W 2) 8 (S 2), aI c (W 3) 8 (S 3), aI c (W 4) 600 (S 4), aI c (R 1) 24 (S 8), aI c (R 2) 24 (S 9), aI c (B 1) 24 (S 12), aI c (B 2) 24 (S 13), aI c (B 3) 24 (S 14), aI c (B 4) 24 (S 15), aI c (B 5) 24 (S 16), aI c (B 7) 24 (S 18), aI c (B 9) 24 (S 20), aI c (B 10) 24 (S 21), aI c (B 11) 24 (S 22), ((K 0), .inr (1, [.ref (K 1), .ref (K 2), .int (S 26 0)])), aI c (K 1) 8 (S 24), aI c (K 2) 8 (S 25), ((Q 0), .inr (2, [.ref (Q 1), .ref (Q 2), .ref (Q 3), .ref (Q 4), .int (S 31 0)])), aI c (Q 1) 48 (S 27), aI c (Q 2) 48 (S 28), aI c (Q 3) 48 (S 29), aI c (Q 4) 48 (S 30), ((T 0), .inr (3, [.ref (TB 0), .ref (TK 0), .ref (TQ 0), .ref (T 1), .ref (T 2), .int (S 34 0), .int (S 35 0)])), aI c (T 1) 24 (S 32), aI c (T 2) 24 (S 33), ((TB 0), .inr (0, [.ref (TB 1), .ref (TB 2), .ref (TB 3), .ref (TB 4), .ref (TB 5), .ref (TB 6), .ref (TB 7), .ref (TB 8), .ref (TB 9), .ref (TB 10), .ref (TB 11), .int (S 47 0)])), aI c (TB 1) 24 (S 36), aI c (TB 2) 24 (S 37), aI c (TB 3) 24 (S 38), aI c (TB 4) 24 (S 39), aI c (TB 5) 24 (S 40), aI c (TB 6) 24 (S 41), aI c (TB 7) 24 (S 42), aI c (TB 8) 24 (S 43), aI c (TB 9) 24 (S 44), aI c (TB 10) 24 (S 45), aI c (TB 11) 24 (S 46), ((TK 0), .inr (1, [.ref (TK 1), .ref (TK 2), .int (S 50 0)])), aI c (TK 1) 8 (S 48), aI c (TK 2) 8 (S 49), ((TQ 0), .inr (2, [.ref (TQ 1), .ref (TQ 2), .ref (TQ 3), .ref (TQ 4), .int (S 55 0)])), aI c (TQ 1) 48 (S 51), aI c (TQ 2) 48 (S 52), aI c (TQ 3) 48 (S 53), aI c (TQ 4) 48 (S 54), ((Y 0), .inr (5, [.ref (Y 1), .ref (Y 2), .ref (Y 3), .ref (Y 4)])), aI c (Y 1) 48 (S 56), aI c (Y 2) 24 (S 57), aI c (Y 3) 24 (S 58), aI c (Y 4) 24 (S 59)] rfl [1, 2, 3, 4, 5, 7, 8, 10, 11, 12, 13, 14, 16, 18, 19, 20, 21, 22, 23, 24, 25, 26, 27, 28, 29, 30, 31, 32, 33, 34, 35, 36, 37, 38, 39, 40, 41, 42, 43, 44, 45, 46, 47, 48, 49, 50, 51, 52, 53, 54, 55, 56] [0, 6, 9, 15, 17] rfl rfl (pm_of (N := 57) rfl (by decide +kernel)) rfl rfl (pm_of (N := 57) rfl (by decide +kernel)) [sO m0 hour ropes broken windX windY oW oB oT oP, [aR c oW nW (fun i => some (WA i))], [aR c oB nB (fun i => some (BA i))], [aR c oT nT (fun i => some (TA (sg i)))], [aR c oP nP (fun i => some (PA i))], rowsW c WA nW 7 wF, rowsW c BA nB 9 (uF bF (((bl a1 (nI nB))).toNatClampNeg) (wr (bF (((bl a1 (nI nB))).toNatClampNeg)) 5 (bl (shr5 a1 2) 31))), rowsW c TA nR 4 tF, rowsW c PA nP 2 pF, wRf c X W R B K Q T TB TK TQ Y (up (up (up S 17 u_24.2) 60 (fun _ => g_25.2.1)) 68 g_25.2.2)] rfl 0 rfl rfl rfl [] rfl (Nat.le_of_ble_eq_true rfl) ⟨show 0 + 1 ≤ 45 by omega, show 0 + 6 ≤ 422 by omega⟩ dL_act_220 223 1 6 rfl ⟨by omega, by omega⟩ ?_
            refine vv_eq (ws' := (List.flatten [sO m0 hour ropes broken windX windY oW oB oT oP, [aR c oW nW (fun i => some (WA i))], [aR c oB nB (fun i => some (BA i))], [aR c oT nT (fun i => some (TA (sg i)))], [aR c oP nP (fun i => some (PA i))], rowsW c WA nW 7 wF, rowsW c BA nB 9 (uF bF (((bl a1 (nI nB))).toNatClampNeg) (wr (bF (((bl a1 (nI nB))).toNatClampNeg)) 5 (bl (shr5 a1 2) 31))), rowsW c TA nR 4 tF, rowsW c PA nP 2 pF, wRf c X W R B K Q T TB TK TQ Y r_23.2])) (st' := [.int r_23.1]) (by subst e_27; rfl) rfl (by subst e_27; rfl) ?_
            refine vv_iload C dL_act_223 0 rfl 225 rfl ?_
            refine vv_icmp_ne C 232 228 dL_act_225 (by decide) rfl (fun hc => ?_) (fun hc => ?_)
            · replace h := ite_f hc h
              cases h
            · replace h := ite_t hc h
              refine vv_iconst C (v := 1) dL_act_228 (by decide) 229 rfl ?_
              refine vv_goto C 233 dL_act_229 (by decide) ?_
              obtain ⟨hz, h⟩ := chkZ_s h
              obtain rfl := Option.some.inj h
              refine vv_widen (k := 45) (n := 422) (by omega) (by omega) ?_
              exact ret (oT, TA) _ rfl hz _ _ dL_act_233
          · replace h := ite_f hc h
            refine vv_iconst C (v := 1) dL_act_178 (by decide) 179 rfl ?_
            obtain ⟨hz, h⟩ := chkZ_s h
            obtain rfl := Option.some.inj h
            refine vv_widen (k := 45) (n := 422) (by omega) (by omega) ?_
            exact ret (oT, TA) _ rfl hz _ _ dL_act_179
        · replace h := ite_f hn2 h
          by_cases hn3 : bl (shr5 a1 6) 7 = 3
          · replace h := ite_t hn3 h
            refine vv_swIn C (off := 187) 234 dL_act_47 (by rw [hn3]; decide) (by rw [hn3]; decide) (by rw [hn3]; rfl) (by decide) ?_
            refine vv_iload C dL_act_234 0 rfl 236 rfl ?_
            refine vv_if_lt C 269 239 dL_act_236 (by decide) rfl (fun hc => ?_) (fun hc => ?_)
            · replace h := ite_t hc h
              refine vv_iconst C (v := 1) dL_act_269 (by decide) 270 rfl ?_
              obtain ⟨hz, h⟩ := chkZ_s h
              obtain rfl := Option.some.inj h
              refine vv_widen (k := 45) (n := 422) (by omega) (by omega) ?_
              exact ret (oT, TA) _ rfl hz _ _ dL_act_270
            · replace h := ite_f hc h
              refine vv_aload_n C dL_act_239 rfl 2 rfl 240 rfl ?_
              refine vv_get C (q0 := 0) (ci := 7) (k := 8) kinL_act_X7 rfl rfl (by decide) kwL_act_2 rfl rfl dL_act_240 243 rfl ?_
              refine vv_iload C dL_act_243 0 rfl 245 rfl ?_
              obtain ⟨hi, h⟩ := chk_s h
              have hr_28 := in_lt hi
              refine vs_aald C (q0 := 4) (k := (x36).toNatClampNeg) rfl hi rfl dL_act_245 246 rfl ?_
              refine vv_eq (st' := [.ref (PA ((x36).toNatClampNeg))]) rfl rfl rfl ?_
              refine vv_iconst C (v := 0) dL_act_246 (by decide) 247 rfl ?_
              refine vs_iald C (r := (x36).toNatClampNeg) 8 rfl hr_28 (inB_t (by decide)) dL_act_247 248 rfl ?_
              refine vv_if_lt C 269 251 dL_act_248 (by decide) rfl (fun hc => ?_) (fun hc => ?_)
              · replace h := ite_t hc h
                refine vv_iconst C (v := 1) dL_act_269 (by decide) 270 rfl ?_
                obtain ⟨hz, h⟩ := chkZ_s h
                obtain rfl := Option.some.inj h
                refine vv_widen (k := 45) (n := 422) (by omega) (by omega) ?_
                exact ret (oT, TA) _ rfl hz _ _ dL_act_270
              · replace h := ite_f hc h
                refine vv_aload_n C dL_act_251 rfl 2 rfl 252 rfl ?_
                refine vv_aload_n C dL_act_252 rfl 2 rfl 253 rfl ?_
                refine vv_get C (q0 := 0) (ci := 7) (k := 8) kinL_act_X7 rfl rfl (by decide) kwL_act_2 rfl rfl dL_act_253 256 rfl ?_
                refine vv_iload C dL_act_256 0 rfl 258 rfl ?_
                obtain ⟨hi, h⟩ := chk_s h
                have hr_29 := in_lt hi
                refine vs_aald C (q0 := 4) (k := (x36).toNatClampNeg) rfl hi rfl dL_act_258 259 rfl ?_
                refine vv_eq (st' := [.ref (PA ((x36).toNatClampNeg)), .ref m0]) rfl rfl rfl ?_
                refine vv_iconst C (v := 0) dL_act_259 (by decide) 260 rfl ?_
                refine vs_iald C (r := (x36).toNatClampNeg) 8 rfl hr_29 (inB_t (by decide)) dL_act_260 261 rfl ?_
                refine vv_iload C dL_act_261 4 rfl 263 rfl ?_
                obtain ⟨r_30, hr_30, h⟩ := bnd_s h
                refine vs_callVq C (S := Unit) (fun l => mt_X7_tie l D c m0 oW oB oT oP WA BA TA PA hour ropes broken windX windY nW nB nT nP nR sg wF bF tF pF (rd (pF ((x36).toNatClampNeg)) 0) (bl a1 (nI nB)) r_30 hr_30) gL_act_X7_tie rfl rfl rfl yd_X7_tie ⟨Nat.le_of_ble_eq_true rfl, Nat.le_of_ble_eq_true rfl⟩ (List.flatten [wRf c X W R B K Q T TB TK TQ Y S]) (sg_pick2 [9] [0, 1, 2, 3, 4, 5, 6, 7, 8] rfl rfl (pm_of (N := 10) rfl (by decide +kernel))) 0 rfl rfl rfl [] rfl (Nat.le_of_ble_eq_true rfl) ⟨show 0 + 0 ≤ 45 by omega, show 0 + 0 ≤ 422 by omega⟩ dL_act_263 266 0 0 rfl ⟨by omega, by omega⟩ (fun u_31 _ => ?_)
                refine vs_app ?_
                refine vv_seg [1, 2, 3, 4, 5, 6, 7, 8, 9, 0] [] [sO m0 hour ropes broken windX windY oW oB oT oP, [aR c oW nW (fun i => some (WA i))], [aR c oB nB (fun i => some (BA i))], [aR c oT nT (fun i => some (TA (sg i)))], [aR c oP nP (fun i => some (PA i))], rowsW c WA nW 7 wF, rowsW c BA nB 9 bF, rowsW c TA nR 4 tF, rowsW c PA nP 2 pF, wRf c X W R B K Q T TB TK TQ Y S] rfl (pm_of (N := 10) rfl (by decide +kernel)) ?_
                refine vs_ifnonnull C (A := TA) (o := r_30) 271 269 dL_act_266 (by decide) rfl (fun hc => ?_) (fun hc => ?_)
                · replace h := ite_f hc h
                  refine vv_aload_n C dL_act_271 rfl 2 rfl 272 rfl ?_
                  refine vv_get C (q0 := 0) (ci := 7) (k := 8) kinL_act_X7 rfl rfl (by decide) kwL_act_2 rfl rfl dL_act_272 275 rfl ?_
                  refine vv_iload C dL_act_275 0 rfl 277 rfl ?_
                  obtain ⟨hi, h⟩ := chk_s h
                  have hr_32 := in_lt hi
                  refine vs_aald C (q0 := 4) (k := (x36).toNatClampNeg) rfl hi rfl dL_act_277 278 rfl ?_
                  refine vv_eq (st' := [.ref (PA ((x36).toNatClampNeg))]) rfl rfl rfl ?_
                  refine vv_iconst C (v := 0) dL_act_278 (by decide) 279 rfl ?_
                  refine vv_iload C dL_act_279 4 rfl 281 rfl ?_
                  refine vs_iast C (r := (x36).toNatClampNeg) [sO m0 hour ropes broken windX windY oW oB oT oP, [aR c oW nW (fun i => some (WA i))], [aR c oB nB (fun i => some (BA i))], [aR c oT nT (fun i => some (TA (sg i)))], [aR c oP nP (fun i => some (PA i))], rowsW c WA nW 7 wF, rowsW c BA nB 9 bF, rowsW c TA nR 4 tF, rowsW c PA nP 2 (uF pF ((x36).toNatClampNeg) (wr (pF ((x36).toNatClampNeg)) 0 (bl a1 (nI nB)))), wRf c X W R B K Q T TB TK TQ Y S] 8 rfl hr_32 (inB_t (by decide)) rfl dL_act_281 282 rfl ?_
                  refine vv_aload_n C dL_act_282 rfl 1 rfl 283 rfl ?_
                  refine vv_iload C dL_act_283 0 rfl 285 rfl ?_
                  refine vv_iload C dL_act_285 4 rfl 287 rfl ?_
                  obtain ⟨r_33, hr_33, h⟩ := bnd_s h
                  obtain ⟨u_34, g_35, hu_36, -, e_37⟩ := op_go_s hr_33
                  refine vs_callX C XL (fun l hfl => mt_X6_go l hfl D c X W R B K Q T Y (S 0 0) (S 10 0) (S 11 0) (S 23 0) (S 18) (S 26 0) (S 24) (S 31 0) (S 27) (S 28) x36 (bl a1 (nI nB)) (Sum.inr u_34) hu_36) gL_act_X6_go rfl rfl rfl yd_X6_go ⟨Nat.le_of_ble_eq_true rfl, Nat.le_of_ble_eq_true rfl⟩ 9 (wRf c X W R B K Q T TB TK TQ Y S) (wRf c X W R B K Q T TB TK TQ Y (up (up (up (up S 18 u_34.2.1) 24 u_34.2.2) 60 (fun _ => g_35.2.1)) 71 g_35.2.2)) [((W 0), .inr (4, [.ref (W 1), .ref (W 2), .ref (W 3), .ref (W 4), .int (S 5 0), .int (S 6 0), .int (S 7 0)])), aI c (W 1) 8 (S 1), aI c (W 2) 8 (S 2), aI c (W 3) 8 (S 3), aI c (W 4) 600 (S 4), aI c (R 1) 24 (S 8), aI c (R 2) 24 (S 9), aI c (B 1) 24 (S 12), aI c (B 2) 24 (S 13), aI c (B 3) 24 (S 14), aI c (B 4) 24 (S 15), aI c (B 5) 24 (S 16), aI c (B 6) 24 (S 17), aI c (B 8) 24 (S 19), aI c (B 9) 24 (S 20), aI c (B 10) 24 (S 21), aI c (B 11) 24 (S 22), aI c (K 2) 8 (S 25), aI c (Q 3) 48 (S 29), aI c (Q 4) 48 (S 30), ((T 0), .inr (3, [.ref (TB 0), .ref (TK 0), .ref (TQ 0), .ref (T 1), .ref (T 2), .int (S 34 0), .int (S 35 0)])), aI c (T 1) 24 (S 32), aI c (T 2) 24 (S 33), ((TB 0), .inr (0, [.ref (TB 1), .ref (TB 2), .ref (TB 3), .ref (TB 4), .ref (TB 5), .ref (TB 6), .ref (TB 7), .ref (TB 8), .ref (TB 9), .ref (TB 10), .ref (TB 11), .int (S 47 0)])), aI c (TB 1) 24 (S 36), aI c (TB 2) 24 (S 37), aI c (TB 3) 24 (S 38), aI c (TB 4) 24 (S 39), aI c (TB 5) 24 (S 40), aI c (TB 6) 24 (S 41), aI c (TB 7) 24 (S 42), aI c (TB 8) 24 (S 43), aI c (TB 9) 24 (S 44), aI c (TB 10) 24 (S 45), aI c (TB 11) 24 (S 46), ((TK 0), .inr (1, [.ref (TK 1), .ref (TK 2), .int (S 50 0)])), aI c (TK 1) 8 (S 48), aI c (TK 2) 8 (S 49), ((TQ 0), .inr (2, [.ref (TQ 1), .ref (TQ 2), .ref (TQ 3), .ref (TQ 4), .int (S 55 0)])), aI c (TQ 1) 48 (S 51), aI c (TQ 2) 48 (S 52), aI c (TQ 3) 48 (S 53), aI c (TQ 4) 48 (S 54), ((Y 0), .inr (5, [.ref (Y 1), .ref (Y 2), .ref (Y 3), .ref (Y 4)])), aI c (Y 1) 48 (S 56), aI c (Y 2) 24 (S 57), aI c (Y 3) 24 (S 58), aI c (Y 4) 24 (S 59)] rfl [1, 2, 3, 4, 5, 7, 8, 10, 11, 12, 13, 14, 15, 17, 18, 19, 20, 23, 27, 28, 29, 30, 31, 32, 33, 34, 35, 36, 37, 38, 39, 40, 41, 42, 43, 44, 45, 46, 47, 48, 49, 50, 51, 52, 53, 54, 55, 56] [0, 6, 9, 16, 21, 22, 24, 25, 26] rfl rfl (pm_of (N := 57) rfl (by decide +kernel)) rfl rfl (pm_of (N := 57) rfl (by decide +kernel)) [sO m0 hour ropes broken windX windY oW oB oT oP, [aR c oW nW (fun i => some (WA i))], [aR c oB nB (fun i => some (BA i))], [aR c oT nT (fun i => some (TA (sg i)))], [aR c oP nP (fun i => some (PA i))], rowsW c WA nW 7 wF, rowsW c BA nB 9 bF, rowsW c TA nR 4 tF, rowsW c PA nP 2 (uF pF ((x36).toNatClampNeg) (wr (pF ((x36).toNatClampNeg)) 0 (bl a1 (nI nB)))), wRf c X W R B K Q T TB TK TQ Y (up (up (up (up S 18 u_34.2.1) 24 u_34.2.2) 60 (fun _ => g_35.2.1)) 71 g_35.2.2)] rfl 0 rfl rfl rfl [] rfl (Nat.le_of_ble_eq_true rfl) ⟨show 0 + 1 ≤ 45 by omega, show 0 + 6 ≤ 422 by omega⟩ dL_act_287 290 1 6 rfl ⟨by omega, by omega⟩ ?_
                  refine vv_eq (ws' := (List.flatten [sO m0 hour ropes broken windX windY oW oB oT oP, [aR c oW nW (fun i => some (WA i))], [aR c oB nB (fun i => some (BA i))], [aR c oT nT (fun i => some (TA (sg i)))], [aR c oP nP (fun i => some (PA i))], rowsW c WA nW 7 wF, rowsW c BA nB 9 bF, rowsW c TA nR 4 tF, rowsW c PA nP 2 (uF pF ((x36).toNatClampNeg) (wr (pF ((x36).toNatClampNeg)) 0 (bl a1 (nI nB)))), wRf c X W R B K Q T TB TK TQ Y r_33.2])) (st' := [.int r_33.1]) (by subst e_37; rfl) rfl (by subst e_37; rfl) ?_
                  refine vv_aload_n C dL_act_290 rfl 2 rfl 291 rfl ?_
                  refine vv_iload C dL_act_291 4 rfl 293 rfl ?_
                  obtain ⟨r_38, hr_38, h⟩ := bnd_s h
                  refine vs_callVi C (S := Unit) (fun l => mt_X7_load l D c m0 oW oB oT oP WA BA TA PA hour ropes broken windX windY nW nB nT nP nR sg wF bF tF (uF pF ((x36).toNatClampNeg) (wr (pF ((x36).toNatClampNeg)) 0 (bl a1 (nI nB)))) (bl a1 (nI nB)) r_38 hr_38) gL_act_X7_load rfl rfl rfl yd_X7_load ⟨Nat.le_of_ble_eq_true rfl, Nat.le_of_ble_eq_true rfl⟩ (List.flatten [wRf c X W R B K Q T TB TK TQ Y r_33.2]) (sg_pick2 [9] [0, 1, 2, 3, 4, 5, 6, 7, 8] rfl rfl (pm_of (N := 10) rfl (by decide +kernel))) 0 rfl rfl rfl [.int r_33.1] rfl (Nat.le_of_ble_eq_true rfl) ⟨show 1 + 0 ≤ 45 by omega, show 6 + 0 ≤ 422 by omega⟩ dL_act_293 296 1 6 rfl ⟨by omega, by omega⟩ (fun _ u_39 hu => ?_)
                  rw [hu]
                  refine vs_app ?_
                  refine vv_seg [1, 2, 3, 4, 5, 6, 7, 8, 9, 0] [] [sO m0 hour ropes broken windX windY oW oB oT oP, [aR c oW nW (fun i => some (WA i))], [aR c oB nB (fun i => some (BA i))], [aR c oT nT (fun i => some (TA (sg i)))], [aR c oP nP (fun i => some (PA i))], rowsW c WA nW 7 wF, rowsW c BA nB 9 bF, rowsW c TA nR 4 tF, rowsW c PA nP 2 (uF pF ((x36).toNatClampNeg) (wr (pF ((x36).toNatClampNeg)) 0 (bl a1 (nI nB)))), wRf c X W R B K Q T TB TK TQ Y r_33.2] rfl (pm_of (N := 10) rfl (by decide +kernel)) ?_
                  refine vv_aload_n C dL_act_296 rfl 2 rfl 297 rfl ?_
                  refine vv_get C (q0 := 0) (ci := 7) (k := 6) kinL_act_X7 rfl rfl (by decide) kwL_act_1 rfl rfl dL_act_297 300 rfl ?_
                  refine vv_iload C dL_act_300 4 rfl 302 rfl ?_
                  obtain ⟨hi, h⟩ := chk_s h
                  have hr_40 := in_lt hi
                  refine vs_aald C (q0 := 2) (k := ((bl a1 (nI nB))).toNatClampNeg) rfl hi rfl dL_act_302 303 rfl ?_
                  refine vv_eq (st' := [.ref (BA (((bl a1 (nI nB))).toNatClampNeg)), .int r_38, .int r_33.1]) rfl rfl rfl ?_
                  refine vv_iconst C (v := 5) dL_act_303 (by decide) 304 rfl ?_
                  refine vs_iald C (r := ((bl a1 (nI nB))).toNatClampNeg) 6 rfl hr_40 (inB_t (by decide)) dL_act_304 305 rfl ?_
                  refine vv_isub C dL_act_305 306 rfl ?_
                  refine vv_bipush C (v := 7) dL_act_306 (by decide) 308 rfl ?_
                  refine vv_idiv C dL_act_308 (by decide) 309 rfl ?_
                  refine vv_icmp_ne C 316 312 dL_act_309 (by decide) rfl (fun hc => ?_) (fun hc => ?_)
                  · replace h := ite_f hc h
                    cases h
                  · replace h := ite_t hc h
                    refine vv_iconst C (v := 1) dL_act_312 (by decide) 313 rfl ?_
                    refine vv_goto C 317 dL_act_313 (by decide) ?_
                    obtain ⟨hz, h⟩ := chkZ_s h
                    obtain rfl := Option.some.inj h
                    refine vv_widen (k := 45) (n := 422) (by omega) (by omega) ?_
                    exact ret (oT, TA) _ rfl hz _ _ dL_act_317
                · replace h := ite_t hc h
                  refine vv_iconst C (v := 1) dL_act_269 (by decide) 270 rfl ?_
                  obtain ⟨hz, h⟩ := chkZ_s h
                  obtain rfl := Option.some.inj h
                  refine vv_widen (k := 45) (n := 422) (by omega) (by omega) ?_
                  exact ret (oT, TA) _ rfl hz _ _ dL_act_270
          · replace h := ite_f hn3 h
            by_cases hn4 : bl (shr5 a1 6) 7 = 4
            · replace h := ite_t hn4 h
              refine vv_swIn C (off := 271) 318 dL_act_47 (by rw [hn4]; decide) (by rw [hn4]; decide) (by rw [hn4]; rfl) (by decide) ?_
              refine vv_iload C dL_act_318 0 rfl 320 rfl ?_
              refine vv_if_lt C 335 323 dL_act_320 (by decide) rfl (fun hc => ?_) (fun hc => ?_)
              · replace h := ite_t hc h
                refine vv_iconst C (v := 1) dL_act_335 (by decide) 336 rfl ?_
                obtain ⟨hz, h⟩ := chkZ_s h
                obtain rfl := Option.some.inj h
                refine vv_widen (k := 45) (n := 422) (by omega) (by omega) ?_
                exact ret (oT, TA) _ rfl hz _ _ dL_act_336
              · replace h := ite_f hc h
                refine vv_aload_n C dL_act_323 rfl 2 rfl 324 rfl ?_
                refine vv_get C (q0 := 0) (ci := 7) (k := 8) kinL_act_X7 rfl rfl (by decide) kwL_act_2 rfl rfl dL_act_324 327 rfl ?_
                refine vv_iload C dL_act_327 0 rfl 329 rfl ?_
                obtain ⟨hi, h⟩ := chk_s h
                have hr_41 := in_lt hi
                refine vs_aald C (q0 := 4) (k := (x36).toNatClampNeg) rfl hi rfl dL_act_329 330 rfl ?_
                refine vv_eq (st' := [.ref (PA ((x36).toNatClampNeg))]) rfl rfl rfl ?_
                refine vv_iconst C (v := 0) dL_act_330 (by decide) 331 rfl ?_
                refine vs_iald C (r := (x36).toNatClampNeg) 8 rfl hr_41 (inB_t (by decide)) dL_act_331 332 rfl ?_
                refine vv_if_ge C 337 335 dL_act_332 (by decide) rfl (fun hc => ?_) (fun hc => ?_)
                · replace h := ite_t hc h
                  refine vv_aload_n C dL_act_337 rfl 2 rfl 338 rfl ?_
                  refine vv_get C (q0 := 0) (ci := 7) (k := 6) kinL_act_X7 rfl rfl (by decide) kwL_act_1 rfl rfl dL_act_338 341 rfl ?_
                  refine vv_aload_n C dL_act_341 rfl 2 rfl 342 rfl ?_
                  refine vv_get C (q0 := 0) (ci := 7) (k := 8) kinL_act_X7 rfl rfl (by decide) kwL_act_2 rfl rfl dL_act_342 345 rfl ?_
                  refine vv_iload C dL_act_345 0 rfl 347 rfl ?_
                  obtain ⟨hi, h⟩ := chk_s h
                  have hr_42 := in_lt hi
                  refine vs_aald C (q0 := 4) (k := (x36).toNatClampNeg) rfl hi rfl dL_act_347 348 rfl ?_
                  refine vv_eq (st' := [.ref (PA ((x36).toNatClampNeg)), .ref oB]) rfl rfl rfl ?_
                  refine vv_iconst C (v := 0) dL_act_348 (by decide) 349 rfl ?_
                  refine vs_iald C (r := (x36).toNatClampNeg) 8 rfl hr_42 (inB_t (by decide)) dL_act_349 350 rfl ?_
                  obtain ⟨hi, h⟩ := chk_s h
                  have hr_43 := in_lt hi
                  refine vs_aald C (q0 := 2) (k := ((rd (pF ((x36).toNatClampNeg)) 0)).toNatClampNeg) rfl hi rfl dL_act_350 351 rfl ?_
                  refine vv_eq (st' := [.ref (BA (((rd (pF ((x36).toNatClampNeg)) 0)).toNatClampNeg))]) rfl rfl rfl ?_
                  refine vv_astore C [(8, .ref (BA (((rd (pF ((x36).toNatClampNeg)) 0)).toNatClampNeg))), (5, .int x36), (0, .ref (X 0)), (1, .ref m0), (2, .int a1), (4, .int (bl a1 (nI nB)))] dL_act_351 (by decide) rfl 353 rfl ?_
                  refine vv_aload C dL_act_353 0 rfl 355 rfl ?_
                  refine vv_iconst C (v := 4) dL_act_355 (by decide) 356 rfl ?_
                  refine vv_aload C dL_act_356 0 rfl 358 rfl ?_
                  refine vv_iconst C (v := 4) dL_act_358 (by decide) 359 rfl ?_
                  refine vs_iald C (r := ((rd (pF ((x36).toNatClampNeg)) 0)).toNatClampNeg) 6 rfl hr_43 (inB_t (by decide)) dL_act_359 360 rfl ?_
                  refine vv_bipush C (v := 25) dL_act_360 (by decide) 362 rfl ?_
                  obtain ⟨k376, hk376, h⟩ := jn_s h
                  have J376 : ∀  (x376 : Int32), k376 x376 = some q0 → VV g D 10 0 0 (List.flatten [sO m0 hour ropes broken windX windY oW oB oT oP, [aR c oW nW (fun i => some (WA i))], [aR c oB nB (fun i => some (BA i))], [aR c oT nT (fun i => some (TA (sg i)))], [aR c oP nP (fun i => some (PA i))], rowsW c WA nW 7 wF, rowsW c BA nB 9 bF, rowsW c TA nR 4 tF, rowsW c PA nP 2 pF, wRf c X W R B K Q T TB TK TQ Y S]) [(0, .ref (X 0)), (5, .int x36), (8, .ref (BA (((rd (pF ((x36).toNatClampNeg)) 0)).toNatClampNeg)))] 376 [.int x376, .int 4, .ref (BA (((rd (pF ((x36).toNatClampNeg)) 0)).toNatClampNeg))] := by
                    intro x376 h
                    replace h := jn_u hk376 h
                    refine vs_iast C (r := ((rd (pF ((x36).toNatClampNeg)) 0)).toNatClampNeg) [sO m0 hour ropes broken windX windY oW oB oT oP, [aR c oW nW (fun i => some (WA i))], [aR c oB nB (fun i => some (BA i))], [aR c oT nT (fun i => some (TA (sg i)))], [aR c oP nP (fun i => some (PA i))], rowsW c WA nW 7 wF, rowsW c BA nB 9 (uF bF (((rd (pF ((x36).toNatClampNeg)) 0)).toNatClampNeg) (wr (bF (((rd (pF ((x36).toNatClampNeg)) 0)).toNatClampNeg)) 4 x376)), rowsW c TA nR 4 tF, rowsW c PA nP 2 pF, wRf c X W R B K Q T TB TK TQ Y S] 6 rfl hr_43 (inB_t (by decide)) rfl dL_act_376 377 rfl ?_
                    refine vv_aload_n C dL_act_377 rfl 0 rfl 378 rfl ?_
                    refine vv_iload C dL_act_378 1 rfl 380 rfl ?_
                    obtain ⟨r_44, hr_44, h⟩ := bnd_s h
                    obtain ⟨u_45, g_46, hu_47, -, e_48⟩ := op_bail_s hr_44
                    refine vs_callX C XL (fun l hfl => mt_X6_bail l hfl D c X W R B K Q T Y (S 0 0) (S 10 0) (S 11 0) (S 23 0) (S 16) (S 26 0) (S 24) x36 (Sum.inr u_45) hu_47) gL_act_X6_bail rfl rfl rfl yd_X6_bail ⟨Nat.le_of_ble_eq_true rfl, Nat.le_of_ble_eq_true rfl⟩ 9 (wRf c X W R B K Q T TB TK TQ Y S) (wRf c X W R B K Q T TB TK TQ Y (up (up (up S 16 u_45.2) 60 (fun _ => g_46.2.1)) 68 g_46.2.2)) [((W 0), .inr (4, [.ref (W 1), .ref (W 2), .ref (W 3), .ref (W 4), .int (S 5 0), .int (S 6 0), .int (S 7 0)])), aI c (W 1) 8 (S 1), aI c (W 2) 8 (S 2), aI c (W 3) 8 (S 3), aI c (W 4) 600 (S 4), aI c (R 1) 24 (S 8), aI c (R 2) 24 (S 9), aI c (B 1) 24 (S 12), aI c (B 2) 24 (S 13), aI c (B 3) 24 (S 14), aI c (B 4) 24 (S 15), aI c (B 6) 24 (S 17), aI c (B 7) 24 (S 18), aI c (B 8) 24 (S 19), aI c (B 9) 24 (S 20), aI c (B 10) 24 (S 21), aI c (B 11) 24 (S 22), aI c (K 2) 8 (S 25), ((Q 0), .inr (2, [.ref (Q 1), .ref (Q 2), .ref (Q 3), .ref (Q 4), .int (S 31 0)])), aI c (Q 1) 48 (S 27), aI c (Q 2) 48 (S 28), aI c (Q 3) 48 (S 29), aI c (Q 4) 48 (S 30), ((T 0), .inr (3, [.ref (TB 0), .ref (TK 0), .ref (TQ 0), .ref (T 1), .ref (T 2), .int (S 34 0), .int (S 35 0)])), aI c (T 1) 24 (S 32), aI c (T 2) 24 (S 33), ((TB 0), .inr (0, [.ref (TB 1), .ref (TB 2), .ref (TB 3), .ref (TB 4), .ref (TB 5), .ref (TB 6), .ref (TB 7), .ref (TB 8), .ref (TB 9), .ref (TB 10), .ref (TB 11), .int (S 47 0)])), aI c (TB 1) 24 (S 36), aI c (TB 2) 24 (S 37), aI c (TB 3) 24 (S 38), aI c (TB 4) 24 (S 39), aI c (TB 5) 24 (S 40), aI c (TB 6) 24 (S 41), aI c (TB 7) 24 (S 42), aI c (TB 8) 24 (S 43), aI c (TB 9) 24 (S 44), aI c (TB 10) 24 (S 45), aI c (TB 11) 24 (S 46), ((TK 0), .inr (1, [.ref (TK 1), .ref (TK 2), .int (S 50 0)])), aI c (TK 1) 8 (S 48), aI c (TK 2) 8 (S 49), ((TQ 0), .inr (2, [.ref (TQ 1), .ref (TQ 2), .ref (TQ 3), .ref (TQ 4), .int (S 55 0)])), aI c (TQ 1) 48 (S 51), aI c (TQ 2) 48 (S 52), aI c (TQ 3) 48 (S 53), aI c (TQ 4) 48 (S 54), ((Y 0), .inr (5, [.ref (Y 1), .ref (Y 2), .ref (Y 3), .ref (Y 4)])), aI c (Y 1) 48 (S 56), aI c (Y 2) 24 (S 57), aI c (Y 3) 24 (S 58), aI c (Y 4) 24 (S 59)] rfl [1, 2, 3, 4, 5, 7, 8, 10, 11, 12, 13, 15, 16, 17, 18, 19, 20, 23, 24, 25, 26, 27, 28, 29, 30, 31, 32, 33, 34, 35, 36, 37, 38, 39, 40, 41, 42, 43, 44, 45, 46, 47, 48, 49, 50, 51, 52, 53, 54, 55, 56] [0, 6, 9, 14, 21, 22] rfl rfl (pm_of (N := 57) rfl (by decide +kernel)) rfl rfl (pm_of (N := 57) rfl (by decide +kernel)) [sO m0 hour ropes broken windX windY oW oB oT oP, [aR c oW nW (fun i => some (WA i))], [aR c oB nB (fun i => some (BA i))], [aR c oT nT (fun i => some (TA (sg i)))], [aR c oP nP (fun i => some (PA i))], rowsW c WA nW 7 wF, rowsW c BA nB 9 (uF bF (((rd (pF ((x36).toNatClampNeg)) 0)).toNatClampNeg) (wr (bF (((rd (pF ((x36).toNatClampNeg)) 0)).toNatClampNeg)) 4 x376)), rowsW c TA nR 4 tF, rowsW c PA nP 2 pF, wRf c X W R B K Q T TB TK TQ Y (up (up (up S 16 u_45.2) 60 (fun _ => g_46.2.1)) 68 g_46.2.2)] rfl 0 rfl rfl rfl [] rfl (Nat.le_of_ble_eq_true rfl) ⟨show 0 + 1 ≤ 45 by omega, show 0 + 6 ≤ 422 by omega⟩ dL_act_380 383 1 6 rfl ⟨by omega, by omega⟩ ?_
                    refine vv_eq (ws' := (List.flatten [sO m0 hour ropes broken windX windY oW oB oT oP, [aR c oW nW (fun i => some (WA i))], [aR c oB nB (fun i => some (BA i))], [aR c oT nT (fun i => some (TA (sg i)))], [aR c oP nP (fun i => some (PA i))], rowsW c WA nW 7 wF, rowsW c BA nB 9 (uF bF (((rd (pF ((x36).toNatClampNeg)) 0)).toNatClampNeg) (wr (bF (((rd (pF ((x36).toNatClampNeg)) 0)).toNatClampNeg)) 4 x376)), rowsW c TA nR 4 tF, rowsW c PA nP 2 pF, wRf c X W R B K Q T TB TK TQ Y r_44.2])) (st' := [.int r_44.1]) (by subst e_48; rfl) rfl (by subst e_48; rfl) ?_
                    refine vv_aload C dL_act_383 2 rfl 385 rfl ?_
                    refine vv_iconst C (v := 4) dL_act_385 (by decide) 386 rfl ?_
                    refine vs_iald C (r := ((rd (pF ((x36).toNatClampNeg)) 0)).toNatClampNeg) 6 rfl hr_43 (inB_t (by decide)) dL_act_386 387 rfl ?_
                    refine vv_icmp_ne C 394 390 dL_act_387 (by decide) rfl (fun hc => ?_) (fun hc => ?_)
                    · replace h := ite_f hc h
                      cases h
                    · replace h := ite_t hc h
                      refine vv_iconst C (v := 1) dL_act_390 (by decide) 391 rfl ?_
                      refine vv_goto C 395 dL_act_391 (by decide) ?_
                      obtain ⟨hz, h⟩ := chkZ_s h
                      obtain rfl := Option.some.inj h
                      refine vv_widen (k := 45) (n := 422) (by omega) (by omega) ?_
                      exact ret (oT, TA) _ rfl hz _ _ dL_act_395
                  refine vv_icmp_le C 375 365 dL_act_362 (by decide) rfl (fun hc => ?_) (fun hc => ?_)
                  · replace h := ite_t hc h
                    refine vv_iconst C (v := 0) dL_act_375 (by decide) 376 rfl ?_
                    refine vv_lv [2, 1, 0] [(0, .ref (X 0)), (5, .int x36), (8, .ref (BA (((rd (pF ((x36).toNatClampNeg)) 0)).toNatClampNeg)))] rfl ?_
                    exact J376 0 h
                  · replace h := ite_f hc h
                    refine vv_aload C dL_act_365 0 rfl 367 rfl ?_
                    refine vv_iconst C (v := 4) dL_act_367 (by decide) 368 rfl ?_
                    refine vs_iald C (r := ((rd (pF ((x36).toNatClampNeg)) 0)).toNatClampNeg) 6 rfl hr_43 (inB_t (by decide)) dL_act_368 369 rfl ?_
                    refine vv_bipush C (v := 25) dL_act_369 (by decide) 371 rfl ?_
                    refine vv_isub C dL_act_371 372 rfl ?_
                    refine vv_goto C 376 dL_act_372 (by decide) ?_
                    refine vv_lv [2, 1, 0] [(0, .ref (X 0)), (5, .int x36), (8, .ref (BA (((rd (pF ((x36).toNatClampNeg)) 0)).toNatClampNeg)))] rfl ?_
                    exact J376 ((rd (bF (((rd (pF ((x36).toNatClampNeg)) 0)).toNatClampNeg)) 4) - 25) h
                · replace h := ite_f hc h
                  refine vv_iconst C (v := 1) dL_act_335 (by decide) 336 rfl ?_
                  obtain ⟨hz, h⟩ := chkZ_s h
                  obtain rfl := Option.some.inj h
                  refine vv_widen (k := 45) (n := 422) (by omega) (by omega) ?_
                  exact ret (oT, TA) _ rfl hz _ _ dL_act_336
            · replace h := ite_f hn4 h
              by_cases hn5 : bl (shr5 a1 6) 7 = 5
              · replace h := ite_t hn5 h
                refine vv_swIn C (off := 349) 396 dL_act_47 (by rw [hn5]; decide) (by rw [hn5]; decide) (by rw [hn5]; rfl) (by decide) ?_
                refine vv_iconst C (v := 5) dL_act_396 (by decide) 397 rfl ?_
                refine vv_aload_n C dL_act_397 rfl 2 rfl 398 rfl ?_
                refine vv_get C (q0 := 0) (ci := 7) (k := 3) kinL_act_X7 rfl rfl (by decide) kwL_act_9 rfl rfl dL_act_398 401 rfl ?_
                refine vv_iconst C (v := 2) dL_act_401 (by decide) 402 rfl ?_
                refine vv_iadd C dL_act_402 403 rfl ?_
                refine vv_imul C dL_act_403 404 rfl ?_
                refine vv_aload_n C dL_act_404 rfl 2 rfl 405 rfl ?_
                refine vv_get C (q0 := 0) (ci := 7) (k := 4) kinL_act_X7 rfl rfl (by decide) kwL_act_10 rfl rfl dL_act_405 408 rfl ?_
                refine vv_iadd C dL_act_408 409 rfl ?_
                refine vv_iconst C (v := 2) dL_act_409 (by decide) 410 rfl ?_
                refine vv_iadd C dL_act_410 411 rfl ?_
                refine vv_istore C [(9, .int (((5 * (windX + 2)) + windY) + 2)), (5, .int x36), (0, .ref (X 0)), (1, .ref m0), (2, .int a1), (4, .int (bl a1 (nI nB)))] dL_act_411 (by decide) rfl 413 rfl ?_
                refine vv_aload_n C dL_act_413 rfl 3 rfl 414 rfl ?_
                refine vv_iload_n C dL_act_414 rfl 4 rfl 415 rfl ?_
                refine vv_iconst C (v := 1) dL_act_415 (by decide) 416 rfl ?_
                refine vv_ishr C dL_act_416 417 rfl ?_
                refine vv_iconst C (v := 5) dL_act_417 (by decide) 418 rfl ?_
                refine vs_callSi C (S := Unit) (fun l => mt_L_below l D c (shr5 a1 1) 5 (by decide)) gL_act_L_below rfl rfl rfl yd_L_below ⟨Nat.le_of_ble_eq_true rfl, Nat.le_of_ble_eq_true rfl⟩ (List.flatten [sO m0 hour ropes broken windX windY oW oB oT oP, [aR c oW nW (fun i => some (WA i))], [aR c oB nB (fun i => some (BA i))], [aR c oT nT (fun i => some (TA (sg i)))], [aR c oP nP (fun i => some (PA i))], rowsW c WA nW 7 wF, rowsW c BA nB 9 bF, rowsW c TA nR 4 tF, rowsW c PA nP 2 pF, wRf c X W R B K Q T TB TK TQ Y S]) vs_nilP rfl [.ref m0] rfl (Nat.le_of_ble_eq_true rfl) ⟨show 0 + 0 ≤ 45 by omega, show 0 + 0 ≤ 422 by omega⟩ dL_act_418 421 0 0 rfl ⟨rfl, rfl⟩ (fun _ u_49 hu => ?_)
                rw [hu]
                refine vs_nilR ?_
                refine vv_iconst C (v := 2) dL_act_421 (by decide) 422 rfl ?_
                refine vv_isub C dL_act_422 423 rfl ?_
                refine vv_put C (q0 := 0) (ci := 7) (k := 3) (ty := .int) (List.flatten [sO m0 hour ropes broken ((bl (shr5 a1 1) 5) - 2) windY oW oB oT oP, [aR c oW nW (fun i => some (WA i))], [aR c oB nB (fun i => some (BA i))], [aR c oT nT (fun i => some (TA (sg i)))], [aR c oP nP (fun i => some (PA i))], rowsW c WA nW 7 wF, rowsW c BA nB 9 bF, rowsW c TA nR 4 tF, rowsW c PA nP 2 pF, wRf c X W R B K Q T TB TK TQ Y S]) tyX7 tyX7_ok nmX7 kinL_act_X7 rfl rfl (by decide) kwL_act_9 rfl rfl rfl rfl rfl (Nat.le_of_ble_eq_true rfl) rfl dL_act_423 426 rfl ?_
                refine vv_aload_n C dL_act_426 rfl 3 rfl 427 rfl ?_
                refine vv_iload_n C dL_act_427 rfl 4 rfl 428 rfl ?_
                refine vv_iconst C (v := 4) dL_act_428 (by decide) 429 rfl ?_
                refine vv_ishr C dL_act_429 430 rfl ?_
                refine vv_iconst C (v := 5) dL_act_430 (by decide) 431 rfl ?_
                refine vs_callSi C (S := Unit) (fun l => mt_L_below l D c (shr5 a1 4) 5 (by decide)) gL_act_L_below rfl rfl rfl yd_L_below ⟨Nat.le_of_ble_eq_true rfl, Nat.le_of_ble_eq_true rfl⟩ (List.flatten [sO m0 hour ropes broken ((bl (shr5 a1 1) 5) - 2) windY oW oB oT oP, [aR c oW nW (fun i => some (WA i))], [aR c oB nB (fun i => some (BA i))], [aR c oT nT (fun i => some (TA (sg i)))], [aR c oP nP (fun i => some (PA i))], rowsW c WA nW 7 wF, rowsW c BA nB 9 bF, rowsW c TA nR 4 tF, rowsW c PA nP 2 pF, wRf c X W R B K Q T TB TK TQ Y S]) vs_nilP rfl [.ref m0] rfl (Nat.le_of_ble_eq_true rfl) ⟨show 0 + 0 ≤ 45 by omega, show 0 + 0 ≤ 422 by omega⟩ dL_act_431 434 0 0 rfl ⟨rfl, rfl⟩ (fun _ u_50 hu => ?_)
                rw [hu]
                refine vs_nilR ?_
                refine vv_iconst C (v := 2) dL_act_434 (by decide) 435 rfl ?_
                refine vv_isub C dL_act_435 436 rfl ?_
                refine vv_put C (q0 := 0) (ci := 7) (k := 4) (ty := .int) (List.flatten [sO m0 hour ropes broken ((bl (shr5 a1 1) 5) - 2) ((bl (shr5 a1 4) 5) - 2) oW oB oT oP, [aR c oW nW (fun i => some (WA i))], [aR c oB nB (fun i => some (BA i))], [aR c oT nT (fun i => some (TA (sg i)))], [aR c oP nP (fun i => some (PA i))], rowsW c WA nW 7 wF, rowsW c BA nB 9 bF, rowsW c TA nR 4 tF, rowsW c PA nP 2 pF, wRf c X W R B K Q T TB TK TQ Y S]) tyX7 tyX7_ok nmX7 kinL_act_X7 rfl rfl (by decide) kwL_act_10 rfl rfl rfl rfl rfl (Nat.le_of_ble_eq_true rfl) rfl dL_act_436 439 rfl ?_
                refine vv_aload_n C dL_act_439 rfl 2 rfl 440 rfl ?_
                refine vv_aload_n C dL_act_440 rfl 3 rfl 441 rfl ?_
                refine vv_get C (q0 := 0) (ci := 7) (k := 3) kinL_act_X7 rfl rfl (by decide) kwL_act_9 rfl rfl dL_act_441 444 rfl ?_
                refine vv_aload_n C dL_act_444 rfl 3 rfl 445 rfl ?_
                refine vv_get C (q0 := 0) (ci := 7) (k := 4) kinL_act_X7 rfl rfl (by decide) kwL_act_10 rfl rfl dL_act_445 448 rfl ?_
                obtain ⟨r_51, hr_51, h⟩ := bnd_s h
                obtain ⟨u_52, g_53, hu_54, -, e_55⟩ := op_setWind_s hr_51
                refine vs_callX C XL (fun l hfl => mt_X6_setWind l hfl D c X W R T Y (S 0 0) (S 5 0) (S 6 0) (S 7 0) ((bl (shr5 a1 1) 5) - 2) ((bl (shr5 a1 4) 5) - 2) (Sum.inr u_52) hu_54) gL_act_X6_setWind rfl rfl rfl yd_X6_setWind ⟨Nat.le_of_ble_eq_true rfl, Nat.le_of_ble_eq_true rfl⟩ 9 (wRf c X W R B K Q T TB TK TQ Y S) (wRf c X W R B K Q T TB TK TQ Y (up (up (up (up (up S 6 (fun _ => u_52.2.1)) 7 (fun _ => u_52.2.2)) 60 (fun _ => g_53.2.1)) 63 (fun _ => g_53.2.2.1)) 64 (fun _ => g_53.2.2.2))) [aI c (W 1) 8 (S 1), aI c (W 2) 8 (S 2), aI c (W 3) 8 (S 3), aI c (W 4) 600 (S 4), ((R 0), .inr (3, [.ref (B 0), .ref (K 0), .ref (Q 0), .ref (R 1), .ref (R 2), .int (S 10 0), .int (S 11 0)])), aI c (R 1) 24 (S 8), aI c (R 2) 24 (S 9), ((B 0), .inr (0, [.ref (B 1), .ref (B 2), .ref (B 3), .ref (B 4), .ref (B 5), .ref (B 6), .ref (B 7), .ref (B 8), .ref (B 9), .ref (B 10), .ref (B 11), .int (S 23 0)])), aI c (B 1) 24 (S 12), aI c (B 2) 24 (S 13), aI c (B 3) 24 (S 14), aI c (B 4) 24 (S 15), aI c (B 5) 24 (S 16), aI c (B 6) 24 (S 17), aI c (B 7) 24 (S 18), aI c (B 8) 24 (S 19), aI c (B 9) 24 (S 20), aI c (B 10) 24 (S 21), aI c (B 11) 24 (S 22), ((K 0), .inr (1, [.ref (K 1), .ref (K 2), .int (S 26 0)])), aI c (K 1) 8 (S 24), aI c (K 2) 8 (S 25), ((Q 0), .inr (2, [.ref (Q 1), .ref (Q 2), .ref (Q 3), .ref (Q 4), .int (S 31 0)])), aI c (Q 1) 48 (S 27), aI c (Q 2) 48 (S 28), aI c (Q 3) 48 (S 29), aI c (Q 4) 48 (S 30), ((T 0), .inr (3, [.ref (TB 0), .ref (TK 0), .ref (TQ 0), .ref (T 1), .ref (T 2), .int (S 34 0), .int (S 35 0)])), aI c (T 1) 24 (S 32), aI c (T 2) 24 (S 33), ((TB 0), .inr (0, [.ref (TB 1), .ref (TB 2), .ref (TB 3), .ref (TB 4), .ref (TB 5), .ref (TB 6), .ref (TB 7), .ref (TB 8), .ref (TB 9), .ref (TB 10), .ref (TB 11), .int (S 47 0)])), aI c (TB 1) 24 (S 36), aI c (TB 2) 24 (S 37), aI c (TB 3) 24 (S 38), aI c (TB 4) 24 (S 39), aI c (TB 5) 24 (S 40), aI c (TB 6) 24 (S 41), aI c (TB 7) 24 (S 42), aI c (TB 8) 24 (S 43), aI c (TB 9) 24 (S 44), aI c (TB 10) 24 (S 45), aI c (TB 11) 24 (S 46), ((TK 0), .inr (1, [.ref (TK 1), .ref (TK 2), .int (S 50 0)])), aI c (TK 1) 8 (S 48), aI c (TK 2) 8 (S 49), ((TQ 0), .inr (2, [.ref (TQ 1), .ref (TQ 2), .ref (TQ 3), .ref (TQ 4), .int (S 55 0)])), aI c (TQ 1) 48 (S 51), aI c (TQ 2) 48 (S 52), aI c (TQ 3) 48 (S 53), aI c (TQ 4) 48 (S 54), ((Y 0), .inr (5, [.ref (Y 1), .ref (Y 2), .ref (Y 3), .ref (Y 4)])), aI c (Y 1) 48 (S 56), aI c (Y 2) 24 (S 57), aI c (Y 3) 24 (S 58), aI c (Y 4) 24 (S 59)] rfl [2, 3, 4, 5, 6, 7, 8, 9, 10, 11, 12, 13, 14, 15, 16, 17, 18, 19, 20, 21, 22, 23, 24, 25, 26, 27, 28, 29, 30, 31, 32, 33, 34, 35, 36, 37, 38, 39, 40, 41, 42, 43, 44, 45, 46, 47, 48, 49, 50, 51, 52, 53, 54, 55, 56] [0, 1] rfl rfl (pm_of (N := 57) rfl (by decide +kernel)) rfl rfl (pm_of (N := 57) rfl (by decide +kernel)) [sO m0 hour ropes broken ((bl (shr5 a1 1) 5) - 2) ((bl (shr5 a1 4) 5) - 2) oW oB oT oP, [aR c oW nW (fun i => some (WA i))], [aR c oB nB (fun i => some (BA i))], [aR c oT nT (fun i => some (TA (sg i)))], [aR c oP nP (fun i => some (PA i))], rowsW c WA nW 7 wF, rowsW c BA nB 9 bF, rowsW c TA nR 4 tF, rowsW c PA nP 2 pF, wRf c X W R B K Q T TB TK TQ Y (up (up (up (up (up S 6 (fun _ => u_52.2.1)) 7 (fun _ => u_52.2.2)) 60 (fun _ => g_53.2.1)) 63 (fun _ => g_53.2.2.1)) 64 (fun _ => g_53.2.2.2))] rfl 0 rfl rfl rfl [] rfl (Nat.le_of_ble_eq_true rfl) ⟨show 0 + 1 ≤ 45 by omega, show 0 + 6 ≤ 422 by omega⟩ dL_act_448 451 1 6 rfl ⟨by omega, by omega⟩ ?_
                refine vv_eq (ws' := (List.flatten [sO m0 hour ropes broken ((bl (shr5 a1 1) 5) - 2) ((bl (shr5 a1 4) 5) - 2) oW oB oT oP, [aR c oW nW (fun i => some (WA i))], [aR c oB nB (fun i => some (BA i))], [aR c oT nT (fun i => some (TA (sg i)))], [aR c oP nP (fun i => some (PA i))], rowsW c WA nW 7 wF, rowsW c BA nB 9 bF, rowsW c TA nR 4 tF, rowsW c PA nP 2 pF, wRf c X W R B K Q T TB TK TQ Y r_51.2])) (st' := [.int r_51.1]) (by subst e_55; rfl) rfl (by subst e_55; rfl) ?_
                refine vv_iload C dL_act_451 0 rfl 453 rfl ?_
                refine vv_icmp_ne C 460 456 dL_act_453 (by decide) rfl (fun hc => ?_) (fun hc => ?_)
                · replace h := ite_f hc h
                  cases h
                · replace h := ite_t hc h
                  refine vv_iconst C (v := 1) dL_act_456 (by decide) 457 rfl ?_
                  refine vv_goto C 461 dL_act_457 (by decide) ?_
                  obtain ⟨hz, h⟩ := chkZ_s h
                  obtain rfl := Option.some.inj h
                  refine vv_widen (k := 45) (n := 422) (by omega) (by omega) ?_
                  exact ret (oT, TA) _ rfl hz _ _ dL_act_461
              · replace h := ite_f hn5 h
                refine vv_swOut C 462 dL_act_47 (sw_out (fun j hj => ?_)) (by decide) ?_
                · rcases (show j = 0 ∨ j = 1 ∨ j = 2 ∨ j = 3 ∨ j = 4 ∨ j = 5 by omega) with rfl | rfl | rfl | rfl | rfl | rfl
                  · exact fun e => hn0 (e.trans (by decide))
                  · exact fun e => hn1 (e.trans (by decide))
                  · exact fun e => hn2 (e.trans (by decide))
                  · exact fun e => hn3 (e.trans (by decide))
                  · exact fun e => hn4 (e.trans (by decide))
                  · exact fun e => hn5 (e.trans (by decide))
                · refine vv_iconst C (v := 1) dL_act_462 (by decide) 463 rfl ?_
                  obtain ⟨hz, h⟩ := chkZ_s h
                  obtain rfl := Option.some.inj h
                  refine vv_widen (k := 45) (n := 422) (by omega) (by omega) ?_
                  exact ret (oT, TA) _ rfl hz _ _ dL_act_463
  refine vv_if_ne C 25 21 dL_act_18 (by decide) rfl (fun hc => ?_) (fun hc => ?_)
  · replace h := ite_f hc h
    refine vv_iload_n C dL_act_25 rfl 4 rfl 26 rfl ?_
    refine vv_iconst C (v := 3) dL_act_26 (by decide) 27 rfl ?_
    refine vv_ishr C dL_act_27 28 rfl ?_
    refine vv_aload_n C dL_act_28 rfl 3 rfl 29 rfl ?_
    refine vv_get C (q0 := 0) (ci := 7) (k := 8) kinL_act_X7 rfl rfl (by decide) kwL_act_2 rfl rfl dL_act_29 32 rfl ?_
    refine vs_alenR C (q0 := 4) rfl dL_act_32 33 rfl ?_
    obtain ⟨hz_3, h⟩ := chkP_s h
    refine vs_callSi C (S := Unit) (fun l => mt_L_below l D c (shr5 a1 3) (nI nP) hz_3) gL_act_L_below rfl rfl rfl yd_L_below ⟨Nat.le_of_ble_eq_true rfl, Nat.le_of_ble_eq_true rfl⟩ (List.flatten [sO m0 hour ropes broken windX windY oW oB oT oP, [aR c oW nW (fun i => some (WA i))], [aR c oB nB (fun i => some (BA i))], [aR c oT nT (fun i => some (TA (sg i)))], [aR c oP nP (fun i => some (PA i))], rowsW c WA nW 7 wF, rowsW c BA nB 9 bF, rowsW c TA nR 4 tF, rowsW c PA nP 2 pF, wRf c X W R B K Q T TB TK TQ Y S]) vs_nilP rfl [] rfl (Nat.le_of_ble_eq_true rfl) ⟨show 0 + 0 ≤ 45 by omega, show 0 + 0 ≤ 422 by omega⟩ dL_act_33 36 0 0 rfl ⟨rfl, rfl⟩ (fun _ u_4 hu => ?_)
    rw [hu]
    refine vs_nilR ?_
    refine vv_lv [2, 3, 4, 0] [(0, .ref (X 0)), (1, .ref m0), (2, .int a1), (4, .int (bl a1 (nI nB)))] rfl ?_
    exact J36 (bl (shr5 a1 3) (nI nP)) h
  · replace h := ite_t hc h
    refine vv_iconst C (v := (-1)) dL_act_21 (by decide) 22 rfl ?_
    refine vv_goto C 36 dL_act_22 (by decide) ?_
    refine vv_lv [2, 3, 4, 0] [(0, .ref (X 0)), (1, .ref m0), (2, .int a1), (4, .int (bl a1 (nI nB)))] rfl ?_
    exact J36 (-1) h
