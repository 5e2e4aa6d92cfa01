abbrev rmL_tie : Room := { frames := 7, cells := 45, slots := 422, locals := 113 }
theorem yd_L_tie : yL_tie.cls ≠ "java/lang/invoke/MethodHandle" ∧ yL_tie.cls ≠ "java/lang/invoke/VarHandle" ∧ (parseMethodDescriptor yL_tie.desc).map (fun d => d.parameters.length) = some 3 := by decide +kernel
theorem kwL_tie_1 : Cond.fieldLink RL 40 "BarrelRaftLaw$Sim" "barrels" "[[I" ∈ wsL_tie := List.mem_of_getElem? (i := 1) rfl
set_option maxRecDepth 20000 in
theorem kinL_tie_X7 : ∀ w ∈ u_ws RX7 TX7 9, w ∈ wsL_tie := by decide +kernel
theorem kwL_tie_2 : Cond.methodLink RL 54 Lib.Math.abs.name ∈ wsL_tie := List.mem_of_getElem? (i := 2) rfl
theorem kwL_tie_3 : Cond.static Lib.Math.abs.name ∈ wsL_tie := List.mem_of_getElem? (i := 3) rfl
theorem kwL_tie_4 : Cond.initialized "java/lang/Math" ∈ wsL_tie := List.mem_of_getElem? (i := 4) rfl
theorem kwL_tie_5 : Cond.code Lib.Math.abs.name Lib.Math.abs.code 1 (some .int) ∈ wsL_tie := List.mem_of_getElem? (i := 5) rfl
theorem kwL_tie_6 : Cond.fieldLink RL 59 "BarrelRaftLaw$Sim" "ropes" "I" ∈ wsL_tie := List.mem_of_getElem? (i := 6) rfl
def jL_tie_L16 (u2_16 : Int32) (m3_16 : Nat) (u4_16 : Int32) (ropes : Int32) (nB : Nat) (bF : Nat → Nat → Int32) (n : Nat) (j16 : Nat) : Option ((Int32) ⊕ (Unit)) := match n with
  | 0 => some (Sum.inr ())
  | n + 1 => chkP (¬ (nI m3_16) = 0) (chkP (¬ (nI m3_16) = 0) (chk nB u4_16 (chk nB (((nI j16) + (bl (shr5 u2_16 4) (nI m3_16))) - ((nI j16) + (bl (shr5 u2_16 4) (nI m3_16))) / (nI m3_16) * (nI m3_16)) ((if (mabs ((rd (bF ((u4_16).toNatClampNeg)) 0) - (rd (bF (((((nI j16) + (bl (shr5 u2_16 4) (nI m3_16))) - ((nI j16) + (bl (shr5 u2_16 4) (nI m3_16))) / (nI m3_16) * (nI m3_16))).toNatClampNeg)) 0))) + (mabs ((rd (bF ((u4_16).toNatClampNeg)) 1) - (rd (bF (((((nI j16) + (bl (shr5 u2_16 4) (nI m3_16))) - ((nI j16) + (bl (shr5 u2_16 4) (nI m3_16))) / (nI m3_16) * (nI m3_16))).toNatClampNeg)) 1))) = 1 then (if 0 < (rd (bF ((u4_16).toNatClampNeg)) 6) + (rd (bF (((((nI j16) + (bl (shr5 u2_16 4) (nI m3_16))) - ((nI j16) + (bl (shr5 u2_16 4) (nI m3_16))) / (nI m3_16) * (nI m3_16))).toNatClampNeg)) 6) then jL_tie_L16 u2_16 m3_16 u4_16 ropes nB bF n (j16 + 1) else (if rd (bF ((u4_16).toNatClampNeg)) 7 = rd (bF (((((nI j16) + (bl (shr5 u2_16 4) (nI m3_16))) - ((nI j16) + (bl (shr5 u2_16 4) (nI m3_16))) / (nI m3_16) * (nI m3_16))).toNatClampNeg)) 7 then (if rd (bF ((u4_16).toNatClampNeg)) 8 = rd (bF (((((nI j16) + (bl (shr5 u2_16 4) (nI m3_16))) - ((nI j16) + (bl (shr5 u2_16 4) (nI m3_16))) / (nI m3_16) * (nI m3_16))).toNatClampNeg)) 8 then (if ropes = 0 then jL_tie_L16 u2_16 m3_16 u4_16 ropes nB bF n (j16 + 1) else some (Sum.inl (((nI j16) + (bl (shr5 u2_16 4) (nI m3_16))) - ((nI j16) + (bl (shr5 u2_16 4) (nI m3_16))) / (nI m3_16) * (nI m3_16)))) else jL_tie_L16 u2_16 m3_16 u4_16 ropes nB bF n (j16 + 1) ) else jL_tie_L16 u2_16 m3_16 u4_16 ropes nB bF n (j16 + 1) )) else jL_tie_L16 u2_16 m3_16 u4_16 ropes nB bF n (j16 + 1) )))))
def jL_tie (ropes : Int32) (nB : Nat) (nT : Nat) (nR : Nat) (sg : Nat → Nat) (bF : Nat → Nat → Int32) (tF : Nat → Nat → Int32) (S : Nat → Nat → Int32) (a1 : Int32) : Option (Int32 × Int32 × Nat × Nat × (Nat → Nat) × (Nat → Nat → Int32) × (Nat → Nat → Int32)) := chkP (¬ (nI nB) = 0) (chkP (nB ≤ 24) (bnd (jL_tie_L16 a1 nB (bl a1 (nI nB)) ropes nB bF nB 0) (fun r_8 => sel r_8 (fun r_8_0 => bnd (jS_tie_ nT nR sg tF (bl a1 (nI nB)) r_8_0 (1 + (bl (shr5 a1 2) 50))) (fun r_10 => bnd (op_tie S (bl a1 (nI nB)) r_8_0 (1 + (bl (shr5 a1 2) 50))) (fun r_12 => (if r_12.1 = ropes - 1 then chkZ 1 (some (1, ropes - 1, r_10.1, r_10.2.1, r_10.2.2.1, r_10.2.2.2, r_12.2)) else none)))) (fun r_8_1 => chkZ 1 (some (1, ropes, nT, nR, sg, tF, S))))))
set_option maxHeartbeats 40000000 in
set_option maxRecDepth 100000 in
theorem mt_L_tie (l : Launch) (hfl : l.stackTraces = false) (D : va_G) (c : Nat → ClassId) (X W R B K Q T TB TK TQ Y : Nat → Nat) (b L : Nat) (hL : L < 2 ^ 31) (xs : Nat → Int32) (m0 oW oB oT oP : Nat) (WA BA TA PA : Nat → Nat) (hour : Int32) (ropes : Int32) (broken : Int32) (windX : Int32) (windY : Int32) (nW : Nat) (nB : Nat) (nT : Nat) (nP : Nat) (nR : Nat) (sg : Nat → Nat) (wF : Nat → Nat → Int32) (bF : Nat → Nat → Int32) (tF : Nat → Nat → Int32) (pF : Nat → Nat → Int32) (S : Nat → Nat → Int32) (a1 : Int32) (q0 : Int32 × Int32 × Nat × Nat × (Nat → Nat) × (Nat → Nat → Int32) × (Nat → Nat → Int32)) (h : jL_tie ropes nB nT nR sg bF tF S a1 = some q0) : MLi l yL_tie wsL_tie rmL_tie D c (List.flatten [sO m0 hour ropes broken windX windY oW oB oT oP, [aR c oW nW (fun i => some (WA i))], [aR c oB nB (fun i => some (BA i))], [aR c oT nT (fun i => some (TA (sg i)))], [aR c oP nP (fun i => some (PA i))], rowsW c WA nW 7 wF, rowsW c BA nB 9 bF, rowsW c TA nR 4 tF, rowsW c PA nP 2 pF, wRf c X W R B K Q T TB TK TQ Y S]) [.ref (X 0), .ref m0, .int a1] b L xs (fun (r : Int32) (_ : Nat × (Nat → Nat)) => r = q0.1) (fun u => (List.flatten [sO m0 hour q0.2.1 broken windX windY oW oB u.1 oP, [aR c oW nW (fun i => some (WA i))], [aR c oB nB (fun i => some (BA i))], [aR c u.1 q0.2.2.1 (fun i => some (u.2 (q0.2.2.2.2.1 i)))], [aR c oP nP (fun i => some (PA i))], rowsW c WA nW 7 wF, rowsW c BA nB 9 bF, rowsW c u.2 q0.2.2.2.1 4 q0.2.2.2.2.2.1, rowsW c PA nP 2 pF, wRf c X W R B K Q T TB TK TQ Y q0.2.2.2.2.2.2])) 45 422 := by
  refine MLz_of hfl (cc := cL_tie) (nL := 10) RL rfl (by decide) rfl (Nat.le_of_ble_eq_true rfl) (fun g C XL ret => ?_)
  unfold jL_tie at h
  refine vv_lv [0, 1, 2] [(0, .ref (X 0)), (1, .ref m0), (2, .int a1)] rfl ?_
  refine vv_aload_n C dL_tie_0 rfl 1 rfl 1 rfl ?_
  refine vv_get C (q0 := 0) (ci := 7) (k := 6) kinL_tie_X7 rfl rfl (by decide) kwL_tie_1 rfl rfl dL_tie_1 4 rfl ?_
  refine vs_alenR C (q0 := 2) rfl dL_tie_4 5 rfl ?_
  refine vv_istore_n C [(3, .int (nI nB)), (0, .ref (X 0)), (1, .ref m0), (2, .int a1)] dL_tie_5 rfl (by decide) rfl 6 rfl ?_
  refine vv_iload_n C dL_tie_6 rfl 3 rfl 7 rfl ?_
  refine vv_iload_n C dL_tie_7 rfl 0 rfl 8 rfl ?_
  obtain ⟨hz_1, h⟩ := chkP_s h
  refine vs_callSi C (S := Unit) (fun l => mt_L_below l D c a1 (nI nB) hz_1) gL_tie_L_below rfl rfl rfl yd_L_below ⟨Nat.le_of_ble_eq_true rfl, Nat.le_of_ble_eq_true rfl⟩ (List.flatten [sO m0 hour ropes broken windX windY oW oB oT oP, [aR c oW nW (fun i => some (WA i))], [aR c oB nB (fun i => some (BA i))], [aR c oT nT (fun i => some (TA (sg i)))], [aR c oP nP (fun i => some (PA i))], rowsW c WA nW 7 wF, rowsW c BA nB 9 bF, rowsW c TA nR 4 tF, rowsW c PA nP 2 pF, wRf c X W R B K Q T TB TK TQ Y S]) vs_nilP rfl [] rfl (Nat.le_of_ble_eq_true rfl) ⟨show 0 + 0 ≤ 45 by omega, show 0 + 0 ≤ 422 by omega⟩ dL_tie_8 11 0 0 rfl ⟨rfl, rfl⟩ (fun _ u_2 hu => ?_)
  rw [hu]
  refine vs_nilR ?_
  refine vv_istore C [(4, .int (bl a1 (nI nB))), (3, .int (nI nB)), (0, .ref (X 0)), (1, .ref m0), (2, .int a1)] dL_tie_11 (by decide) rfl 13 rfl ?_
  refine vv_iconst C (v := 0) dL_tie_13 (by decide) 14 rfl ?_
  refine vv_istore C [(5, .int 0), (4, .int (bl a1 (nI nB))), (3, .int (nI nB)), (0, .ref (X 0)), (1, .ref m0), (2, .int a1)] dL_tie_14 (by decide) rfl 16 rfl ?_
  refine vv_lv [3, 4, 5, 2, 1, 0] [(0, .ref (X 0)), (1, .ref m0), (2, .int a1), (3, .int (nI nB)), (4, .int (bl a1 (nI nB))), (5, .int 0)] rfl ?_
  obtain ⟨hN16, h⟩ := chkP_s h
  have L16 : ∀ (n j16 : Nat) (q16 : (Int32) ⊕ (Unit)), j16 + n = nB → jL_tie_L16 a1 nB (bl a1 (nI nB)) ropes nB bF n j16 = some q16 → ((∀ w, q16 = (Sum.inl w) → VV g D 10 0 0 (List.flatten [sO m0 hour ropes broken windX windY oW oB oT oP, [aR c oW nW (fun i => some (WA i))], [aR c oB nB (fun i => some (BA i))], [aR c oT nT (fun i => some (TA (sg i)))], [aR c oP nP (fun i => some (PA i))], rowsW c WA nW 7 wF, rowsW c BA nB 9 bF, rowsW c TA nR 4 tF, rowsW c PA nP 2 pF, wRf c X W R B K Q T TB TK TQ Y S]) [(0, .ref (X 0)), (1, .ref m0), (2, .int a1), (4, .int (bl a1 (nI nB))), (6, .int w)] 133 []) ∧ (∀ w, q16 = (Sum.inr w) → VV g D 10 0 0 (List.flatten [sO m0 hour ropes broken windX windY oW oB oT oP, [aR c oW nW (fun i => some (WA i))], [aR c oB nB (fun i => some (BA i))], [aR c oT nT (fun i => some (TA (sg i)))], [aR c oP nP (fun i => some (PA i))], rowsW c WA nW 7 wF, rowsW c BA nB 9 bF, rowsW c TA nR 4 tF, rowsW c PA nP 2 pF, wRf c X W R B K Q T TB TK TQ Y S]) [] 194 [])) → VV g D 10 0 0 (List.flatten [sO m0 hour ropes broken windX windY oW oB oT oP, [aR c oW nW (fun i => some (WA i))], [aR c oB nB (fun i => some (BA i))], [aR c oT nT (fun i => some (TA (sg i)))], [aR c oP nP (fun i => some (PA i))], rowsW c WA nW 7 wF, rowsW c BA nB 9 bF, rowsW c TA nR 4 tF, rowsW c PA nP 2 pF, wRf c X W R B K Q T TB TK TQ Y S]) [(0, .ref (X 0)), (1, .ref m0), (2, .int a1), (3, .int (nI nB)), (4, .int (bl a1 (nI nB))), (5, .int (nI j16))] 16 [] := by
    intro n
    induction n with
    | zero =>
      intro j16 q16 hj16 h kk16
      rw [jL_tie_L16] at h
      refine vv_iload C dL_tie_16 5 rfl 18 rfl ?_
      refine vv_iload_n C dL_tie_18 rfl 3 rfl 19 rfl ?_
      refine vv_icmp_ge C 194 22 dL_tie_19 (by decide) rfl (fun hc => ?_) (fun hc => ?_)
      · refine vv_lv [] [] rfl ?_
        exact kk16.2 _ (Option.some.inj h).symm 
      · exact absurd (nI_le (show nB ≤ j16 by omega) (by omega)) hc
    | succ n ih16 =>
      intro j16 q16 hj16 h kk16
      rw [jL_tie_L16] at h
      refine vv_iload C dL_tie_16 5 rfl 18 rfl ?_
      refine vv_iload_n C dL_tie_18 rfl 3 rfl 19 rfl ?_
      refine vv_icmp_ge C 194 22 dL_tie_19 (by decide) rfl (fun hc => ?_) (fun hc => ?_)
      · exact absurd hc (nI_ge (show j16 < nB by omega) (by omega))
      · refine vv_iload C dL_tie_22 5 rfl 24 rfl ?_
        refine vv_iload_n C dL_tie_24 rfl 2 rfl 25 rfl ?_
        refine vv_iconst C (v := 4) dL_tie_25 (by decide) 26 rfl ?_
        refine vv_ishr C dL_tie_26 27 rfl ?_
        refine vv_iload_n C dL_tie_27 rfl 3 rfl 28 rfl ?_
        obtain ⟨hz_3, h⟩ := chkP_s h
        refine vs_callSi C (S := Unit) (fun l => mt_L_below l D c (shr5 a1 4) (nI nB) hz_3) gL_tie_L_below rfl rfl rfl yd_L_below ⟨Nat.le_of_ble_eq_true rfl, Nat.le_of_ble_eq_true rfl⟩ (List.flatten [sO m0 hour ropes broken windX windY oW oB oT oP, [aR c oW nW (fun i => some (WA i))], [aR c oB nB (fun i => some (BA i))], [aR c oT nT (fun i => some (TA (sg i)))], [aR c oP nP (fun i => some (PA i))], rowsW c WA nW 7 wF, rowsW c BA nB 9 bF, rowsW c TA nR 4 tF, rowsW c PA nP 2 pF, wRf c X W R B K Q T TB TK TQ Y S]) vs_nilP rfl [.int (nI j16)] rfl (Nat.le_of_ble_eq_true rfl) ⟨show 0 + 0 ≤ 45 by omega, show 0 + 0 ≤ 422 by omega⟩ dL_tie_28 31 0 0 rfl ⟨rfl, rfl⟩ (fun _ u_4 hu => ?_)
        rw [hu]
        refine vs_nilR ?_
        refine vv_iadd C dL_tie_31 32 rfl ?_
        refine vv_iload_n C dL_tie_32 rfl 3 rfl 33 rfl ?_
        obtain ⟨hz_5, h⟩ := chkP_s h
        refine vv_irem C dL_tie_33 hz_5 34 rfl ?_
        refine vv_istore C [(6, .int (((nI j16) + (bl (shr5 a1 4) (nI nB))) - ((nI j16) + (bl (shr5 a1 4) (nI nB))) / (nI nB) * (nI nB))), (0, .ref (X 0)), (1, .ref m0), (2, .int a1), (3, .int (nI nB)), (4, .int (bl a1 (nI nB))), (5, .int (nI j16))] dL_tie_34 (by decide) rfl 36 rfl ?_
        refine vv_aload_n C dL_tie_36 rfl 2 rfl 37 rfl ?_
        refine vv_get C (q0 := 0) (ci := 7) (k := 6) kinL_tie_X7 rfl rfl (by decide) kwL_tie_1 rfl rfl dL_tie_37 40 rfl ?_
        refine vv_iload C dL_tie_40 5 rfl 42 rfl ?_
        obtain ⟨hi, h⟩ := chk_s h
        have hr_6 := in_lt hi
        refine vs_aald C (q0 := 2) (k := ((bl a1 (nI nB))).toNatClampNeg) rfl hi rfl dL_tie_42 43 rfl ?_
        refine vv_eq (st' := [.ref (BA (((bl a1 (nI nB))).toNatClampNeg))]) rfl rfl rfl ?_
        refine vv_astore C [(7, .ref (BA (((bl a1 (nI nB))).toNatClampNeg))), (6, .int (((nI j16) + (bl (shr5 a1 4) (nI nB))) - ((nI j16) + (bl (shr5 a1 4) (nI nB))) / (nI nB) * (nI nB))), (0, .ref (X 0)), (1, .ref m0), (2, .int a1), (3, .int (nI nB)), (4, .int (bl a1 (nI nB))), (5, .int (nI j16))] dL_tie_43 (by decide) rfl 45 rfl ?_
        refine vv_aload_n C dL_tie_45 rfl 3 rfl 46 rfl ?_
        refine vv_get C (q0 := 0) (ci := 7) (k := 6) kinL_tie_X7 rfl rfl (by decide) kwL_tie_1 rfl rfl dL_tie_46 49 rfl ?_
        refine vv_iload C dL_tie_49 1 rfl 51 rfl ?_
        obtain ⟨hi, h⟩ := chk_s h
        have hr_7 := in_lt hi
        refine vs_aald C (q0 := 2) (k := ((((nI j16) + (bl (shr5 a1 4) (nI nB))) - ((nI j16) + (bl (shr5 a1 4) (nI nB))) / (nI nB) * (nI nB))).toNatClampNeg) rfl hi rfl dL_tie_51 52 rfl ?_
        refine vv_eq (st' := [.ref (BA (((((nI j16) + (bl (shr5 a1 4) (nI nB))) - ((nI j16) + (bl (shr5 a1 4) (nI nB))) / (nI nB) * (nI nB))).toNatClampNeg))]) rfl rfl rfl ?_
        refine vv_astore C [(8, .ref (BA (((((nI j16) + (bl (shr5 a1 4) (nI nB))) - ((nI j16) + (bl (shr5 a1 4) (nI nB))) / (nI nB) * (nI nB))).toNatClampNeg))), (7, .ref (BA (((bl a1 (nI nB))).toNatClampNeg))), (6, .int (((nI j16) + (bl (shr5 a1 4) (nI nB))) - ((nI j16) + (bl (shr5 a1 4) (nI nB))) / (nI nB) * (nI nB))), (0, .ref (X 0)), (1, .ref m0), (2, .int a1), (3, .int (nI nB)), (4, .int (bl a1 (nI nB))), (5, .int (nI j16))] dL_tie_52 (by decide) rfl 54 rfl ?_
        refine vv_aload C dL_tie_54 1 rfl 56 rfl ?_
        refine vv_iconst C (v := 0) dL_tie_56 (by decide) 57 rfl ?_
        refine vs_iald C (r := ((bl a1 (nI nB))).toNatClampNeg) 6 rfl hr_6 (inB_t (by decide)) dL_tie_57 58 rfl ?_
        refine vv_aload C dL_tie_58 0 rfl 60 rfl ?_
        refine vv_iconst C (v := 0) dL_tie_60 (by decide) 61 rfl ?_
        refine vs_iald C (r := ((((nI j16) + (bl (shr5 a1 4) (nI nB))) - ((nI j16) + (bl (shr5 a1 4) (nI nB))) / (nI nB) * (nI nB))).toNatClampNeg) 6 rfl hr_7 (inB_t (by decide)) dL_tie_61 62 rfl ?_
        refine vv_isub C dL_tie_62 63 rfl ?_
        refine vv_mabs C kwL_tie_2 kwL_tie_3 kwL_tie_4 kwL_tie_5 ⟨Nat.le_of_ble_eq_true rfl, Nat.le_of_ble_eq_true rfl⟩ ⟨Nat.le_of_ble_eq_true rfl, Nat.le_of_ble_eq_true rfl⟩ dL_tie_63 66 rfl ?_
        refine vv_aload C dL_tie_66 1 rfl 68 rfl ?_
        refine vv_iconst C (v := 1) dL_tie_68 (by decide) 69 rfl ?_
        refine vs_iald C (r := ((bl a1 (nI nB))).toNatClampNeg) 6 rfl hr_6 (inB_t (by decide)) dL_tie_69 70 rfl ?_
        refine vv_aload C dL_tie_70 0 rfl 72 rfl ?_
        refine vv_iconst C (v := 1) dL_tie_72 (by decide) 73 rfl ?_
        refine vs_iald C (r := ((((nI j16) + (bl (shr5 a1 4) (nI nB))) - ((nI j16) + (bl (shr5 a1 4) (nI nB))) / (nI nB) * (nI nB))).toNatClampNeg) 6 rfl hr_7 (inB_t (by decide)) dL_tie_73 74 rfl ?_
        refine vv_isub C dL_tie_74 75 rfl ?_
        refine vv_mabs C kwL_tie_2 kwL_tie_3 kwL_tie_4 kwL_tie_5 ⟨Nat.le_of_ble_eq_true rfl, Nat.le_of_ble_eq_true rfl⟩ ⟨Nat.le_of_ble_eq_true rfl, Nat.le_of_ble_eq_true rfl⟩ dL_tie_75 78 rfl ?_
        refine vv_iadd C dL_tie_78 79 rfl ?_
        refine vv_iconst C (v := 1) dL_tie_79 (by decide) 80 rfl ?_
        refine vv_icmp_ne C 188 83 dL_tie_80 (by decide) rfl (fun hc => ?_) (fun hc => ?_)
        · replace h := ite_f hc h
          refine vv_iinc C (k := 8) [(5, .int (nI (j16 + 1))), (8, .ref (BA (((((nI j16) + (bl (shr5 a1 4) (nI nB))) - ((nI j16) + (bl (shr5 a1 4) (nI nB))) / (nI nB) * (nI nB))).toNatClampNeg))), (7, .ref (BA (((bl a1 (nI nB))).toNatClampNeg))), (6, .int (((nI j16) + (bl (shr5 a1 4) (nI nB))) - ((nI j16) + (bl (shr5 a1 4) (nI nB))) / (nI nB) * (nI nB))), (0, .ref (X 0)), (1, .ref m0), (2, .int a1), (3, .int (nI nB)), (4, .int (bl a1 (nI nB)))] dL_tie_188 rfl nI_inc (by decide) rfl 191 rfl ?_
          refine vv_goto C 16 dL_tie_191 (by decide) ?_
          refine vv_lv [4, 5, 6, 7, 8, 0] [(0, .ref (X 0)), (1, .ref m0), (2, .int a1), (3, .int (nI nB)), (4, .int (bl a1 (nI nB))), (5, .int (nI (j16 + 1)))] rfl ?_
          exact ih16 (j16 + 1) _ (by omega) h kk16
        · replace h := ite_t hc h
          refine vv_aload C dL_tie_83 1 rfl 85 rfl ?_
          refine vv_bipush C (v := 6) dL_tie_85 (by decide) 87 rfl ?_
          refine vs_iald C (r := ((bl a1 (nI nB))).toNatClampNeg) 6 rfl hr_6 (inB_t (by decide)) dL_tie_87 88 rfl ?_
          refine vv_aload C dL_tie_88 0 rfl 90 rfl ?_
          refine vv_bipush C (v := 6) dL_tie_90 (by decide) 92 rfl ?_
          refine vs_iald C (r := ((((nI j16) + (bl (shr5 a1 4) (nI nB))) - ((nI j16) + (bl (shr5 a1 4) (nI nB))) / (nI nB) * (nI nB))).toNatClampNeg) 6 rfl hr_7 (inB_t (by decide)) dL_tie_92 93 rfl ?_
          refine vv_iadd C dL_tie_93 94 rfl ?_
          refine vv_if_gt C 188 97 dL_tie_94 (by decide) rfl (fun hc => ?_) (fun hc => ?_)
          · replace h := ite_t hc h
            refine vv_iinc C (k := 8) [(5, .int (nI (j16 + 1))), (8, .ref (BA (((((nI j16) + (bl (shr5 a1 4) (nI nB))) - ((nI j16) + (bl (shr5 a1 4) (nI nB))) / (nI nB) * (nI nB))).toNatClampNeg))), (7, .ref (BA (((bl a1 (nI nB))).toNatClampNeg))), (6, .int (((nI j16) + (bl (shr5 a1 4) (nI nB))) - ((nI j16) + (bl (shr5 a1 4) (nI nB))) / (nI nB) * (nI nB))), (0, .ref (X 0)), (1, .ref m0), (2, .int a1), (3, .int (nI nB)), (4, .int (bl a1 (nI nB)))] dL_tie_188 rfl nI_inc (by decide) rfl 191 rfl ?_
            refine vv_goto C 16 dL_tie_191 (by decide) ?_
            refine vv_lv [4, 5, 6, 7, 8, 0] [(0, .ref (X 0)), (1, .ref m0), (2, .int a1), (3, .int (nI nB)), (4, .int (bl a1 (nI nB))), (5, .int (nI (j16 + 1)))] rfl ?_
            exact ih16 (j16 + 1) _ (by omega) h kk16
          · replace h := ite_f hc h
            refine vv_aload C dL_tie_97 1 rfl 99 rfl ?_
            refine vv_bipush C (v := 7) dL_tie_99 (by decide) 101 rfl ?_
            refine vs_iald C (r := ((bl a1 (nI nB))).toNatClampNeg) 6 rfl hr_6 (inB_t (by decide)) dL_tie_101 102 rfl ?_
            refine vv_aload C dL_tie_102 0 rfl 104 rfl ?_
            refine vv_bipush C (v := 7) dL_tie_104 (by decide) 106 rfl ?_
            refine vs_iald C (r := ((((nI j16) + (bl (shr5 a1 4) (nI nB))) - ((nI j16) + (bl (shr5 a1 4) (nI nB))) / (nI nB) * (nI nB))).toNatClampNeg) 6 rfl hr_7 (inB_t (by decide)) dL_tie_106 107 rfl ?_
            refine vv_icmp_ne C 188 110 dL_tie_107 (by decide) rfl (fun hc => ?_) (fun hc => ?_)
            · replace h := ite_f hc h
              refine vv_iinc C (k := 8) [(5, .int (nI (j16 + 1))), (8, .ref (BA (((((nI j16) + (bl (shr5 a1 4) (nI nB))) - ((nI j16) + (bl (shr5 a1 4) (nI nB))) / (nI nB) * (nI nB))).toNatClampNeg))), (7, .ref (BA (((bl a1 (nI nB))).toNatClampNeg))), (6, .int (((nI j16) + (bl (shr5 a1 4) (nI nB))) - ((nI j16) + (bl (shr5 a1 4) (nI nB))) / (nI nB) * (nI nB))), (0, .ref (X 0)), (1, .ref m0), (2, .int a1), (3, .int (nI nB)), (4, .int (bl a1 (nI nB)))] dL_tie_188 rfl nI_inc (by decide) rfl 191 rfl ?_
              refine vv_goto C 16 dL_tie_191 (by decide) ?_
              refine vv_lv [4, 5, 6, 7, 8, 0] [(0, .ref (X 0)), (1, .ref m0), (2, .int a1), (3, .int (nI nB)), (4, .int (bl a1 (nI nB))), (5, .int (nI (j16 + 1)))] rfl ?_
              exact ih16 (j16 + 1) _ (by omega) h kk16
            · replace h := ite_t hc h
              refine vv_aload C dL_tie_110 1 rfl 112 rfl ?_
              refine vv_bipush C (v := 8) dL_tie_112 (by decide) 114 rfl ?_
              refine vs_iald C (r := ((bl a1 (nI nB))).toNatClampNeg) 6 rfl hr_6 (inB_t (by decide)) dL_tie_114 115 rfl ?_
              refine vv_aload C dL_tie_115 0 rfl 117 rfl ?_
              refine vv_bipush C (v := 8) dL_tie_117 (by decide) 119 rfl ?_
              refine vs_iald C (r := ((((nI j16) + (bl (shr5 a1 4) (nI nB))) - ((nI j16) + (bl (shr5 a1 4) (nI nB))) / (nI nB) * (nI nB))).toNatClampNeg) 6 rfl hr_7 (inB_t (by decide)) dL_tie_119 120 rfl ?_
              refine vv_icmp_ne C 188 123 dL_tie_120 (by decide) rfl (fun hc => ?_) (fun hc => ?_)
              · replace h := ite_f hc h
                refine vv_iinc C (k := 8) [(5, .int (nI (j16 + 1))), (8, .ref (BA (((((nI j16) + (bl (shr5 a1 4) (nI nB))) - ((nI j16) + (bl (shr5 a1 4) (nI nB))) / (nI nB) * (nI nB))).toNatClampNeg))), (7, .ref (BA (((bl a1 (nI nB))).toNatClampNeg))), (6, .int (((nI j16) + (bl (shr5 a1 4) (nI nB))) - ((nI j16) + (bl (shr5 a1 4) (nI nB))) / (nI nB) * (nI nB))), (0, .ref (X 0)), (1, .ref m0), (2, .int a1), (3, .int (nI nB)), (4, .int (bl a1 (nI nB)))] dL_tie_188 rfl nI_inc (by decide) rfl 191 rfl ?_
                refine vv_goto C 16 dL_tie_191 (by decide) ?_
                refine vv_lv [4, 5, 6, 7, 8, 0] [(0, .ref (X 0)), (1, .ref m0), (2, .int a1), (3, .int (nI nB)), (4, .int (bl a1 (nI nB))), (5, .int (nI (j16 + 1)))] rfl ?_
                exact ih16 (j16 + 1) _ (by omega) h kk16
              · replace h := ite_t hc h
                refine vv_aload_n C dL_tie_123 rfl 4 rfl 124 rfl ?_
                refine vv_get C (q0 := 0) (ci := 7) (k := 1) kinL_tie_X7 rfl rfl (by decide) kwL_tie_6 rfl rfl dL_tie_124 127 rfl ?_
                refine vv_if_ne C 133 130 dL_tie_127 (by decide) rfl (fun hc => ?_) (fun hc => ?_)
                · replace h := ite_f hc h
                  refine vv_lv [3, 4, 5, 7, 2] [(0, .ref (X 0)), (1, .ref m0), (2, .int a1), (4, .int (bl a1 (nI nB))), (6, .int (((nI j16) + (bl (shr5 a1 4) (nI nB))) - ((nI j16) + (bl (shr5 a1 4) (nI nB))) / (nI nB) * (nI nB)))] rfl ?_
                  exact kk16.1 _ (Option.some.inj h).symm 
                · replace h := ite_t hc h
                  refine vv_goto C 188 dL_tie_130 (by decide) ?_
                  refine vv_iinc C (k := 8) [(5, .int (nI (j16 + 1))), (8, .ref (BA (((((nI j16) + (bl (shr5 a1 4) (nI nB))) - ((nI j16) + (bl (shr5 a1 4) (nI nB))) / (nI nB) * (nI nB))).toNatClampNeg))), (7, .ref (BA (((bl a1 (nI nB))).toNatClampNeg))), (6, .int (((nI j16) + (bl (shr5 a1 4) (nI nB))) - ((nI j16) + (bl (shr5 a1 4) (nI nB))) / (nI nB) * (nI nB))), (0, .ref (X 0)), (1, .ref m0), (2, .int a1), (3, .int (nI nB)), (4, .int (bl a1 (nI nB)))] dL_tie_188 rfl nI_inc (by decide) rfl 191 rfl ?_
                  refine vv_goto C 16 dL_tie_191 (by decide) ?_
                  refine vv_lv [4, 5, 6, 7, 8, 0] [(0, .ref (X 0)), (1, .ref m0), (2, .int a1), (3, .int (nI nB)), (4, .int (bl a1 (nI nB))), (5, .int (nI (j16 + 1)))] rfl ?_
                  exact ih16 (j16 + 1) _ (by omega) h kk16
  obtain ⟨r_8, hr_8, h⟩ := bnd_s h
  refine L16 nB 0 r_8 (Nat.zero_add _) hr_8 ⟨fun r_8_0 e => ?_, fun r_8_1 e => ?_⟩
  · subst e
    replace h := sel_l h
    refine vv_iconst C (v := 1) dL_tie_133 (by decide) 134 rfl ?_
    refine vv_iload_n C dL_tie_134 rfl 2 rfl 135 rfl ?_
    refine vv_iconst C (v := 2) dL_tie_135 (by decide) 136 rfl ?_
    refine vv_ishr C dL_tie_136 137 rfl ?_
    refine vv_bipush C (v := 50) dL_tie_137 (by decide) 139 rfl ?_
    refine vs_callSi C (S := Unit) (fun l => mt_L_below l D c (shr5 a1 2) 50 (by decide)) gL_tie_L_below rfl rfl rfl yd_L_below ⟨Nat.le_of_ble_eq_true rfl, Nat.le_of_ble_eq_true rfl⟩ (List.flatten [sO m0 hour ropes broken windX windY oW oB oT oP, [aR c oW nW (fun i => some (WA i))], [aR c oB nB (fun i => some (BA i))], [aR c oT nT (fun i => some (TA (sg i)))], [aR c oP nP (fun i => some (PA i))], rowsW c WA nW 7 wF, rowsW c BA nB 9 bF, rowsW c TA nR 4 tF, rowsW c PA nP 2 pF, wRf c X W R B K Q T TB TK TQ Y S]) vs_nilP rfl [.int 1] rfl (Nat.le_of_ble_eq_true rfl) ⟨show 0 + 0 ≤ 45 by omega, show 0 + 0 ≤ 422 by omega⟩ dL_tie_139 142 0 0 rfl ⟨rfl, rfl⟩ (fun _ u_9 hu => ?_)
    rw [hu]
    refine vs_nilR ?_
    refine vv_iadd C dL_tie_142 143 rfl ?_
    refine vv_istore C [(9, .int (1 + (bl (shr5 a1 2) 50))), (0, .ref (X 0)), (1, .ref m0), (2, .int a1), (4, .int (bl a1 (nI nB))), (6, .int r_8_0)] dL_tie_143 (by decide) rfl 145 rfl ?_
    refine vv_aload_n C dL_tie_145 rfl 2 rfl 146 rfl ?_
    refine vv_iload C dL_tie_146 4 rfl 148 rfl ?_
    refine vv_iload C dL_tie_148 5 rfl 150 rfl ?_
    refine vv_iload C dL_tie_150 0 rfl 152 rfl ?_
    obtain ⟨r_10, hr_10, h⟩ := bnd_s h
    refine vs_callVv C (S := (Nat × (Nat → Nat))) (fun l => mt_X7_tie_ l D c m0 oW oB oT oP WA BA TA PA hour ropes broken windX windY nW nB nT nP nR sg wF bF tF pF (bl a1 (nI nB)) r_8_0 (1 + (bl (shr5 a1 2) 50)) r_10 hr_10) gL_tie_X7_tie_ rfl rfl rfl yd_X7_tie_ ⟨Nat.le_of_ble_eq_true rfl, Nat.le_of_ble_eq_true rfl⟩ (List.flatten [wRf c X W R B K Q T TB TK TQ Y S]) (sg_pick2 [9] [0, 1, 2, 3, 4, 5, 6, 7, 8] rfl rfl (pm_of (N := 10) rfl (by decide +kernel))) 0 rfl rfl rfl [] rfl (Nat.le_of_ble_eq_true rfl) ⟨show 0 + 44 ≤ 45 by omega, show 0 + 416 ≤ 422 by omega⟩ dL_tie_152 155 44 416 rfl ⟨by omega, by omega⟩ (fun u_11 _ => ?_)
    refine vs_app ?_
    refine vv_seg [1, 2, 3, 4, 5, 6, 7, 8, 9, 0] [] [sO m0 hour ropes broken windX windY oW oB u_11.1 oP, [aR c oW nW (fun i => some (WA i))], [aR c oB nB (fun i => some (BA i))], [aR c u_11.1 r_10.1 (fun i => some (u_11.2 (r_10.2.2.1 i)))], [aR c oP nP (fun i => some (PA i))], rowsW c WA nW 7 wF, rowsW c BA nB 9 bF, rowsW c u_11.2 r_10.2.1 4 r_10.2.2.2, rowsW c PA nP 2 pF, wRf c X W R B K Q T TB TK TQ Y S] rfl (pm_of (N := 10) rfl (by decide +kernel)) ?_
    refine vv_aload_n C dL_tie_155 rfl 2 rfl 156 rfl ?_
    refine vv_dup C dL_tie_156 rfl 157 rfl ?_
    refine vv_get C (q0 := 0) (ci := 7) (k := 1) kinL_tie_X7 rfl rfl (by decide) kwL_tie_6 rfl rfl dL_tie_157 160 rfl ?_
    refine vv_iconst C (v := 1) dL_tie_160 (by decide) 161 rfl ?_
    refine vv_isub C dL_tie_161 162 rfl ?_
    refine vv_put C (q0 := 0) (ci := 7) (k := 1) (ty := .int) (List.flatten [sO m0 hour (ropes - 1) broken windX windY oW oB u_11.1 oP, [aR c oW nW (fun i => some (WA i))], [aR c oB nB (fun i => some (BA i))], [aR c u_11.1 r_10.1 (fun i => some (u_11.2 (r_10.2.2.1 i)))], [aR c oP nP (fun i => some (PA i))], rowsW c WA nW 7 wF, rowsW c BA nB 9 bF, rowsW c u_11.2 r_10.2.1 4 r_10.2.2.2, rowsW c PA nP 2 pF, wRf c X W R B K Q T TB TK TQ Y S]) tyX7 tyX7_ok nmX7 kinL_tie_X7 rfl rfl (by decide) kwL_tie_6 rfl rfl rfl rfl rfl (Nat.le_of_ble_eq_true rfl) rfl dL_tie_162 165 rfl ?_
    refine vv_aload_n C dL_tie_165 rfl 1 rfl 166 rfl ?_
    refine vv_iload C dL_tie_166 4 rfl 168 rfl ?_
    refine vv_iload C dL_tie_168 5 rfl 170 rfl ?_
    refine vv_iload C dL_tie_170 0 rfl 172 rfl ?_
    obtain ⟨r_12, hr_12, h⟩ := bnd_s h
    obtain ⟨u_13, g_14, hu_15, -, e_16⟩ := op_tie_s hr_12
    refine vs_callX C XL (fun l hfl => mt_X6_tie l hfl D c X W R B K Q T Y (S 0 0) (S 10 0) (S 11 0) (S 23 0) (S 12) (S 13) (S 19) (S 20) (S 21) (S 22) (S 31 0) (S 27) (S 28) (S 29) (S 30) (bl a1 (nI nB)) r_8_0 (1 + (bl (shr5 a1 2) 50)) (Sum.inr u_13) hu_15) gL_tie_X6_tie rfl rfl rfl yd_X6_tie ⟨Nat.le_of_ble_eq_true rfl, Nat.le_of_ble_eq_true rfl⟩ 9 (wRf c X W R B K Q T TB TK TQ Y S) (wRf c X W R B K Q T TB TK TQ Y (up (up (up (up (up (up (up (up (up (up (up S 0 (fun _ => u_13.2.1)) 22 u_13.2.2.1) 31 (fun _ => u_13.2.2.2.1)) 27 u_13.2.2.2.2.1) 28 u_13.2.2.2.2.2.1) 29 u_13.2.2.2.2.2.2.1) 30 u_13.2.2.2.2.2.2.2) 60 (fun _ => g_14.2.1)) 69 g_14.2.2.1) 70 g_14.2.2.2.1) 72 g_14.2.2.2.2)) [((W 0), .inr (4, [.ref (W 1), .ref (W 2), .ref (W 3), .ref (W 4), .int (S 5 0), .int (S 6 0), .int (S 7 0)])), aI c (W 1) 8 (S 1), aI c (W 2) 8 (S 2), aI c (W 3) 8 (S 3), aI c (W 4) 600 (S 4), aI c (R 1) 24 (S 8), aI c (R 2) 24 (S 9), aI c (B 3) 24 (S 14), aI c (B 4) 24 (S 15), aI c (B 5) 24 (S 16), aI c (B 6) 24 (S 17), aI c (B 7) 24 (S 18), ((K 0), .inr (1, [.ref (K 1), .ref (K 2), .int (S 26 0)])), aI c (K 1) 8 (S 24), aI c (K 2) 8 (S 25), ((T 0), .inr (3, [.ref (TB 0), .ref (TK 0), .ref (TQ 0), .ref (T 1), .ref (T 2), .int (S 34 0), .int (S 35 0)])), aI c (T 1) 24 (S 32), aI c (T 2) 24 (S 33), ((TB 0), .inr (0, [.ref (TB 1), .ref (TB 2), .ref (TB 3), .ref (TB 4), .ref (TB 5), .ref (TB 6), .ref (TB 7), .ref (TB 8), .ref (TB 9), .ref (TB 10), .ref (TB 11), .int (S 47 0)])), aI c (TB 1) 24 (S 36), aI c (TB 2) 24 (S 37), aI c (TB 3) 24 (S 38), aI c (TB 4) 24 (S 39), aI c (TB 5) 24 (S 40), aI c (TB 6) 24 (S 41), aI c (TB 7) 24 (S 42), aI c (TB 8) 24 (S 43), aI c (TB 9) 24 (S 44), aI c (TB 10) 24 (S 45), aI c (TB 11) 24 (S 46), ((TK 0), .inr (1, [.ref (TK 1), .ref (TK 2), .int (S 50 0)])), aI c (TK 1) 8 (S 48), aI c (TK 2) 8 (S 49), ((TQ 0), .inr (2, [.ref (TQ 1), .ref (TQ 2), .ref (TQ 3), .ref (TQ 4), .int (S 55 0)])), aI c (TQ 1) 48 (S 51), aI c (TQ 2) 48 (S 52), aI c (TQ 3) 48 (S 53), aI c (TQ 4) 48 (S 54), ((Y 0), .inr (5, [.ref (Y 1), .ref (Y 2), .ref (Y 3), .ref (Y 4)])), aI c (Y 1) 48 (S 56), aI c (Y 2) 24 (S 57), aI c (Y 3) 24 (S 58), aI c (Y 4) 24 (S 59)] rfl [1, 2, 3, 4, 5, 7, 8, 12, 13, 14, 15, 16, 21, 22, 23, 29, 30, 31, 32, 33, 34, 35, 36, 37, 38, 39, 40, 41, 42, 43, 44, 45, 46, 47, 48, 49, 50, 51, 52, 53, 54, 55, 56] [0, 6, 9, 10, 11, 17, 18, 19, 20, 24, 25, 26, 27, 28] rfl rfl (pm_of (N := 57) rfl (by decide +kernel)) rfl rfl (pm_of (N := 57) rfl (by decide +kernel)) [sO m0 hour (ropes - 1) broken windX windY oW oB u_11.1 oP, [aR c oW nW (fun i => some (WA i))], [aR c oB nB (fun i => some (BA i))], [aR c u_11.1 r_10.1 (fun i => some (u_11.2 (r_10.2.2.1 i)))], [aR c oP nP (fun i => some (PA i))], rowsW c WA nW 7 wF, rowsW c BA nB 9 bF, rowsW c u_11.2 r_10.2.1 4 r_10.2.2.2, rowsW c PA nP 2 pF, wRf c X W R B K Q T TB TK TQ Y (up (up (up (up (up (up (up (up (up (up (up S 0 (fun _ => u_13.2.1)) 22 u_13.2.2.1) 31 (fun _ => u_13.2.2.2.1)) 27 u_13.2.2.2.2.1) 28 u_13.2.2.2.2.2.1) 29 u_13.2.2.2.2.2.2.1) 30 u_13.2.2.2.2.2.2.2) 60 (fun _ => g_14.2.1)) 69 g_14.2.2.1) 70 g_14.2.2.2.1) 72 g_14.2.2.2.2)] rfl 0 rfl rfl rfl [] rfl (Nat.le_of_ble_eq_true rfl) ⟨show 44 + 1 ≤ 45 by omega, show 416 + 6 ≤ 422 by omega⟩ dL_tie_172 175 45 422 rfl ⟨by omega, by omega⟩ ?_
    refine vv_eq (ws' := (List.flatten [sO m0 hour (ropes - 1) broken windX windY oW oB u_11.1 oP, [aR c oW nW (fun i => some (WA i))], [aR c oB nB (fun i => some (BA i))], [aR c u_11.1 r_10.1 (fun i => some (u_11.2 (r_10.2.2.1 i)))], [aR c oP nP (fun i => some (PA i))], rowsW c WA nW 7 wF, rowsW c BA nB 9 bF, rowsW c u_11.2 r_10.2.1 4 r_10.2.2.2, rowsW c PA nP 2 pF, wRf c X W R B K Q T TB TK TQ Y r_12.2])) (st' := [.int r_12.1]) (by subst e_16; rfl) rfl (by subst e_16; rfl) ?_
    refine vv_aload_n C dL_tie_175 rfl 2 rfl 176 rfl ?_
    refine vv_get C (q0 := 0) (ci := 7) (k := 1) kinL_tie_X7 rfl rfl (by decide) kwL_tie_6 rfl rfl dL_tie_176 179 rfl ?_
    refine vv_icmp_ne C 186 182 dL_tie_179 (by decide) rfl (fun hc => ?_) (fun hc => ?_)
    · replace h := ite_f hc h
      cases h
    · replace h := ite_t hc h
      refine vv_iconst C (v := 1) dL_tie_182 (by decide) 183 rfl ?_
      refine vv_goto C 187 dL_tie_183 (by decide) ?_
      obtain ⟨hz, h⟩ := chkZ_s h
      obtain rfl := Option.some.inj h
      refine vv_widen (k := 45) (n := 422) (by omega) (by omega) ?_
      exact ret (u_11.1, u_11.2) _ rfl hz _ _ dL_tie_187
  · subst e
    replace h := sel_r h
    refine vv_iconst C (v := 1) dL_tie_194 (by decide) 195 rfl ?_
    obtain ⟨hz, h⟩ := chkZ_s h
    obtain rfl := Option.some.inj h
    refine vv_widen (k := 45) (n := 422) (by omega) (by omega) ?_
    exact ret (oT, TA) _ rfl hz _ _ dL_tie_195
