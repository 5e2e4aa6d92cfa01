abbrev rmX7_tie : Room := { frames := 1, cells := 0, slots := 0, locals := 21 }
theorem yd_X7_tie : yX7_tie.cls = RX7 ∧ yX7_tie.cls ≠ "java/lang/invoke/MethodHandle" ∧ yX7_tie.cls ≠ "java/lang/invoke/VarHandle" ∧ (parseMethodDescriptor yX7_tie.desc).map (fun d => d.parameters.length) = some 2 := by decide +kernel
theorem kwX7_tie_1 : Cond.fieldLink RX7 22 "BarrelRaftLaw$Sim" "ties" "[[I" ∈ wsX7_tie := List.mem_of_getElem? (i := 1) rfl
set_option maxRecDepth 20000 in
theorem kinX7_tie_X7 : ∀ w ∈ u_ws RX7 TX7 9, w ∈ wsX7_tie := by decide +kernel
theorem kwX7_tie_2 : Cond.methodLink RX7 49 Lib.Math.min.name ∈ wsX7_tie := List.mem_of_getElem? (i := 2) rfl
theorem kwX7_tie_3 : Cond.static Lib.Math.min.name ∈ wsX7_tie := List.mem_of_getElem? (i := 3) rfl
theorem kwX7_tie_4 : Cond.initialized "java/lang/Math" ∈ wsX7_tie := List.mem_of_getElem? (i := 4) rfl
theorem kwX7_tie_5 : Cond.code Lib.Math.min.name Lib.Math.min.code 2 (some .int) ∈ wsX7_tie := List.mem_of_getElem? (i := 5) rfl
theorem kwX7_tie_6 : Cond.methodLink RX7 55 Lib.Math.max.name ∈ wsX7_tie := List.mem_of_getElem? (i := 6) rfl
theorem kwX7_tie_7 : Cond.static Lib.Math.max.name ∈ wsX7_tie := List.mem_of_getElem? (i := 7) rfl
theorem kwX7_tie_8 : Cond.code Lib.Math.max.name Lib.Math.max.code 2 (some .int) ∈ wsX7_tie := List.mem_of_getElem? (i := 8) rfl
def jS_tie_L12 (u1_12 : Int32) (u2_12 : Int32) (sg : Nat → Nat) (nR : Nat) (tF : Nat → Nat → Int32) (n : Nat) (j12 : Nat) : Option ((Nat) ⊕ (Unit)) := match n with
  | 0 => some (Sum.inr ())
  | n + 1 => chkP (sg j12 < nR) ((if rd (tF (sg j12)) 0 = mmin u1_12 u2_12 then (if rd (tF (sg j12)) 1 = mmax u1_12 u2_12 then some (Sum.inl (sg j12)) else jS_tie_L12 u1_12 u2_12 sg nR tF n (j12 + 1) ) else jS_tie_L12 u1_12 u2_12 sg nR tF n (j12 + 1) ))
def jS_tie (nT : Nat) (nR : Nat) (sg : Nat → Nat) (tF : Nat → Nat → Int32) (a1 : Int32) (a2 : Int32) : Option (Option Nat) := chkP (nT ≤ 10) (bnd (jS_tie_L12 a1 a2 sg nR tF nT 0) (fun r_2 => sel r_2 (fun r_2_0 => some (some r_2_0)) (fun r_2_1 => some none)))
set_option maxHeartbeats 40000000 in
set_option maxRecDepth 100000 in
theorem mt_X7_tie (l : Launch) (D : va_G) (c : Nat → ClassId) (m0 oW oB oT oP : Nat) (WA BA TA PA : Nat → Nat) (hour : Int32) (ropes : Int32) (broken : Int32) (windX : Int32) (windY : Int32) (nW : Nat) (nB : Nat) (nT : Nat) (nP : Nat) (nR : Nat) (sg : Nat → Nat) (wF : Nat → Nat → Int32) (bF : Nat → Nat → Int32) (tF : Nat → Nat → Int32) (pF : Nat → Nat → Int32) (a1 : Int32) (a2 : Int32) (q0 : Option Nat) (h : jS_tie nT nR sg tF a1 a2 = some q0) : MJq l yX7_tie wsX7_tie rmX7_tie D c (List.flatten [sO m0 hour ropes broken windX windY oW oB oT oP, [aR c oW nW (fun i => some (WA i))], [aR c oB nB (fun i => some (BA i))], [aR c oT nT (fun i => some (TA (sg i)))], [aR c oP nP (fun i => some (PA i))], rowsW c WA nW 7 wF, rowsW c BA nB 9 bF, rowsW c TA nR 4 tF, rowsW c PA nP 2 pF]) [.ref m0, .int a1, .int a2] (fun (_ : Unit) => True) (fun u => Option.map TA q0) (fun u => (List.flatten [sO m0 hour ropes broken windX windY oW oB oT oP, [aR c oW nW (fun i => some (WA i))], [aR c oB nB (fun i => some (BA i))], [aR c oT nT (fun i => some (TA (sg i)))], [aR c oP nP (fun i => some (PA i))], rowsW c WA nW 7 wF, rowsW c BA nB 9 bF, rowsW c TA nR 4 tF, rowsW c PA nP 2 pF])) 0 0 := by
  refine MJq_of (t0 := .array .int) (hrt := Or.inr ⟨_, rfl⟩) (cc := cX7_tie) (nL := 7) RX7 rfl (by decide) rfl (Nat.le_of_ble_eq_true rfl) (fun g C ret => ?_)
  unfold jS_tie at h
  refine vv_lv [0, 1, 2] [(0, .ref m0), (1, .int a1), (2, .int a2)] rfl ?_
  refine vv_aload_n C dX7_tie_0 rfl 0 rfl 1 rfl ?_
  refine vv_get C (q0 := 0) (ci := 7) (k := 7) kinX7_tie_X7 rfl rfl (by decide) kwX7_tie_1 rfl rfl dX7_tie_1 4 rfl ?_
  refine vv_astore_n C [(3, .ref oT), (0, .ref m0), (1, .int a1), (2, .int a2)] dX7_tie_4 rfl (by decide) rfl 5 rfl ?_
  refine vv_aload_n C dX7_tie_5 rfl 0 rfl 6 rfl ?_
  refine vs_alenR C (q0 := 3) rfl dX7_tie_6 7 rfl ?_
  refine vv_istore C [(4, .int (nI nT)), (3, .ref oT), (0, .ref m0), (1, .int a1), (2, .int a2)] dX7_tie_7 (by decide) rfl 9 rfl ?_
  refine vv_iconst C (v := 0) dX7_tie_9 (by decide) 10 rfl ?_
  refine vv_istore C [(5, .int 0), (4, .int (nI nT)), (3, .ref oT), (0, .ref m0), (1, .int a1), (2, .int a2)] dX7_tie_10 (by decide) rfl 12 rfl ?_
  refine vv_lv [4, 5, 2, 1, 0] [(1, .int a1), (2, .int a2), (3, .ref oT), (4, .int (nI nT)), (5, .int 0)] rfl ?_
  obtain ⟨hN12, h⟩ := chkP_s h
  have L12 : ∀ (n j12 : Nat) (q12 : (Nat) ⊕ (Unit)), j12 + n = nT → jS_tie_L12 a1 a2 sg nR tF n j12 = some q12 → ((∀ w, q12 = (Sum.inl w) → VV g D 7 0 0 (List.flatten [sO m0 hour ropes broken windX windY oW oB oT oP, [aR c oW nW (fun i => some (WA i))], [aR c oB nB (fun i => some (BA i))], [aR c oT nT (fun i => some (TA (sg i)))], [aR c oP nP (fun i => some (PA i))], rowsW c WA nW 7 wF, rowsW c BA nB 9 bF, rowsW c TA nR 4 tF, rowsW c PA nP 2 pF]) [(6, .ref (TA w))] 49 []) ∧ (∀ w, q12 = (Sum.inr w) → VV g D 7 0 0 (List.flatten [sO m0 hour ropes broken windX windY oW oB oT oP, [aR c oW nW (fun i => some (WA i))], [aR c oB nB (fun i => some (BA i))], [aR c oT nT (fun i => some (TA (sg i)))], [aR c oP nP (fun i => some (PA i))], rowsW c WA nW 7 wF, rowsW c BA nB 9 bF, rowsW c TA nR 4 tF, rowsW c PA nP 2 pF]) [] 58 [])) → VV g D 7 0 0 (List.flatten [sO m0 hour ropes broken windX windY oW oB oT oP, [aR c oW nW (fun i => some (WA i))], [aR c oB nB (fun i => some (BA i))], [aR c oT nT (fun i => some (TA (sg i)))], [aR c oP nP (fun i => some (PA i))], rowsW c WA nW 7 wF, rowsW c BA nB 9 bF, rowsW c TA nR 4 tF, rowsW c PA nP 2 pF]) [(1, .int a1), (2, .int a2), (3, .ref oT), (4, .int (nI nT)), (5, .int (nI j12))] 12 [] := by
    intro n
    induction n with
    | zero =>
      intro j12 q12 hj12 h kk12
      rw [jS_tie_L12] at h
      refine vv_iload C dX7_tie_12 4 rfl 14 rfl ?_
      refine vv_iload C dX7_tie_14 3 rfl 16 rfl ?_
      refine vv_icmp_ge C 58 19 dX7_tie_16 (by decide) rfl (fun hc => ?_) (fun hc => ?_)
      · refine vv_lv [] [] rfl ?_
        exact kk12.2 _ (Option.some.inj h).symm 
      · exact absurd (nI_le (show nT ≤ j12 by omega) (by omega)) hc
    | succ n ih12 =>
      intro j12 q12 hj12 h kk12
      rw [jS_tie_L12] at h
      refine vv_iload C dX7_tie_12 4 rfl 14 rfl ?_
      refine vv_iload C dX7_tie_14 3 rfl 16 rfl ?_
      refine vv_icmp_ge C 58 19 dX7_tie_16 (by decide) rfl (fun hc => ?_) (fun hc => ?_)
      · exact absurd hc (nI_ge (show j12 < nT by omega) (by omega))
      · refine vv_aload_n C dX7_tie_19 rfl 2 rfl 20 rfl ?_
        refine vv_iload C dX7_tie_20 4 rfl 22 rfl ?_
        obtain ⟨hr_1, h⟩ := chkP_s h
        refine vs_aald C (q0 := 3) (k := j12) rfl (nI_in (show j12 < nT by omega) (by omega)) (nI_clamp (show j12 < 2 ^ 31 by omega)) dX7_tie_22 23 rfl ?_
        refine vv_eq (st' := [.ref (TA (sg j12))]) rfl rfl rfl ?_
        refine vv_astore C [(6, .ref (TA (sg j12))), (1, .int a1), (2, .int a2), (3, .ref oT), (4, .int (nI nT)), (5, .int (nI j12))] dX7_tie_23 (by decide) rfl 25 rfl ?_
        refine vv_aload C dX7_tie_25 0 rfl 27 rfl ?_
        refine vv_iconst C (v := 0) dX7_tie_27 (by decide) 28 rfl ?_
        refine vs_iald C (r := sg j12) 7 rfl hr_1 (inB_t (by decide)) dX7_tie_28 29 rfl ?_
        refine vv_iload_n C dX7_tie_29 rfl 1 rfl 30 rfl ?_
        refine vv_iload_n C dX7_tie_30 rfl 2 rfl 31 rfl ?_
        refine vv_mmin C kwX7_tie_2 kwX7_tie_3 kwX7_tie_4 kwX7_tie_5 ⟨Nat.le_of_ble_eq_true rfl, Nat.le_of_ble_eq_true rfl⟩ ⟨Nat.le_of_ble_eq_true rfl, Nat.le_of_ble_eq_true rfl⟩ dX7_tie_31 34 rfl ?_
        refine vv_icmp_ne C 52 37 dX7_tie_34 (by decide) rfl (fun hc => ?_) (fun hc => ?_)
        · replace h := ite_f hc h
          refine vv_iinc C (k := 5) [(5, .int (nI (j12 + 1))), (6, .ref (TA (sg j12))), (1, .int a1), (2, .int a2), (3, .ref oT), (4, .int (nI nT))] dX7_tie_52 rfl nI_inc (by decide) rfl 55 rfl ?_
          refine vv_goto C 12 dX7_tie_55 (by decide) ?_
          refine vv_lv [2, 3, 4, 5, 0] [(1, .int a1), (2, .int a2), (3, .ref oT), (4, .int (nI nT)), (5, .int (nI (j12 + 1)))] rfl ?_
          exact ih12 (j12 + 1) _ (by omega) h kk12
        · replace h := ite_t hc h
          refine vv_aload C dX7_tie_37 0 rfl 39 rfl ?_
          refine vv_iconst C (v := 1) dX7_tie_39 (by decide) 40 rfl ?_
          refine vs_iald C (r := sg j12) 7 rfl hr_1 (inB_t (by decide)) dX7_tie_40 41 rfl ?_
          refine vv_iload_n C dX7_tie_41 rfl 1 rfl 42 rfl ?_
          refine vv_iload_n C dX7_tie_42 rfl 2 rfl 43 rfl ?_
          refine vv_mmax C kwX7_tie_6 kwX7_tie_7 kwX7_tie_4 kwX7_tie_8 ⟨Nat.le_of_ble_eq_true rfl, Nat.le_of_ble_eq_true rfl⟩ ⟨Nat.le_of_ble_eq_true rfl, Nat.le_of_ble_eq_true rfl⟩ dX7_tie_43 46 rfl ?_
          refine vv_icmp_ne C 52 49 dX7_tie_46 (by decide) rfl (fun hc => ?_) (fun hc => ?_)
          · replace h := ite_f hc h
            refine vv_iinc C (k := 5) [(5, .int (nI (j12 + 1))), (6, .ref (TA (sg j12))), (1, .int a1), (2, .int a2), (3, .ref oT), (4, .int (nI nT))] dX7_tie_52 rfl nI_inc (by decide) rfl 55 rfl ?_
            refine vv_goto C 12 dX7_tie_55 (by decide) ?_
            refine vv_lv [2, 3, 4, 5, 0] [(1, .int a1), (2, .int a2), (3, .ref oT), (4, .int (nI nT)), (5, .int (nI (j12 + 1)))] rfl ?_
            exact ih12 (j12 + 1) _ (by omega) h kk12
          · replace h := ite_t hc h
            refine vv_lv [0] [(6, .ref (TA (sg j12)))] rfl ?_
            exact kk12.1 _ (Option.some.inj h).symm 
  obtain ⟨r_2, hr_2, h⟩ := bnd_s h
  refine L12 nT 0 r_2 (Nat.zero_add _) hr_2 ⟨fun r_2_0 e => ?_, fun r_2_1 e => ?_⟩
  · subst e
    replace h := sel_l h
    refine vv_aload C dX7_tie_49 0 rfl 51 rfl ?_
    obtain rfl := Option.some.inj h
    refine vv_widen (k := 0) (n := 0) (by omega) (by omega) ?_
    exact ret () trivial _ _ dX7_tie_51
  · subst e
    replace h := sel_r h
    refine vv_null C dX7_tie_58 59 rfl ?_
    obtain rfl := Option.some.inj h
    refine vv_widen (k := 0) (n := 0) (by omega) (by omega) ?_
    exact ret () trivial _ _ dX7_tie_59
abbrev rmX7_load : Room := { frames := 0, cells := 0, slots := 0, locals := 0 }
theorem yd_X7_load : yX7_load.cls = RX7 ∧ yX7_load.cls ≠ "java/lang/invoke/MethodHandle" ∧ yX7_load.cls ≠ "java/lang/invoke/VarHandle" ∧ (parseMethodDescriptor yX7_load.desc).map (fun d => d.parameters.length) = some 1 := by decide +kernel
theorem kwX7_load_1 : Cond.fieldLink RX7 19 "BarrelRaftLaw$Sim" "barrels" "[[I" ∈ wsX7_load := List.mem_of_getElem? (i := 1) rfl
set_option maxRecDepth 20000 in
theorem kinX7_load_X7 : ∀ w ∈ u_ws RX7 TX7 9, w ∈ wsX7_load := by decide +kernel
theorem kwX7_load_2 : Cond.fieldLink RX7 25 "BarrelRaftLaw$Sim" "people" "[[I" ∈ wsX7_load := List.mem_of_getElem? (i := 2) rfl
def jS_load_L21 (u1_21 : Int32) (pF : Nat → Nat → Int32) (n : Nat) (j21 : Nat) (v2_21 : Int32) : Option (Int32) := match n with
  | 0 => some v2_21
  | n + 1 => (if rd (pF j21) 0 = u1_21 then jS_load_L21 u1_21 pF n (j21 + 1) (v2_21 + 7) else jS_load_L21 u1_21 pF n (j21 + 1) (v2_21 + 0))
def jS_load (nB : Nat) (nP : Nat) (bF : Nat → Nat → Int32) (pF : Nat → Nat → Int32) (a1 : Int32) : Option (Int32) := chk nB a1 (chkP (nP ≤ 8) (bnd (jS_load_L21 a1 pF nP 0 (rd (bF ((a1).toNatClampNeg)) 5)) (fun r_3 => some r_3)))
set_option maxHeartbeats 40000000 in
set_option maxRecDepth 100000 in
theorem mt_X7_load (l : Launch) (D : va_G) (c : Nat → ClassId) (m0 oW oB oT oP : Nat) (WA BA TA PA : Nat → Nat) (hour : Int32) (ropes : Int32) (broken : Int32) (windX : Int32) (windY : Int32) (nW : Nat) (nB : Nat) (nT : Nat) (nP : Nat) (nR : Nat) (sg : Nat → Nat) (wF : Nat → Nat → Int32) (bF : Nat → Nat → Int32) (tF : Nat → Nat → Int32) (pF : Nat → Nat → Int32) (a1 : Int32) (q0 : Int32) (h : jS_load nB nP bF pF a1 = some q0) : MJi l yX7_load wsX7_load rmX7_load D c (List.flatten [sO m0 hour ropes broken windX windY oW oB oT oP, [aR c oW nW (fun i => some (WA i))], [aR c oB nB (fun i => some (BA i))], [aR c oT nT (fun i => some (TA (sg i)))], [aR c oP nP (fun i => some (PA i))], rowsW c WA nW 7 wF, rowsW c BA nB 9 bF, rowsW c TA nR 4 tF, rowsW c PA nP 2 pF]) [.ref m0, .int a1] (fun (r : Int32) (_ : Unit) => r = q0) (fun u => (List.flatten [sO m0 hour ropes broken windX windY oW oB oT oP, [aR c oW nW (fun i => some (WA i))], [aR c oB nB (fun i => some (BA i))], [aR c oT nT (fun i => some (TA (sg i)))], [aR c oP nP (fun i => some (PA i))], rowsW c WA nW 7 wF, rowsW c BA nB 9 bF, rowsW c TA nR 4 tF, rowsW c PA nP 2 pF])) 0 0 := by
  refine MJi_of (cc := cX7_load) (nL := 7) RX7 rfl (by decide) rfl (Nat.le_of_ble_eq_true rfl) (fun g C ret => ?_)
  unfold jS_load at h
  refine vv_lv [0, 1] [(0, .ref m0), (1, .int a1)] rfl ?_
  refine vv_aload_n C dX7_load_0 rfl 0 rfl 1 rfl ?_
  refine vv_get C (q0 := 0) (ci := 7) (k := 6) kinX7_load_X7 rfl rfl (by decide) kwX7_load_1 rfl rfl dX7_load_1 4 rfl ?_
  refine vv_iload_n C dX7_load_4 rfl 1 rfl 5 rfl ?_
  obtain ⟨hi, h⟩ := chk_s h
  have hr_1 := in_lt hi
  refine vs_aald C (q0 := 2) (k := (a1).toNatClampNeg) rfl hi rfl dX7_load_5 6 rfl ?_
  refine vv_eq (st' := [.ref (BA ((a1).toNatClampNeg))]) rfl rfl rfl ?_
  refine vv_iconst C (v := 5) dX7_load_6 (by decide) 7 rfl ?_
  refine vs_iald C (r := (a1).toNatClampNeg) 6 rfl hr_1 (inB_t (by decide)) dX7_load_7 8 rfl ?_
  refine vv_istore_n C [(2, .int (rd (bF ((a1).toNatClampNeg)) 5)), (0, .ref m0), (1, .int a1)] dX7_load_8 rfl (by decide) rfl 9 rfl ?_
  refine vv_aload_n C dX7_load_9 rfl 1 rfl 10 rfl ?_
  refine vv_get C (q0 := 0) (ci := 7) (k := 8) kinX7_load_X7 rfl rfl (by decide) kwX7_load_2 rfl rfl dX7_load_10 13 rfl ?_
  refine vv_astore_n C [(3, .ref oP), (2, .int (rd (bF ((a1).toNatClampNeg)) 5)), (0, .ref m0), (1, .int a1)] dX7_load_13 rfl (by decide) rfl 14 rfl ?_
  refine vv_aload_n C dX7_load_14 rfl 0 rfl 15 rfl ?_
  refine vs_alenR C (q0 := 4) rfl dX7_load_15 16 rfl ?_
  refine vv_istore C [(4, .int (nI nP)), (3, .ref oP), (2, .int (rd (bF ((a1).toNatClampNeg)) 5)), (0, .ref m0), (1, .int a1)] dX7_load_16 (by decide) rfl 18 rfl ?_
  refine vv_iconst C (v := 0) dX7_load_18 (by decide) 19 rfl ?_
  refine vv_istore C [(5, .int 0), (4, .int (nI nP)), (3, .ref oP), (2, .int (rd (bF ((a1).toNatClampNeg)) 5)), (0, .ref m0), (1, .int a1)] dX7_load_19 (by decide) rfl 21 rfl ?_
  refine vv_lv [5, 3, 2, 1, 0] [(1, .int a1), (2, .int (rd (bF ((a1).toNatClampNeg)) 5)), (3, .ref oP), (4, .int (nI nP)), (5, .int 0)] rfl ?_
  obtain ⟨hN21, h⟩ := chkP_s h
  have L21 : ∀ (n j21 : Nat) (v2_21 : Int32) (q21 : Int32), j21 + n = nP → jS_load_L21 a1 pF n j21 v2_21 = some q21 → (VV g D 7 0 0 (List.flatten [sO m0 hour ropes broken windX windY oW oB oT oP, [aR c oW nW (fun i => some (WA i))], [aR c oB nB (fun i => some (BA i))], [aR c oT nT (fun i => some (TA (sg i)))], [aR c oP nP (fun i => some (PA i))], rowsW c WA nW 7 wF, rowsW c BA nB 9 bF, rowsW c TA nR 4 tF, rowsW c PA nP 2 pF]) [(2, .int q21)] 57 []) → VV g D 7 0 0 (List.flatten [sO m0 hour ropes broken windX windY oW oB oT oP, [aR c oW nW (fun i => some (WA i))], [aR c oB nB (fun i => some (BA i))], [aR c oT nT (fun i => some (TA (sg i)))], [aR c oP nP (fun i => some (PA i))], rowsW c WA nW 7 wF, rowsW c BA nB 9 bF, rowsW c TA nR 4 tF, rowsW c PA nP 2 pF]) [(1, .int a1), (2, .int v2_21), (3, .ref oP), (4, .int (nI nP)), (5, .int (nI j21))] 21 [] := by
    intro n
    induction n with
    | zero =>
      intro j21 v2_21 q21 hj21 h kk21
      rw [jS_load_L21] at h
      refine vv_iload C dX7_load_21 4 rfl 23 rfl ?_
      refine vv_iload C dX7_load_23 3 rfl 25 rfl ?_
      refine vv_icmp_ge C 57 28 dX7_load_25 (by decide) rfl (fun hc => ?_) (fun hc => ?_)
      · refine vv_lv [1] [(2, .int v2_21)] rfl ?_
        obtain rfl := Option.some.inj h
        exact kk21 
      · exact absurd (nI_le (show nP ≤ j21 by omega) (by omega)) hc
    | succ n ih21 =>
      intro j21 v2_21 q21 hj21 h kk21
      rw [jS_load_L21] at h
      refine vv_iload C dX7_load_21 4 rfl 23 rfl ?_
      refine vv_iload C dX7_load_23 3 rfl 25 rfl ?_
      refine vv_icmp_ge C 57 28 dX7_load_25 (by decide) rfl (fun hc => ?_) (fun hc => ?_)
      · exact absurd hc (nI_ge (show j21 < nP by omega) (by omega))
      · refine vv_aload_n C dX7_load_28 rfl 2 rfl 29 rfl ?_
        refine vv_iload C dX7_load_29 4 rfl 31 rfl ?_
        refine vs_aald C (q0 := 4) (k := j21) rfl (nI_in (show j21 < nP by omega) (by omega)) (nI_clamp (show j21 < 2 ^ 31 by omega)) dX7_load_31 32 rfl ?_
        refine vv_eq (st' := [.ref (PA j21)]) rfl rfl rfl ?_
        refine vv_astore C [(6, .ref (PA j21)), (1, .int a1), (2, .int v2_21), (3, .ref oP), (4, .int (nI nP)), (5, .int (nI j21))] dX7_load_32 (by decide) rfl 34 rfl ?_
        refine vv_iload_n C dX7_load_34 rfl 2 rfl 35 rfl ?_
        refine vv_aload C dX7_load_35 0 rfl 37 rfl ?_
        refine vv_iconst C (v := 0) dX7_load_37 (by decide) 38 rfl ?_
        refine vs_iald C (r := j21) 8 rfl (show j21 < nP by omega) (inB_t (by decide)) dX7_load_38 39 rfl ?_
        refine vv_iload_n C dX7_load_39 rfl 1 rfl 40 rfl ?_
        refine vv_icmp_ne C 48 43 dX7_load_40 (by decide) rfl (fun hc => ?_) (fun hc => ?_)
        · replace h := ite_f hc h
          refine vv_iconst C (v := 0) dX7_load_48 (by decide) 49 rfl ?_
          refine vv_iadd C dX7_load_49 50 rfl ?_
          refine vv_istore_n C [(2, .int (v2_21 + 0)), (6, .ref (PA j21)), (1, .int a1), (3, .ref oP), (4, .int (nI nP)), (5, .int (nI j21))] dX7_load_50 rfl (by decide) rfl 51 rfl ?_
          refine vv_iinc C (k := 5) [(5, .int (nI (j21 + 1))), (2, .int (v2_21 + 0)), (6, .ref (PA j21)), (1, .int a1), (3, .ref oP), (4, .int (nI nP))] dX7_load_51 rfl nI_inc (by decide) rfl 54 rfl ?_
          refine vv_goto C 21 dX7_load_54 (by decide) ?_
          refine vv_lv [3, 1, 4, 5, 0] [(1, .int a1), (2, .int (v2_21 + 0)), (3, .ref oP), (4, .int (nI nP)), (5, .int (nI (j21 + 1)))] rfl ?_
          exact ih21 (j21 + 1) (v2_21 + 0) _ (by omega) h kk21
        · replace h := ite_t hc h
          refine vv_bipush C (v := 7) dX7_load_43 (by decide) 45 rfl ?_
          refine vv_goto C 49 dX7_load_45 (by decide) ?_
          refine vv_iadd C dX7_load_49 50 rfl ?_
          refine vv_istore_n C [(2, .int (v2_21 + 7)), (6, .ref (PA j21)), (1, .int a1), (3, .ref oP), (4, .int (nI nP)), (5, .int (nI j21))] dX7_load_50 rfl (by decide) rfl 51 rfl ?_
          refine vv_iinc C (k := 5) [(5, .int (nI (j21 + 1))), (2, .int (v2_21 + 7)), (6, .ref (PA j21)), (1, .int a1), (3, .ref oP), (4, .int (nI nP))] dX7_load_51 rfl nI_inc (by decide) rfl 54 rfl ?_
          refine vv_goto C 21 dX7_load_54 (by decide) ?_
          refine vv_lv [3, 1, 4, 5, 0] [(1, .int a1), (2, .int (v2_21 + 7)), (3, .ref oP), (4, .int (nI nP)), (5, .int (nI (j21 + 1)))] rfl ?_
          exact ih21 (j21 + 1) (v2_21 + 7) _ (by omega) h kk21
  obtain ⟨r_3, hr_3, h⟩ := bnd_s h
  refine L21 nP 0 (rd (bF ((a1).toNatClampNeg)) 5) r_3 (Nat.zero_add _) hr_3 ?_
  refine vv_iload_n C dX7_load_57 rfl 0 rfl 58 rfl ?_
  obtain rfl := Option.some.inj h
  refine vv_widen (k := 0) (n := 0) (by omega) (by omega) ?_
  exact ret () _ rfl _ _ dX7_load_58
abbrev rmX7_lifts : Room := { frames := 0, cells := 0, slots := 0, locals := 0 }
theorem yd_X7_lifts : yX7_lifts.cls = RX7 ∧ yX7_lifts.cls ≠ "java/lang/invoke/MethodHandle" ∧ yX7_lifts.cls ≠ "java/lang/invoke/VarHandle" ∧ (parseMethodDescriptor yX7_lifts.desc).map (fun d => d.parameters.length) = some 1 := by decide +kernel
theorem kwX7_lifts_1 : Cond.fieldLink RX7 19 "BarrelRaftLaw$Sim" "barrels" "[[I" ∈ wsX7_lifts := List.mem_of_getElem? (i := 1) rfl
set_option maxRecDepth 20000 in
theorem kinX7_lifts_X7 : ∀ w ∈ u_ws RX7 TX7 9, w ∈ wsX7_lifts := by decide +kernel
def jS_lifts (nB : Nat) (bF : Nat → Nat → Int32) (a1 : Int32) : Option (Int32) := chk nB a1 (chk nB a1 (some (((rd (bF ((a1).toNatClampNeg)) 2) * (100 - (rd (bF ((a1).toNatClampNeg)) 4))) / 100)))
set_option maxHeartbeats 40000000 in
set_option maxRecDepth 100000 in
theorem mt_X7_lifts (l : Launch) (D : va_G) (c : Nat → ClassId) (m0 oW oB oT oP : Nat) (WA BA TA PA : Nat → Nat) (hour : Int32) (ropes : Int32) (broken : Int32) (windX : Int32) (windY : Int32) (nW : Nat) (nB : Nat) (nT : Nat) (nP : Nat) (nR : Nat) (sg : Nat → Nat) (wF : Nat → Nat → Int32) (bF : Nat → Nat → Int32) (tF : Nat → Nat → Int32) (pF : Nat → Nat → Int32) (a1 : Int32) (q0 : Int32) (h : jS_lifts nB bF a1 = some q0) : MJi l yX7_lifts wsX7_lifts rmX7_lifts D c (List.flatten [sO m0 hour ropes broken windX windY oW oB oT oP, [aR c oW nW (fun i => some (WA i))], [aR c oB nB (fun i => some (BA i))], [aR c oT nT (fun i => some (TA (sg i)))], [aR c oP nP (fun i => some (PA i))], rowsW c WA nW 7 wF, rowsW c BA nB 9 bF, rowsW c TA nR 4 tF, rowsW c PA nP 2 pF]) [.ref m0, .int a1] (fun (r : Int32) (_ : Unit) => r = q0) (fun u => (List.flatten [sO m0 hour ropes broken windX windY oW oB oT oP, [aR c oW nW (fun i => some (WA i))], [aR c oB nB (fun i => some (BA i))], [aR c oT nT (fun i => some (TA (sg i)))], [aR c oP nP (fun i => some (PA i))], rowsW c WA nW 7 wF, rowsW c BA nB 9 bF, rowsW c TA nR 4 tF, rowsW c PA nP 2 pF])) 0 0 := by
  refine MJi_of (cc := cX7_lifts) (nL := 2) RX7 rfl (by decide) rfl (Nat.le_of_ble_eq_true rfl) (fun g C ret => ?_)
  unfold jS_lifts at h
  refine vv_lv [0, 1] [(0, .ref m0), (1, .int a1)] rfl ?_
  refine vv_aload_n C dX7_lifts_0 rfl 0 rfl 1 rfl ?_
  refine vv_get C (q0 := 0) (ci := 7) (k := 6) kinX7_lifts_X7 rfl rfl (by decide) kwX7_lifts_1 rfl rfl dX7_lifts_1 4 rfl ?_
  refine vv_iload_n C dX7_lifts_4 rfl 1 rfl 5 rfl ?_
  obtain ⟨hi, h⟩ := chk_s h
  have hr_1 := in_lt hi
  refine vs_aald C (q0 := 2) (k := (a1).toNatClampNeg) rfl hi rfl dX7_lifts_5 6 rfl ?_
  refine vv_eq (st' := [.ref (BA ((a1).toNatClampNeg))]) rfl rfl rfl ?_
  refine vv_iconst C (v := 2) dX7_lifts_6 (by decide) 7 rfl ?_
  refine vs_iald C (r := (a1).toNatClampNeg) 6 rfl hr_1 (inB_t (by decide)) dX7_lifts_7 8 rfl ?_
  refine vv_bipush C (v := 100) dX7_lifts_8 (by decide) 10 rfl ?_
  refine vv_aload_n C dX7_lifts_10 rfl 0 rfl 11 rfl ?_
  refine vv_get C (q0 := 0) (ci := 7) (k := 6) kinX7_lifts_X7 rfl rfl (by decide) kwX7_lifts_1 rfl rfl dX7_lifts_11 14 rfl ?_
  refine vv_iload_n C dX7_lifts_14 rfl 1 rfl 15 rfl ?_
  obtain ⟨hi, h⟩ := chk_s h
  have hr_2 := in_lt hi
  refine vs_aald C (q0 := 2) (k := (a1).toNatClampNeg) rfl hi rfl dX7_lifts_15 16 rfl ?_
  refine vv_eq (st' := [.ref (BA ((a1).toNatClampNeg)), .int 100, .int (rd (bF ((a1).toNatClampNeg)) 2)]) rfl rfl rfl ?_
  refine vv_iconst C (v := 4) dX7_lifts_16 (by decide) 17 rfl ?_
  refine vs_iald C (r := (a1).toNatClampNeg) 6 rfl hr_2 (inB_t (by decide)) dX7_lifts_17 18 rfl ?_
  refine vv_isub C dX7_lifts_18 19 rfl ?_
  refine vv_imul C dX7_lifts_19 20 rfl ?_
  refine vv_bipush C (v := 100) dX7_lifts_20 (by decide) 22 rfl ?_
  refine vv_idiv C dX7_lifts_22 (by decide) 23 rfl ?_
  obtain rfl := Option.some.inj h
  refine vv_widen (k := 0) (n := 0) (by omega) (by omega) ?_
  exact ret () _ rfl _ _ dX7_lifts_23
abbrev rmX7_piece : Room := { frames := 0, cells := 1, slots := 24, locals := 0 }
theorem yd_X7_piece : yX7_piece.cls = RX7 ∧ yX7_piece.cls ≠ "java/lang/invoke/MethodHandle" ∧ yX7_piece.cls ≠ "java/lang/invoke/VarHandle" ∧ (parseMethodDescriptor yX7_piece.desc).map (fun d => d.parameters.length) = some 2 := by decide +kernel
theorem kwX7_piece_1 : Cond.fieldLink RX7 19 "BarrelRaftLaw$Sim" "barrels" "[[I" ∈ wsX7_piece := List.mem_of_getElem? (i := 1) rfl
set_option maxRecDepth 20000 in
theorem kinX7_piece_X7 : ∀ w ∈ u_ws RX7 TX7 9, w ∈ wsX7_piece := by decide +kernel
theorem kwX7_piece_2 : Cond.arrayClass .boolean ∈ wsX7_piece := List.mem_of_getElem? (i := 2) rfl
theorem kwX7_piece_3 : Cond.fieldLink RX7 22 "BarrelRaftLaw$Sim" "ties" "[[I" ∈ wsX7_piece := List.mem_of_getElem? (i := 3) rfl
def jS_piece_L53 (sg : Nat → Nat) (nc5 : Nat) (nR : Nat) (tF : Nat → Nat → Int32) (n : Nat) (j53 : Nat) (fc5_53 : Nat → Int32) : Option ((Nat → Int32)) := match n with
  | 0 => some fc5_53
  | n + 1 => chkP (sg j53 < nR) (chk nc5 (rd (tF (sg j53)) 0) (chk nc5 (rd (tF (sg j53)) 1) ((if rd fc5_53 (rd (tF (sg j53)) 0) = rd fc5_53 (rd (tF (sg j53)) 1) then jS_piece_L53 sg nc5 nR tF n (j53 + 1) fc5_53 else chk nc5 (rd (tF (sg j53)) 0) (chk nc5 (rd (tF (sg j53)) 1) (jS_piece_L53 sg nc5 nR tF n (j53 + 1) (wr (wr fc5_53 (rd (tF (sg j53)) 0) 1) (rd (tF (sg j53)) 1) 1)))))))
def jS_piece_L29 (nT : Nat) (sg : Nat → Nat) (nc5 : Nat) (nR : Nat) (tF : Nat → Nat → Int32) (n : Nat) (j29 : Nat) (fc5_29 : Nat → Int32) : Option ((Nat → Int32)) := match n with
  | 0 => some fc5_29
  | n + 1 => chkP (nT ≤ 10) (bnd (jS_piece_L53 sg nc5 nR tF nT 0 fc5_29) (fun r_5 => jS_piece_L29 nT sg nc5 nR tF n (j29 + 1) r_5))
def jS_piece (nB : Nat) (nT : Nat) (nR : Nat) (sg : Nat → Nat) (bF : Nat → Nat → Int32) (tF : Nat → Nat → Int32) (a1 : Int32) : Option ((Nat → Int32)) := chkP (nB ≤ 24) (chk nB a1 ((if rd (bF ((a1).toNatClampNeg)) 6 ≤ 0 then chk nB a1 (chkP (nB ≤ 24) (bnd (jS_piece_L29 nT sg nB nR tF nB 0 (wr (fun _ => 0) a1 1)) (fun r_6 => some r_6))) else some (fun _ => 0))))
set_option maxHeartbeats 40000000 in
set_option maxRecDepth 100000 in
theorem mt_X7_piece (l : Launch) (D : va_G) (c : Nat → ClassId) (m0 oW oB oT oP : Nat) (WA BA TA PA : Nat → Nat) (hour : Int32) (ropes : Int32) (broken : Int32) (windX : Int32) (windY : Int32) (nW : Nat) (nB : Nat) (nT : Nat) (nP : Nat) (nR : Nat) (sg : Nat → Nat) (wF : Nat → Nat → Int32) (bF : Nat → Nat → Int32) (tF : Nat → Nat → Int32) (pF : Nat → Nat → Int32) (a1 : Int32) (q0 : (Nat → Int32)) (h : jS_piece nB nT nR sg bF tF a1 = some q0) : MJq l yX7_piece wsX7_piece rmX7_piece D c (List.flatten [sO m0 hour ropes broken windX windY oW oB oT oP, [aR c oW nW (fun i => some (WA i))], [aR c oB nB (fun i => some (BA i))], [aR c oT nT (fun i => some (TA (sg i)))], [aR c oP nP (fun i => some (PA i))], rowsW c WA nW 7 wF, rowsW c BA nB 9 bF, rowsW c TA nR 4 tF, rowsW c PA nP 2 pF]) [.ref m0, .int a1, .null] (fun (_ : Nat) => True) (fun u => some u) (fun u => (List.flatten [sO m0 hour ropes broken windX windY oW oB oT oP, [aR c oW nW (fun i => some (WA i))], [aR c oB nB (fun i => some (BA i))], [aR c oT nT (fun i => some (TA (sg i)))], [aR c oP nP (fun i => some (PA i))], [aZ c u nB q0], rowsW c WA nW 7 wF, rowsW c BA nB 9 bF, rowsW c TA nR 4 tF, rowsW c PA nP 2 pF])) 1 24 := by
  refine MJq_of (t0 := .array .boolean) (hrt := Or.inr ⟨_, rfl⟩) (cc := cX7_piece) (nL := 9) RX7 rfl (by decide) rfl (Nat.le_of_ble_eq_true rfl) (fun g C ret => ?_)
  unfold jS_piece at h
  refine vv_lv [0, 1, 2] [(0, .ref m0), (1, .int a1), (2, .null)] rfl ?_
  refine vv_aload_n C dX7_piece_0 rfl 0 rfl 1 rfl ?_
  refine vv_get C (q0 := 0) (ci := 7) (k := 6) kinX7_piece_X7 rfl rfl (by decide) kwX7_piece_1 rfl rfl dX7_piece_1 4 rfl ?_
  refine vs_alenR C (q0 := 2) rfl dX7_piece_4 5 rfl ?_
  obtain ⟨hb_2, h⟩ := chkP_s h
  refine vs_newz C (N := nB) kwX7_piece_2 (nI_n0 (by omega)) (nI_clamp (by omega)) (by show nB * 1 ≤ 536870912; omega) ⟨show 0 + 1 ≤ 1 by omega, show 0 + nB ≤ 24 by omega⟩ dX7_piece_5 7 1 24 rfl ⟨by omega, by omega⟩ (fun q_1 => ?_)
  refine vs_snoc ?_
  refine vv_seg [0, 1, 2, 3, 4, 9, 5, 6, 7, 8] [] [sO m0 hour ropes broken windX windY oW oB oT oP, [aR c oW nW (fun i => some (WA i))], [aR c oB nB (fun i => some (BA i))], [aR c oT nT (fun i => some (TA (sg i)))], [aR c oP nP (fun i => some (PA i))], [aZ c q_1 nB (fun _ => 0)], rowsW c WA nW 7 wF, rowsW c BA nB 9 bF, rowsW c TA nR 4 tF, rowsW c PA nP 2 pF] rfl (pm_of (N := 10) rfl (by decide +kernel)) ?_
  refine vv_astore_n C [(3, .ref q_1), (0, .ref m0), (1, .int a1), (2, .null)] dX7_piece_7 rfl (by decide) rfl 8 rfl ?_
  refine vv_aload_n C dX7_piece_8 rfl 1 rfl 9 rfl ?_
  refine vv_get C (q0 := 0) (ci := 7) (k := 6) kinX7_piece_X7 rfl rfl (by decide) kwX7_piece_1 rfl rfl dX7_piece_9 12 rfl ?_
  refine vv_iload_n C dX7_piece_12 rfl 2 rfl 13 rfl ?_
  obtain ⟨hi, h⟩ := chk_s h
  have hr_3 := in_lt hi
  refine vs_aald C (q0 := 2) (k := (a1).toNatClampNeg) rfl hi rfl dX7_piece_13 14 rfl ?_
  refine vv_eq (st' := [.ref (BA ((a1).toNatClampNeg))]) rfl rfl rfl ?_
  refine vv_bipush C (v := 6) dX7_piece_14 (by decide) 16 rfl ?_
  refine vs_iald C (r := (a1).toNatClampNeg) 7 rfl hr_3 (inB_t (by decide)) dX7_piece_16 17 rfl ?_
  refine vv_if_le C 22 20 dX7_piece_17 (by decide) rfl (fun hc => ?_) (fun hc => ?_)
  · replace h := ite_t hc h
    refine vv_aload_n C dX7_piece_22 rfl 0 rfl 23 rfl ?_
    refine vv_iload_n C dX7_piece_23 rfl 2 rfl 24 rfl ?_
    refine vv_iconst C (v := 1) dX7_piece_24 (by decide) 25 rfl ?_
    obtain ⟨hi, h⟩ := chk_s h
    refine vv_zast C (q0 := 5) (List.flatten [sO m0 hour ropes broken windX windY oW oB oT oP, [aR c oW nW (fun i => some (WA i))], [aR c oB nB (fun i => some (BA i))], [aR c oT nT (fun i => some (TA (sg i)))], [aR c oP nP (fun i => some (PA i))], [aZ c q_1 nB (wr (fun _ => 0) a1 1)], rowsW c WA nW 7 wF, rowsW c BA nB 9 bF, rowsW c TA nR 4 tF, rowsW c PA nP 2 pF]) rfl hi (by decide) rfl dX7_piece_25 26 rfl ?_
    refine vv_iconst C (v := 0) dX7_piece_26 (by decide) 27 rfl ?_
    refine vv_istore C [(4, .int 0), (3, .ref q_1), (0, .ref m0), (1, .int a1), (2, .null)] dX7_piece_27 (by decide) rfl 29 rfl ?_
    refine vv_lv [2, 4, 1, 0] [(0, .ref m0), (2, .null), (3, .ref q_1), (4, .int 0)] rfl ?_
    obtain ⟨hN29, h⟩ := chkP_s h
    have L29 : ∀ (n j29 : Nat) (fc5_29 : Nat → Int32) (q29 : (Nat → Int32)), j29 + n = nB → jS_piece_L29 nT sg nB nR tF n j29 fc5_29 = some q29 → (VV g D 9 1 24 (List.flatten [sO m0 hour ropes broken windX windY oW oB oT oP, [aR c oW nW (fun i => some (WA i))], [aR c oB nB (fun i => some (BA i))], [aR c oT nT (fun i => some (TA (sg i)))], [aR c oP nP (fun i => some (PA i))], [aZ c q_1 nB q29], rowsW c WA nW 7 wF, rowsW c BA nB 9 bF, rowsW c TA nR 4 tF, rowsW c PA nP 2 pF]) [(3, .ref q_1)] 117 []) → VV g D 9 1 24 (List.flatten [sO m0 hour ropes broken windX windY oW oB oT oP, [aR c oW nW (fun i => some (WA i))], [aR c oB nB (fun i => some (BA i))], [aR c oT nT (fun i => some (TA (sg i)))], [aR c oP nP (fun i => some (PA i))], [aZ c q_1 nB fc5_29], rowsW c WA nW 7 wF, rowsW c BA nB 9 bF, rowsW c TA nR 4 tF, rowsW c PA nP 2 pF]) [(0, .ref m0), (2, .null), (3, .ref q_1), (4, .int (nI j29))] 29 [] := by
      intro n
      induction n with
      | zero =>
        intro j29 fc5_29 q29 hj29 h kk29
        rw [jS_piece_L29] at h
        refine vv_iload C dX7_piece_29 3 rfl 31 rfl ?_
        refine vv_aload_n C dX7_piece_31 rfl 0 rfl 32 rfl ?_
        refine vv_get C (q0 := 0) (ci := 7) (k := 6) kinX7_piece_X7 rfl rfl (by decide) kwX7_piece_1 rfl rfl dX7_piece_32 35 rfl ?_
        refine vs_alenR C (q0 := 2) rfl dX7_piece_35 36 rfl ?_
        refine vv_icmp_ge C 117 39 dX7_piece_36 (by decide) rfl (fun hc => ?_) (fun hc => ?_)
        · refine vv_lv [2] [(3, .ref q_1)] rfl ?_
          obtain rfl := Option.some.inj h
          exact kk29 
        · exact absurd (nI_le (show nB ≤ j29 by omega) (by omega)) hc
      | succ n ih29 =>
        intro j29 fc5_29 q29 hj29 h kk29
        rw [jS_piece_L29] at h
        refine vv_iload C dX7_piece_29 3 rfl 31 rfl ?_
        refine vv_aload_n C dX7_piece_31 rfl 0 rfl 32 rfl ?_
        refine vv_get C (q0 := 0) (ci := 7) (k := 6) kinX7_piece_X7 rfl rfl (by decide) kwX7_piece_1 rfl rfl dX7_piece_32 35 rfl ?_
        refine vs_alenR C (q0 := 2) rfl dX7_piece_35 36 rfl ?_
        refine vv_icmp_ge C 117 39 dX7_piece_36 (by decide) rfl (fun hc => ?_) (fun hc => ?_)
        · exact absurd hc (nI_ge (show j29 < nB by omega) (by omega))
        · refine vv_aload_n C dX7_piece_39 rfl 0 rfl 40 rfl ?_
          refine vv_get C (q0 := 0) (ci := 7) (k := 7) kinX7_piece_X7 rfl rfl (by decide) kwX7_piece_3 rfl rfl dX7_piece_40 43 rfl ?_
          refine vv_astore C [(5, .ref oT), (0, .ref m0), (2, .null), (3, .ref q_1), (4, .int (nI j29))] dX7_piece_43 (by decide) rfl 45 rfl ?_
          refine vv_aload C dX7_piece_45 0 rfl 47 rfl ?_
          refine vs_alenR C (q0 := 3) rfl dX7_piece_47 48 rfl ?_
          refine vv_istore C [(6, .int (nI nT)), (5, .ref oT), (0, .ref m0), (2, .null), (3, .ref q_1), (4, .int (nI j29))] dX7_piece_48 (by decide) rfl 50 rfl ?_
          refine vv_iconst C (v := 0) dX7_piece_50 (by decide) 51 rfl ?_
          refine vv_istore C [(7, .int 0), (6, .int (nI nT)), (5, .ref oT), (0, .ref m0), (2, .null), (3, .ref q_1), (4, .int (nI j29))] dX7_piece_51 (by decide) rfl 53 rfl ?_
          refine vv_lv [3, 4, 5, 6, 2, 1, 0] [(0, .ref m0), (2, .null), (3, .ref q_1), (4, .int (nI j29)), (5, .ref oT), (6, .int (nI nT)), (7, .int 0)] rfl ?_
          obtain ⟨hN53, h⟩ := chkP_s h
          have L53 : ∀ (n j53 : Nat) (fc5_53 : Nat → Int32) (q53 : (Nat → Int32)), j53 + n = nT → jS_piece_L53 sg nB nR tF n j53 fc5_53 = some q53 → (VV g D 9 1 24 (List.flatten [sO m0 hour ropes broken windX windY oW oB oT oP, [aR c oW nW (fun i => some (WA i))], [aR c oB nB (fun i => some (BA i))], [aR c oT nT (fun i => some (TA (sg i)))], [aR c oP nP (fun i => some (PA i))], [aZ c q_1 nB q53], rowsW c WA nW 7 wF, rowsW c BA nB 9 bF, rowsW c TA nR 4 tF, rowsW c PA nP 2 pF]) [(0, .ref m0), (2, .null), (3, .ref q_1), (4, .int (nI j29))] 111 []) → VV g D 9 1 24 (List.flatten [sO m0 hour ropes broken windX windY oW oB oT oP, [aR c oW nW (fun i => some (WA i))], [aR c oB nB (fun i => some (BA i))], [aR c oT nT (fun i => some (TA (sg i)))], [aR c oP nP (fun i => some (PA i))], [aZ c q_1 nB fc5_53], rowsW c WA nW 7 wF, rowsW c BA nB 9 bF, rowsW c TA nR 4 tF, rowsW c PA nP 2 pF]) [(0, .ref m0), (2, .null), (3, .ref q_1), (4, .int (nI j29)), (5, .ref oT), (6, .int (nI nT)), (7, .int (nI j53))] 53 [] := by
            intro n
            induction n with
            | zero =>
              intro j53 fc5_53 q53 hj53 h kk53
              rw [jS_piece_L53] at h
              refine vv_iload C dX7_piece_53 6 rfl 55 rfl ?_
              refine vv_iload C dX7_piece_55 5 rfl 57 rfl ?_
              refine vv_icmp_ge C 111 60 dX7_piece_57 (by decide) rfl (fun hc => ?_) (fun hc => ?_)
              · refine vv_lv [0, 1, 2, 3] [(0, .ref m0), (2, .null), (3, .ref q_1), (4, .int (nI j29))] rfl ?_
                obtain rfl := Option.some.inj h
                exact kk53 
              · exact absurd (nI_le (show nT ≤ j53 by omega) (by omega)) hc
            | succ n ih53 =>
              intro j53 fc5_53 q53 hj53 h kk53
              rw [jS_piece_L53] at h
              refine vv_iload C dX7_piece_53 6 rfl 55 rfl ?_
              refine vv_iload C dX7_piece_55 5 rfl 57 rfl ?_
              refine vv_icmp_ge C 111 60 dX7_piece_57 (by decide) rfl (fun hc => ?_) (fun hc => ?_)
              · exact absurd hc (nI_ge (show j53 < nT by omega) (by omega))
              · refine vv_aload C dX7_piece_60 4 rfl 62 rfl ?_
                refine vv_iload C dX7_piece_62 6 rfl 64 rfl ?_
                obtain ⟨hr_4, h⟩ := chkP_s h
                refine vs_aald C (q0 := 3) (k := j53) rfl (nI_in (show j53 < nT by omega) (by omega)) (nI_clamp (show j53 < 2 ^ 31 by omega)) dX7_piece_64 65 rfl ?_
                refine vv_eq (st' := [.ref (TA (sg j53))]) rfl rfl rfl ?_
                refine vv_astore C [(8, .ref (TA (sg j53))), (0, .ref m0), (2, .null), (3, .ref q_1), (4, .int (nI j29)), (5, .ref oT), (6, .int (nI nT)), (7, .int (nI j53))] dX7_piece_65 (by decide) rfl 67 rfl ?_
                refine vv_aload C dX7_piece_67 0 rfl 69 rfl ?_
                refine vv_aloadN_n C dX7_piece_69 rfl 2 rfl 70 rfl ?_
                refine vv_acmp_null C 105 73 dX7_piece_70 (by decide) rfl ?_
                refine vv_aload_n C dX7_piece_73 rfl 3 rfl 74 rfl ?_
                refine vv_aload C dX7_piece_74 0 rfl 76 rfl ?_
                refine vv_iconst C (v := 0) dX7_piece_76 (by decide) 77 rfl ?_
                refine vs_iald C (r := sg j53) 8 rfl hr_4 (inB_t (by decide)) dX7_piece_77 78 rfl ?_
                obtain ⟨hi, h⟩ := chk_s h
                refine vv_zald C (q0 := 5) rfl hi dX7_piece_78 79 rfl ?_
                refine vv_aload_n C dX7_piece_79 rfl 3 rfl 80 rfl ?_
                refine vv_aload C dX7_piece_80 0 rfl 82 rfl ?_
                refine vv_iconst C (v := 1) dX7_piece_82 (by decide) 83 rfl ?_
                refine vs_iald C (r := sg j53) 8 rfl hr_4 (inB_t (by decide)) dX7_piece_83 84 rfl ?_
                obtain ⟨hi, h⟩ := chk_s h
                refine vv_zald C (q0 := 5) rfl hi dX7_piece_84 85 rfl ?_
                refine vv_icmp_ne C 91 88 dX7_piece_85 (by decide) rfl (fun hc => ?_) (fun hc => ?_)
                · replace h := ite_f hc h
                  refine vv_aload_n C dX7_piece_91 rfl 3 rfl 92 rfl ?_
                  refine vv_aload C dX7_piece_92 0 rfl 94 rfl ?_
                  refine vv_iconst C (v := 0) dX7_piece_94 (by decide) 95 rfl ?_
                  refine vs_iald C (r := sg j53) 8 rfl hr_4 (inB_t (by decide)) dX7_piece_95 96 rfl ?_
                  refine vv_iconst C (v := 1) dX7_piece_96 (by decide) 97 rfl ?_
                  obtain ⟨hi, h⟩ := chk_s h
                  refine vv_zast C (q0 := 5) (List.flatten [sO m0 hour ropes broken windX windY oW oB oT oP, [aR c oW nW (fun i => some (WA i))], [aR c oB nB (fun i => some (BA i))], [aR c oT nT (fun i => some (TA (sg i)))], [aR c oP nP (fun i => some (PA i))], [aZ c q_1 nB (wr fc5_53 (rd (tF (sg j53)) 0) 1)], rowsW c WA nW 7 wF, rowsW c BA nB 9 bF, rowsW c TA nR 4 tF, rowsW c PA nP 2 pF]) rfl hi (by decide) rfl dX7_piece_97 98 rfl ?_
                  refine vv_aload_n C dX7_piece_98 rfl 3 rfl 99 rfl ?_
                  refine vv_aload C dX7_piece_99 0 rfl 101 rfl ?_
                  refine vv_iconst C (v := 1) dX7_piece_101 (by decide) 102 rfl ?_
                  refine vs_iald C (r := sg j53) 8 rfl hr_4 (inB_t (by decide)) dX7_piece_102 103 rfl ?_
                  refine vv_iconst C (v := 1) dX7_piece_103 (by decide) 104 rfl ?_
                  obtain ⟨hi, h⟩ := chk_s h
                  refine vv_zast C (q0 := 5) (List.flatten [sO m0 hour ropes broken windX windY oW oB oT oP, [aR c oW nW (fun i => some (WA i))], [aR c oB nB (fun i => some (BA i))], [aR c oT nT (fun i => some (TA (sg i)))], [aR c oP nP (fun i => some (PA i))], [aZ c q_1 nB (wr (wr fc5_53 (rd (tF (sg j53)) 0) 1) (rd (tF (sg j53)) 1) 1)], rowsW c WA nW 7 wF, rowsW c BA nB 9 bF, rowsW c TA nR 4 tF, rowsW c PA nP 2 pF]) rfl hi (by decide) rfl dX7_piece_104 105 rfl ?_
                  refine vv_iinc C (k := 7) [(7, .int (nI (j53 + 1))), (8, .ref (TA (sg j53))), (0, .ref m0), (2, .null), (3, .ref q_1), (4, .int (nI j29)), (5, .ref oT), (6, .int (nI nT))] dX7_piece_105 rfl nI_inc (by decide) rfl 108 rfl ?_
                  refine vv_goto C 53 dX7_piece_108 (by decide) ?_
                  refine vv_lv [2, 3, 4, 5, 6, 7, 0] [(0, .ref m0), (2, .null), (3, .ref q_1), (4, .int (nI j29)), (5, .ref oT), (6, .int (nI nT)), (7, .int (nI (j53 + 1)))] rfl ?_
                  exact ih53 (j53 + 1) (wr (wr fc5_53 (rd (tF (sg j53)) 0) 1) (rd (tF (sg j53)) 1) 1) _ (by omega) h kk53
                · replace h := ite_t hc h
                  refine vv_goto C 105 dX7_piece_88 (by decide) ?_
                  refine vv_iinc C (k := 7) [(7, .int (nI (j53 + 1))), (8, .ref (TA (sg j53))), (0, .ref m0), (2, .null), (3, .ref q_1), (4, .int (nI j29)), (5, .ref oT), (6, .int (nI nT))] dX7_piece_105 rfl nI_inc (by decide) rfl 108 rfl ?_
                  refine vv_goto C 53 dX7_piece_108 (by decide) ?_
                  refine vv_lv [2, 3, 4, 5, 6, 7, 0] [(0, .ref m0), (2, .null), (3, .ref q_1), (4, .int (nI j29)), (5, .ref oT), (6, .int (nI nT)), (7, .int (nI (j53 + 1)))] rfl ?_
                  exact ih53 (j53 + 1) fc5_53 _ (by omega) h kk53
          obtain ⟨r_5, hr_5, h⟩ := bnd_s h
          refine L53 nT 0 fc5_29 r_5 (Nat.zero_add _) hr_5 ?_
          refine vv_iinc C (k := 3) [(4, .int (nI (j29 + 1))), (0, .ref m0), (2, .null), (3, .ref q_1)] dX7_piece_111 rfl nI_inc (by decide) rfl 114 rfl ?_
          refine vv_goto C 29 dX7_piece_114 (by decide) ?_
          refine vv_lv [1, 2, 3, 0] [(0, .ref m0), (2, .null), (3, .ref q_1), (4, .int (nI (j29 + 1)))] rfl ?_
          exact ih29 (j29 + 1) r_5 _ (by omega) h kk29
    obtain ⟨r_6, hr_6, h⟩ := bnd_s h
    refine L29 nB 0 (wr (fun _ => 0) a1 1) r_6 (Nat.zero_add _) hr_6 ?_
    refine vv_aload_n C dX7_piece_117 rfl 0 rfl 118 rfl ?_
    obtain rfl := Option.some.inj h
    refine vv_widen (k := 1) (n := 24) (by omega) (by omega) ?_
    exact ret q_1 trivial _ _ dX7_piece_118
  · replace h := ite_f hc h
    refine vv_aload_n C dX7_piece_20 rfl 0 rfl 21 rfl ?_
    obtain rfl := Option.some.inj h
    refine vv_widen (k := 1) (n := 24) (by omega) (by omega) ?_
    exact ret q_1 trivial _ _ dX7_piece_21
