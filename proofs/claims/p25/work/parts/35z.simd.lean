abbrev rmX7_pass : Room := { frames := 2, cells := 966, slots := 9480, locals := 54 }
theorem yd_X7_pass : yX7_pass.cls = RX7 ∧ yX7_pass.cls ≠ "java/lang/invoke/MethodHandle" ∧ yX7_pass.cls ≠ "java/lang/invoke/VarHandle" ∧ (parseMethodDescriptor yX7_pass.desc).map (fun d => d.parameters.length) = some 0 := by decide +kernel
theorem kwX7_pass_1 : Cond.fieldLink RX7 19 "BarrelRaftLaw$Sim" "barrels" "[[I" ∈ wsX7_pass := List.mem_of_getElem? (i := 1) rfl
set_option maxRecDepth 20000 in
theorem kinX7_pass_X7 : ∀ w ∈ u_ws RX7 TX7 9, w ∈ wsX7_pass := by decide +kernel
theorem kwX7_pass_2 : Cond.methodLink RX7 49 Lib.Math.min.name ∈ wsX7_pass := List.mem_of_getElem? (i := 2) rfl
theorem kwX7_pass_3 : Cond.static Lib.Math.min.name ∈ wsX7_pass := List.mem_of_getElem? (i := 3) rfl
theorem kwX7_pass_4 : Cond.initialized "java/lang/Math" ∈ wsX7_pass := List.mem_of_getElem? (i := 4) rfl
theorem kwX7_pass_5 : Cond.code Lib.Math.min.name Lib.Math.min.code 2 (some .int) ∈ wsX7_pass := List.mem_of_getElem? (i := 5) rfl
theorem kwX7_pass_6 : Cond.classLink RX7 13 "[I" ∈ wsX7_pass := List.mem_of_getElem? (i := 6) rfl
theorem kwX7_pass_7 : Cond.fieldLink RX7 22 "BarrelRaftLaw$Sim" "ties" "[[I" ∈ wsX7_pass := List.mem_of_getElem? (i := 7) rfl
theorem kwX7_pass_8 : Cond.methodLink RX7 95 Lib.Math.abs.name ∈ wsX7_pass := List.mem_of_getElem? (i := 8) rfl
theorem kwX7_pass_9 : Cond.static Lib.Math.abs.name ∈ wsX7_pass := List.mem_of_getElem? (i := 9) rfl
theorem kwX7_pass_10 : Cond.code Lib.Math.abs.name Lib.Math.abs.code 1 (some .int) ∈ wsX7_pass := List.mem_of_getElem? (i := 10) rfl
theorem kwX7_pass_11 : Cond.fieldLink RX7 39 "BarrelRaftLaw$Sim" "windX" "I" ∈ wsX7_pass := List.mem_of_getElem? (i := 11) rfl
theorem kwX7_pass_12 : Cond.fieldLink RX7 42 "BarrelRaftLaw$Sim" "windY" "I" ∈ wsX7_pass := List.mem_of_getElem? (i := 12) rfl
theorem kwX7_pass_13 : Cond.arrayClass .int ∈ wsX7_pass := List.mem_of_getElem? (i := 13) rfl
theorem kwX7_pass_14 : Cond.fieldLink RX7 33 "BarrelRaftLaw$Sim" "hour" "I" ∈ wsX7_pass := List.mem_of_getElem? (i := 14) rfl
theorem kwX7_pass_15 : Cond.fieldLink RX7 36 "BarrelRaftLaw$Sim" "broken" "I" ∈ wsX7_pass := List.mem_of_getElem? (i := 15) rfl
def jS_pass_L10 (n : Nat) (j10 : Nat) (bF_10 : Nat → Nat → Int32) : Option ((Nat → Nat → Int32)) := match n with
  | 0 => some bF_10
  | n + 1 => (if rd (bF_10 j10) 6 = 0 then jS_pass_L10 n (j10 + 1) (uF bF_10 j10 (wr (bF_10 j10) 4 (mmin 100 ((rd (bF_10 j10) 4) + (rd (bF_10 j10) 3))))) else jS_pass_L10 n (j10 + 1) bF_10)
def jS_pass_L54 (nB : Nat) (nR : Nat) (tF : Nat → Nat → Int32) (nP : Nat) (n : Nat) (j54 : Nat) (nT_54 : Nat) (sg_54 : Nat → Nat) (bF_54 : Nat → Nat → Int32) (pF_54 : Nat → Nat → Int32) : Option (Nat × (Nat → Nat) × (Nat → Nat → Int32) × (Nat → Nat → Int32)) := match n with
  | 0 => some (nT_54, sg_54, bF_54, pF_54)
  | n + 1 => bnd (jS_name nB nT_54 nR sg_54 bF_54 tF (nI j54)) (fun r_3 => (if r_3 = nI j54 then bnd (jS_piece nB nT_54 nR sg_54 bF_54 tF (nI j54)) (fun r_5 => bnd (jS_sum nB nP bF_54 pF_54 nB r_5 2) (fun r_7 => bnd (jS_sum nB nP bF_54 pF_54 nB r_5 1) (fun r_9 => (if r_7 ≤ r_9 then jS_pass_L54 nB nR tF nP n (j54 + 1) nT_54 sg_54 bF_54 pF_54 else bnd (jS_end nB nT_54 nP nR sg_54 bF_54 tF pF_54 nB r_5 1) (fun r_11 => jS_pass_L54 nB nR tF nP n (j54 + 1) r_11.1 r_11.2.1 r_11.2.2.1 r_11.2.2.2))))) else jS_pass_L54 nB nR tF nP n (j54 + 1) nT_54 sg_54 bF_54 pF_54))
def jS_pass_L128 (sg : Nat → Nat) (nW : Nat) (wF : Nat → Nat → Int32) (nB : Nat) (bF : Nat → Nat → Int32) (nR : Nat) (nP : Nat) (pF : Nat → Nat → Int32) (n : Nat) (j128 : Nat) (tF_128 : Nat → Nat → Int32) (v1_128 : Int32) (n2_128 : Nat) (s2_128 : Nat → Nat) : Option ((Nat → Nat → Int32) × Int32 × Nat × (Nat → Nat)) := match n with
  | 0 => some (tF_128, v1_128, n2_128, s2_128)
  | n + 1 => chkP (sg j128 < nR) (chk nB (rd (tF_128 (sg j128)) 0) (chk nB (rd (tF_128 (sg j128)) 0) (bnd (jS_sea nW wF (rd (bF (((rd (tF_128 (sg j128)) 0)).toNatClampNeg)) 7) (rd (bF (((rd (tF_128 (sg j128)) 0)).toNatClampNeg)) 8)) (fun r_18 => bnd (jS_load nB nP bF pF (rd (tF_128 (sg j128)) 0)) (fun r_20 => bnd (jS_load nB nP bF pF (rd (tF_128 (sg j128)) 1)) (fun r_22 => (if (rd r_18 2) + ((mabs (r_20 - r_22)) / 2) ≤ (rd (tF_128 (sg j128)) 2) - (rd (tF_128 (sg j128)) 3) then chkP (∀ i, i < n2_128 → s2_128 i < nR) (chkP (n2_128 < 12) (jS_pass_L128 sg nW wF nB bF nR nP pF n (j128 + 1) (uF tF_128 (sg j128) (wr (tF_128 (sg j128)) 3 ((rd (tF_128 (sg j128)) 3) + (((rd r_18 2) + ((mabs (r_20 - r_22)) / 2)) / 4)))) v1_128 (n2_128 + 1) (uN s2_128 n2_128 (sg j128)))) else jS_pass_L128 sg nW wF nB bF nR nP pF n (j128 + 1) tF_128 (v1_128 + 1) n2_128 s2_128)))))))
def jS_pass_L257 (windX : Int32) (windY : Int32) (nT : Nat) (sg : Nat → Nat) (nc250 : Nat) (nW : Nat) (wF : Nat → Nat → Int32) (nB : Nat) (bF : Nat → Nat → Int32) (nR : Nat) (tF : Nat → Nat → Int32) (nP : Nat) (pF : Nat → Nat → Int32) (n : Nat) (j257 : Nat) (nX_257 : Nat) (xF_257 : Nat → Nat → Int32) (sc250_257 : Nat → Option Nat) : Option (Nat × (Nat → Nat → Int32) × (Nat → Option Nat)) := match n with
  | 0 => some (nX_257, xF_257, sc250_257)
  | n + 1 => (if rd (bF j257) 6 ≤ 0 then bnd (jS_piece nB nT nR sg bF tF (nI j257)) (fun r_31 => bnd (jS_sea nW wF (rd (bF j257) 7) (rd (bF j257) 8)) (fun r_35 => bnd (jS_sum nB nP bF pF nB r_31 2) (fun r_37 => bnd (jS_sum nB nP bF pF nB r_31 1) (fun r_39 => jn (fun (x342 : Int32) => jn (fun (x372 : Int32) => jn (fun (x403 : Int32) => jn (fun (x437 : Int32) => (if 0 ≤ ((rd (bF j257) 8) + (rd r_35 1)) + x403 then (if ((rd (bF j257) 8) + (rd r_35 1)) + x403 ≤ 19 then chkP (∀ i, i < nc250 → ((sc250_257 i).all (fun r => decide (r < nX_257))) = true) (jS_pass_L257 windX windY nT sg nc250 nW wF nB bF nR tF nP pF n (j257 + 1) (nX_257 + 1) (uF xF_257 nX_257 (wr (wr (fun _ => 0) 0 x437) 1 (((rd (bF j257) 8) + (rd r_35 1)) + x403))) (uO sc250_257 j257 nX_257)) else chkP (∀ i, i < nc250 → ((sc250_257 i).all (fun r => decide (r < nX_257))) = true) (jS_pass_L257 windX windY nT sg nc250 nW wF nB bF nR tF nP pF n (j257 + 1) (nX_257 + 1) (uF xF_257 nX_257 (wr (wr (fun _ => 0) 0 x437) 1 19)) (uO sc250_257 j257 nX_257))) else chkP (∀ i, i < nc250 → ((sc250_257 i).all (fun r => decide (r < nX_257))) = true) (jS_pass_L257 windX windY nT sg nc250 nW wF nB bF nR tF nP pF n (j257 + 1) (nX_257 + 1) (uF xF_257 nX_257 (wr (wr (fun _ => 0) 0 x437) 1 0)) (uO sc250_257 j257 nX_257)))) (fun k437 => (if 0 ≤ ((rd (bF j257) 7) + (rd r_35 0)) + x372 then (if ((rd (bF j257) 7) + (rd r_35 0)) + x372 ≤ 29 then k437 (((rd (bF j257) 7) + (rd r_35 0)) + x372) else k437 29) else k437 0))) (fun k403 => (if x342 = 0 then k403 0 else k403 windY))) (fun k372 => (if x342 = 0 then k372 0 else k372 windX))) (fun k342 => (if r_39 ≤ 2 * r_37 then k342 0 else k342 1)))))) else jS_pass_L257 windX windY nT sg nc250 nW wF nB bF nR tF nP pF n (j257 + 1) nX_257 xF_257 sc250_257)
def jS_pass_L474 (sc250 : Nat → Option Nat) (nX : Nat) (xF : Nat → Nat → Int32) (n : Nat) (j474 : Nat) (bF_474 : Nat → Nat → Int32) : Option ((Nat → Nat → Int32)) := match n with
  | 0 => some bF_474
  | n + 1 => (if sc250 j474 = none then jS_pass_L474 sc250 nX xF n (j474 + 1) bF_474 else bnd (sc250 j474) (fun o_49 => chkP (o_49 < nX) (bnd (sc250 j474) (fun o_52 => chkP (o_52 < nX) (jS_pass_L474 sc250 nX xF n (j474 + 1) (uF (uF bF_474 j474 (wr (bF_474 j474) 7 (rd (xF o_49) 0))) j474 (wr ((uF bF_474 j474 (wr (bF_474 j474) 7 (rd (xF o_49) 0))) j474) 8 (rd (xF o_52) 1))))))))
def jS_pass_L535 (nB : Nat) (nR : Nat) (tF : Nat → Nat → Int32) (nP : Nat) (n : Nat) (j535 : Nat) (nT_535 : Nat) (sg_535 : Nat → Nat) (bF_535 : Nat → Nat → Int32) (pF_535 : Nat → Nat → Int32) : Option (Nat × (Nat → Nat) × (Nat → Nat → Int32) × (Nat → Nat → Int32)) := match n with
  | 0 => some (nT_535, sg_535, bF_535, pF_535)
  | n + 1 => (if rd (bF_535 j535) 6 = 0 then (if rd (bF_535 j535) 7 = 29 then bnd (jS_piece nB nT_535 nR sg_535 bF_535 tF (nI j535)) (fun r_57 => bnd (jS_end nB nT_535 nP nR sg_535 bF_535 tF pF_535 nB r_57 2) (fun r_59 => jS_pass_L535 nB nR tF nP n (j535 + 1) r_59.1 r_59.2.1 r_59.2.2.1 r_59.2.2.2)) else jS_pass_L535 nB nR tF nP n (j535 + 1) nT_535 sg_535 bF_535 pF_535) else jS_pass_L535 nB nR tF nP n (j535 + 1) nT_535 sg_535 bF_535 pF_535)
def jS_pass (hour : Int32) (broken : Int32) (windX : Int32) (windY : Int32) (nW : Nat) (nB : Nat) (nT : Nat) (nP : Nat) (nR : Nat) (sg : Nat → Nat) (wF : Nat → Nat → Int32) (bF : Nat → Nat → Int32) (tF : Nat → Nat → Int32) (pF : Nat → Nat → Int32) : Option (Int32 × Int32 × Int32 × Nat × (Nat → Nat) × (Nat → Nat → Int32) × (Nat → Nat → Int32) × (Nat → Nat → Int32)) := chkP (nB ≤ 24) (bnd (jS_pass_L10 nB 0 bF) (fun r_2 => chkP (nB ≤ 24) (bnd (jS_pass_L54 nB nR tF nP nB 0 nT sg r_2 pF) (fun r_13 => chkP (r_13.1 ≤ 10) (bnd (jS_pass_L128 r_13.2.1 nW wF nB r_13.2.2.1 nR nP r_13.2.2.2 r_13.1 0 tF 0 0 (fun _ => 0)) (fun r_27 => chkP (nB ≤ 24) (chkP (nB ≤ 24) (bnd (jS_pass_L257 windX windY r_27.2.2.1 r_27.2.2.2 nB nW wF nB r_13.2.2.1 nR r_27.1 nP r_13.2.2.2 nB 0 0 (fun _ _ => 0) (fun _ => none)) (fun r_47 => chkP (nB ≤ 24) (bnd (jS_pass_L474 r_47.2.2 r_47.1 r_47.2.1 nB 0 r_13.2.2.1) (fun r_54 => chkP (nB ≤ 24) (bnd (jS_pass_L535 nB nR r_27.1 nP nB 0 r_27.2.2.1 r_27.2.2.2 r_54 r_13.2.2.2) (fun r_61 => some (r_27.2.1, hour + 1, broken + r_27.2.1, r_61.1, r_61.2.1, r_61.2.2.1, r_27.1, r_61.2.2.2))))))))))))))
set_option maxHeartbeats 40000000 in
set_option maxRecDepth 100000 in
theorem mt_X7_pass (l : Launch) (D : va_G) (c : Nat → ClassId) (m0 oW oB oT oP : Nat) (WA BA TA PA : Nat → Nat) (hour : Int32) (ropes : Int32) (broken : Int32) (windX : Int32) (windY : Int32) (nW : Nat) (nB : Nat) (nT : Nat) (nP : Nat) (nR : Nat) (sg : Nat → Nat) (wF : Nat → Nat → Int32) (bF : Nat → Nat → Int32) (tF : Nat → Nat → Int32) (pF : Nat → Nat → Int32) (q0 : Int32 × Int32 × Int32 × Nat × (Nat → Nat) × (Nat → Nat → Int32) × (Nat → Nat → Int32) × (Nat → Nat → Int32)) (h : jS_pass hour broken windX windY nW nB nT nP nR sg wF bF tF pF = some q0) : MJi l yX7_pass wsX7_pass rmX7_pass D c (List.flatten [sO m0 hour ropes broken windX windY oW oB oT oP, [aR c oW nW (fun i => some (WA i))], [aR c oB nB (fun i => some (BA i))], [aR c oT nT (fun i => some (TA (sg i)))], [aR c oP nP (fun i => some (PA i))], rowsW c WA nW 7 wF, rowsW c BA nB 9 bF, rowsW c TA nR 4 tF, rowsW c PA nP 2 pF]) [.ref m0] (fun (r : Int32) (_ : Nat) => r = q0.1) (fun u => (List.flatten [sO m0 q0.2.1 ropes q0.2.2.1 windX windY oW oB u oP, [aR c oW nW (fun i => some (WA i))], [aR c oB nB (fun i => some (BA i))], [aR c u q0.2.2.2.1 (fun i => some (TA (q0.2.2.2.2.1 i)))], [aR c oP nP (fun i => some (PA i))], rowsW c WA nW 7 wF, rowsW c BA nB 9 q0.2.2.2.2.2.1, rowsW c TA nR 4 q0.2.2.2.2.2.2.1, rowsW c PA nP 2 q0.2.2.2.2.2.2.2])) 966 9480 := by
  refine MJi_of (cc := cX7_pass) (nL := 10) RX7 rfl (by decide) rfl (Nat.le_of_ble_eq_true rfl) (fun g C ret => ?_)
  unfold jS_pass at h
  refine vv_lv [0] [(0, .ref m0)] rfl ?_
  refine vv_aload_n C dX7_pass_0 rfl 0 rfl 1 rfl ?_
  refine vv_get C (q0 := 0) (ci := 7) (k := 6) kinX7_pass_X7 rfl rfl (by decide) kwX7_pass_1 rfl rfl dX7_pass_1 4 rfl ?_
  refine vv_astore_n C [(1, .ref oB), (0, .ref m0)] dX7_pass_4 rfl (by decide) rfl 5 rfl ?_
  refine vv_aload_n C dX7_pass_5 rfl 0 rfl 6 rfl ?_
  refine vs_alenR C (q0 := 2) rfl dX7_pass_6 7 rfl ?_
  refine vv_istore_n C [(2, .int (nI nB)), (1, .ref oB), (0, .ref m0)] dX7_pass_7 rfl (by decide) rfl 8 rfl ?_
  refine vv_iconst C (v := 0) dX7_pass_8 (by decide) 9 rfl ?_
  refine vv_istore_n C [(3, .int 0), (2, .int (nI nB)), (1, .ref oB), (0, .ref m0)] dX7_pass_9 rfl (by decide) rfl 10 rfl ?_
  refine vv_lv [3, 2, 1, 0] [(0, .ref m0), (1, .ref oB), (2, .int (nI nB)), (3, .int 0)] rfl ?_
  obtain ⟨hN10, h⟩ := chkP_s h
  have L10 : ∀ (n j10 : Nat) (bF_10 : Nat → Nat → Int32) (q10 : (Nat → Nat → Int32)), j10 + n = nB → jS_pass_L10 n j10 bF_10 = some q10 → (VV g D 10 0 0 (List.flatten [sO m0 hour ropes broken windX windY oW oB oT oP, [aR c oW nW (fun i => some (WA i))], [aR c oB nB (fun i => some (BA i))], [aR c oT nT (fun i => some (TA (sg i)))], [aR c oP nP (fun i => some (PA i))], rowsW c WA nW 7 wF, rowsW c BA nB 9 q10, rowsW c TA nR 4 tF, rowsW c PA nP 2 pF]) [(0, .ref m0)] 52 []) → VV g D 10 0 0 (List.flatten [sO m0 hour ropes broken windX windY oW oB oT oP, [aR c oW nW (fun i => some (WA i))], [aR c oB nB (fun i => some (BA i))], [aR c oT nT (fun i => some (TA (sg i)))], [aR c oP nP (fun i => some (PA i))], rowsW c WA nW 7 wF, rowsW c BA nB 9 bF_10, rowsW c TA nR 4 tF, rowsW c PA nP 2 pF]) [(0, .ref m0), (1, .ref oB), (2, .int (nI nB)), (3, .int (nI j10))] 10 [] := by
    intro n
    induction n with
    | zero =>
      intro j10 bF_10 q10 hj10 h kk10
      rw [jS_pass_L10] at h
      refine vv_iload_n C dX7_pass_10 rfl 3 rfl 11 rfl ?_
      refine vv_iload_n C dX7_pass_11 rfl 2 rfl 12 rfl ?_
      refine vv_icmp_ge C 52 15 dX7_pass_12 (by decide) rfl (fun hc => ?_) (fun hc => ?_)
      · refine vv_lv [0] [(0, .ref m0)] rfl ?_
        obtain rfl := Option.some.inj h
        exact kk10 
      · exact absurd (nI_le (show nB ≤ j10 by omega) (by omega)) hc
    | succ n ih10 =>
      intro j10 bF_10 q10 hj10 h kk10
      rw [jS_pass_L10] at h
      refine vv_iload_n C dX7_pass_10 rfl 3 rfl 11 rfl ?_
      refine vv_iload_n C dX7_pass_11 rfl 2 rfl 12 rfl ?_
      refine vv_icmp_ge C 52 15 dX7_pass_12 (by decide) rfl (fun hc => ?_) (fun hc => ?_)
      · exact absurd hc (nI_ge (show j10 < nB by omega) (by omega))
      · refine vv_aload_n C dX7_pass_15 rfl 1 rfl 16 rfl ?_
        refine vv_iload_n C dX7_pass_16 rfl 3 rfl 17 rfl ?_
        refine vs_aald C (q0 := 2) (k := j10) rfl (nI_in (show j10 < nB by omega) (by omega)) (nI_clamp (show j10 < 2 ^ 31 by omega)) dX7_pass_17 18 rfl ?_
        refine vv_eq (st' := [.ref (BA j10)]) rfl rfl rfl ?_
        refine vv_astore C [(4, .ref (BA j10)), (0, .ref m0), (1, .ref oB), (2, .int (nI nB)), (3, .int (nI j10))] dX7_pass_18 (by decide) rfl 20 rfl ?_
        refine vv_aload C dX7_pass_20 0 rfl 22 rfl ?_
        refine vv_bipush C (v := 6) dX7_pass_22 (by decide) 24 rfl ?_
        refine vs_iald C (r := j10) 6 rfl (show j10 < nB by omega) (inB_t (by decide)) dX7_pass_24 25 rfl ?_
        refine vv_if_ne C 46 28 dX7_pass_25 (by decide) rfl (fun hc => ?_) (fun hc => ?_)
        · replace h := ite_f hc h
          refine vv_iinc C (k := 4) [(3, .int (nI (j10 + 1))), (4, .ref (BA j10)), (0, .ref m0), (1, .ref oB), (2, .int (nI nB))] dX7_pass_46 rfl nI_inc (by decide) rfl 49 rfl ?_
          refine vv_goto C 10 dX7_pass_49 (by decide) ?_
          refine vv_lv [2, 3, 4, 0] [(0, .ref m0), (1, .ref oB), (2, .int (nI nB)), (3, .int (nI (j10 + 1)))] rfl ?_
          exact ih10 (j10 + 1) bF_10 _ (by omega) h kk10
        · replace h := ite_t hc h
          refine vv_aload C dX7_pass_28 0 rfl 30 rfl ?_
          refine vv_iconst C (v := 4) dX7_pass_30 (by decide) 31 rfl ?_
          refine vv_bipush C (v := 100) dX7_pass_31 (by decide) 33 rfl ?_
          refine vv_aload C dX7_pass_33 0 rfl 35 rfl ?_
          refine vv_iconst C (v := 4) dX7_pass_35 (by decide) 36 rfl ?_
          refine vs_iald C (r := j10) 6 rfl (show j10 < nB by omega) (inB_t (by decide)) dX7_pass_36 37 rfl ?_
          refine vv_aload C dX7_pass_37 0 rfl 39 rfl ?_
          refine vv_iconst C (v := 3) dX7_pass_39 (by decide) 40 rfl ?_
          refine vs_iald C (r := j10) 6 rfl (show j10 < nB by omega) (inB_t (by decide)) dX7_pass_40 41 rfl ?_
          refine vv_iadd C dX7_pass_41 42 rfl ?_
          refine vv_mmin C kwX7_pass_2 kwX7_pass_3 kwX7_pass_4 kwX7_pass_5 ⟨Nat.le_of_ble_eq_true rfl, Nat.le_of_ble_eq_true rfl⟩ ⟨Nat.le_of_ble_eq_true rfl, Nat.le_of_ble_eq_true rfl⟩ dX7_pass_42 45 rfl ?_
          refine vs_iast C (r := j10) [sO m0 hour ropes broken windX windY oW oB oT oP, [aR c oW nW (fun i => some (WA i))], [aR c oB nB (fun i => some (BA i))], [aR c oT nT (fun i => some (TA (sg i)))], [aR c oP nP (fun i => some (PA i))], rowsW c WA nW 7 wF, rowsW c BA nB 9 (uF bF_10 j10 (wr (bF_10 j10) 4 (mmin 100 ((rd (bF_10 j10) 4) + (rd (bF_10 j10) 3))))), rowsW c TA nR 4 tF, rowsW c PA nP 2 pF] 6 rfl (show j10 < nB by omega) (inB_t (by decide)) rfl dX7_pass_45 46 rfl ?_
          refine vv_iinc C (k := 4) [(3, .int (nI (j10 + 1))), (4, .ref (BA j10)), (0, .ref m0), (1, .ref oB), (2, .int (nI nB))] dX7_pass_46 rfl nI_inc (by decide) rfl 49 rfl ?_
          refine vv_goto C 10 dX7_pass_49 (by decide) ?_
          refine vv_lv [2, 3, 4, 0] [(0, .ref m0), (1, .ref oB), (2, .int (nI nB)), (3, .int (nI (j10 + 1)))] rfl ?_
          exact ih10 (j10 + 1) (uF bF_10 j10 (wr (bF_10 j10) 4 (mmin 100 ((rd (bF_10 j10) 4) + (rd (bF_10 j10) 3))))) _ (by omega) h kk10
  obtain ⟨r_2, hr_2, h⟩ := bnd_s h
  refine L10 nB 0 bF r_2 (Nat.zero_add _) hr_2 ?_
  refine vv_iconst C (v := 0) dX7_pass_52 (by decide) 53 rfl ?_
  refine vv_istore_n C [(1, .int 0), (0, .ref m0)] dX7_pass_53 rfl (by decide) rfl 54 rfl ?_
  refine vv_lv [1, 0] [(0, .ref m0), (1, .int 0)] rfl ?_
  obtain ⟨hN54, h⟩ := chkP_s h
  have L54 : ∀ (n j54 : Nat) (oT_54 : Nat) (nT_54 : Nat) (sg_54 : Nat → Nat) (bF_54 : Nat → Nat → Int32) (pF_54 : Nat → Nat → Int32) (q54 : Nat × (Nat → Nat) × (Nat → Nat → Int32) × (Nat → Nat → Int32)), j54 + n = nB → jS_pass_L54 nB nR tF nP n j54 nT_54 sg_54 bF_54 pF_54 = some q54 → (∀ (oT_54e : Nat), VV g D 10 (0 + nB * 13) (0 + nB * 168) (List.flatten [sO m0 hour ropes broken windX windY oW oB oT_54e oP, [aR c oW nW (fun i => some (WA i))], [aR c oB nB (fun i => some (BA i))], [aR c oT_54e q54.1 (fun i => some (TA (q54.2.1 i)))], [aR c oP nP (fun i => some (PA i))], rowsW c WA nW 7 wF, rowsW c BA nB 9 q54.2.2.1, rowsW c TA nR 4 tF, rowsW c PA nP 2 q54.2.2.2]) [(0, .ref m0)] 109 []) → VV g D 10 (0 + j54 * 13) (0 + j54 * 168) (List.flatten [sO m0 hour ropes broken windX windY oW oB oT_54 oP, [aR c oW nW (fun i => some (WA i))], [aR c oB nB (fun i => some (BA i))], [aR c oT_54 nT_54 (fun i => some (TA (sg_54 i)))], [aR c oP nP (fun i => some (PA i))], rowsW c WA nW 7 wF, rowsW c BA nB 9 bF_54, rowsW c TA nR 4 tF, rowsW c PA nP 2 pF_54]) [(0, .ref m0), (1, .int (nI j54))] 54 [] := by
    intro n
    induction n with
    | zero =>
      intro j54 oT_54 nT_54 sg_54 bF_54 pF_54 q54 hj54 h kk54
      rw [jS_pass_L54] at h
      refine vv_iload_n C dX7_pass_54 rfl 1 rfl 55 rfl ?_
      refine vv_aload_n C dX7_pass_55 rfl 0 rfl 56 rfl ?_
      refine vv_get C (q0 := 0) (ci := 7) (k := 6) kinX7_pass_X7 rfl rfl (by decide) kwX7_pass_1 rfl rfl dX7_pass_56 59 rfl ?_
      refine vs_alenR C (q0 := 2) rfl dX7_pass_59 60 rfl ?_
      refine vv_icmp_ge C 109 63 dX7_pass_60 (by decide) rfl (fun hc => ?_) (fun hc => ?_)
      · refine vv_lv [0] [(0, .ref m0)] rfl ?_
        refine vv_widen (k := 0 + nB * 13) (n := 0 + nB * 168) (by omega) (by omega) ?_
        obtain rfl := Option.some.inj h
        exact kk54 oT_54
      · exact absurd (nI_le (show nB ≤ j54 by omega) (by omega)) hc
    | succ n ih54 =>
      intro j54 oT_54 nT_54 sg_54 bF_54 pF_54 q54 hj54 h kk54
      rw [jS_pass_L54] at h
      refine vv_iload_n C dX7_pass_54 rfl 1 rfl 55 rfl ?_
      refine vv_aload_n C dX7_pass_55 rfl 0 rfl 56 rfl ?_
      refine vv_get C (q0 := 0) (ci := 7) (k := 6) kinX7_pass_X7 rfl rfl (by decide) kwX7_pass_1 rfl rfl dX7_pass_56 59 rfl ?_
      refine vs_alenR C (q0 := 2) rfl dX7_pass_59 60 rfl ?_
      refine vv_icmp_ge C 109 63 dX7_pass_60 (by decide) rfl (fun hc => ?_) (fun hc => ?_)
      · exact absurd hc (nI_ge (show j54 < nB by omega) (by omega))
      · refine vv_aload_n C dX7_pass_63 rfl 0 rfl 64 rfl ?_
        refine vv_iload_n C dX7_pass_64 rfl 1 rfl 65 rfl ?_
        obtain ⟨r_3, hr_3, h⟩ := bnd_s h
        refine vs_callVi C (S := Unit) (fun l => mt_X7_name l D c m0 oW oB oT_54 oP WA BA TA PA hour ropes broken windX windY nW nB nT_54 nP nR sg_54 wF bF_54 tF pF_54 (nI j54) r_3 hr_3) gX7_pass_X7_name rfl rfl rfl yd_X7_name ⟨Nat.le_of_ble_eq_true rfl, Nat.le_of_ble_eq_true rfl⟩ (List.flatten []) (sg_pick2 [] [0, 1, 2, 3, 4, 5, 6, 7, 8] rfl rfl (pm_of (N := 9) rfl (by decide +kernel))) 0 rfl rfl rfl [] rfl (Nat.le_of_ble_eq_true rfl) ⟨show (0 + j54 * 13) + 1 ≤ 966 by omega, show (0 + j54 * 168) + 24 ≤ 9480 by omega⟩ dX7_pass_65 68 ((0 + j54 * 13) + 1) ((0 + j54 * 168) + 24) rfl ⟨by omega, by omega⟩ (fun _ u_4 hu => ?_)
        rw [hu]
        refine vs_app ?_
        refine vv_seg [0, 1, 2, 3, 4, 5, 6, 7, 8] [] [sO m0 hour ropes broken windX windY oW oB oT_54 oP, [aR c oW nW (fun i => some (WA i))], [aR c oB nB (fun i => some (BA i))], [aR c oT_54 nT_54 (fun i => some (TA (sg_54 i)))], [aR c oP nP (fun i => some (PA i))], rowsW c WA nW 7 wF, rowsW c BA nB 9 bF_54, rowsW c TA nR 4 tF, rowsW c PA nP 2 pF_54] rfl (pm_of (N := 9) rfl (by decide +kernel)) ?_
        refine vv_iload_n C dX7_pass_68 rfl 1 rfl 69 rfl ?_
        refine vv_icmp_eq C 75 72 dX7_pass_69 (by decide) rfl (fun hc => ?_) (fun hc => ?_)
        · replace h := ite_t hc h
          refine vv_aload_n C dX7_pass_75 rfl 0 rfl 76 rfl ?_
          refine vv_iload_n C dX7_pass_76 rfl 1 rfl 77 rfl ?_
          refine vv_null C dX7_pass_77 78 rfl ?_
          obtain ⟨r_5, hr_5, h⟩ := bnd_s h
          refine vs_callVq C (S := Nat) (fun l => mt_X7_piece l D c m0 oW oB oT_54 oP WA BA TA PA hour ropes broken windX windY nW nB nT_54 nP nR sg_54 wF bF_54 tF pF_54 (nI j54) r_5 hr_5) gX7_pass_X7_piece rfl rfl rfl yd_X7_piece ⟨Nat.le_of_ble_eq_true rfl, Nat.le_of_ble_eq_true rfl⟩ (List.flatten []) (sg_pick2 [] [0, 1, 2, 3, 4, 5, 6, 7, 8] rfl rfl (pm_of (N := 9) rfl (by decide +kernel))) 0 rfl rfl rfl [] rfl (Nat.le_of_ble_eq_true rfl) ⟨show ((0 + j54 * 13) + 1) + 1 ≤ 966 by omega, show ((0 + j54 * 168) + 24) + 24 ≤ 9480 by omega⟩ dX7_pass_78 81 ((0 + j54 * 13) + 2) ((0 + j54 * 168) + 48) rfl ⟨by omega, by omega⟩ (fun u_6 _ => ?_)
          refine vs_app ?_
          refine vv_seg [0, 1, 2, 3, 4, 5, 6, 7, 8, 9] [] [sO m0 hour ropes broken windX windY oW oB oT_54 oP, [aR c oW nW (fun i => some (WA i))], [aR c oB nB (fun i => some (BA i))], [aR c oT_54 nT_54 (fun i => some (TA (sg_54 i)))], [aR c oP nP (fun i => some (PA i))], [aZ c u_6 nB r_5], rowsW c WA nW 7 wF, rowsW c BA nB 9 bF_54, rowsW c TA nR 4 tF, rowsW c PA nP 2 pF_54] rfl (pm_of (N := 10) rfl (by decide +kernel)) ?_
          refine vv_astore_n C [(2, .ref u_6), (0, .ref m0), (1, .int (nI j54))] dX7_pass_81 rfl (by decide) rfl 82 rfl ?_
          refine vv_aload_n C dX7_pass_82 rfl 1 rfl 83 rfl ?_
          refine vv_aload_n C dX7_pass_83 rfl 0 rfl 84 rfl ?_
          refine vv_iconst C (v := 2) dX7_pass_84 (by decide) 85 rfl ?_
          obtain ⟨r_7, hr_7, h⟩ := bnd_s h
          refine vs_callVi C (S := Unit) (fun l => mt_X7_sum l D c m0 oW oB oT_54 oP WA BA TA PA hour ropes broken windX windY nW nB nT_54 nP nR sg_54 wF bF_54 tF pF_54 u_6 nB r_5 2 r_7 hr_7) gX7_pass_X7_sum rfl rfl rfl yd_X7_sum ⟨Nat.le_of_ble_eq_true rfl, Nat.le_of_ble_eq_true rfl⟩ (List.flatten []) (sg_pick2 [] [0, 1, 2, 3, 4, 5, 6, 7, 8, 9] rfl rfl (pm_of (N := 10) rfl (by decide +kernel))) 0 rfl rfl rfl [] rfl (Nat.le_of_ble_eq_true rfl) ⟨show ((0 + j54 * 13) + 2) + 0 ≤ 966 by omega, show ((0 + j54 * 168) + 48) + 0 ≤ 9480 by omega⟩ dX7_pass_85 88 ((0 + j54 * 13) + 2) ((0 + j54 * 168) + 48) rfl ⟨by omega, by omega⟩ (fun _ u_8 hu => ?_)
          rw [hu]
          refine vs_app ?_
          refine vv_seg [0, 1, 2, 3, 4, 5, 6, 7, 8, 9] [] [sO m0 hour ropes broken windX windY oW oB oT_54 oP, [aR c oW nW (fun i => some (WA i))], [aR c oB nB (fun i => some (BA i))], [aR c oT_54 nT_54 (fun i => some (TA (sg_54 i)))], [aR c oP nP (fun i => some (PA i))], [aZ c u_6 nB r_5], rowsW c WA nW 7 wF, rowsW c BA nB 9 bF_54, rowsW c TA nR 4 tF, rowsW c PA nP 2 pF_54] rfl (pm_of (N := 10) rfl (by decide +kernel)) ?_
          refine vv_aload_n C dX7_pass_88 rfl 1 rfl 89 rfl ?_
          refine vv_aload_n C dX7_pass_89 rfl 0 rfl 90 rfl ?_
          refine vv_iconst C (v := 1) dX7_pass_90 (by decide) 91 rfl ?_
          obtain ⟨r_9, hr_9, h⟩ := bnd_s h
          refine vs_callVi C (S := Unit) (fun l => mt_X7_sum l D c m0 oW oB oT_54 oP WA BA TA PA hour ropes broken windX windY nW nB nT_54 nP nR sg_54 wF bF_54 tF pF_54 u_6 nB r_5 1 r_9 hr_9) gX7_pass_X7_sum rfl rfl rfl yd_X7_sum ⟨Nat.le_of_ble_eq_true rfl, Nat.le_of_ble_eq_true rfl⟩ (List.flatten []) (sg_pick2 [] [0, 1, 2, 3, 4, 5, 6, 7, 8, 9] rfl rfl (pm_of (N := 10) rfl (by decide +kernel))) 0 rfl rfl rfl [.int r_7] rfl (Nat.le_of_ble_eq_true rfl) ⟨show ((0 + j54 * 13) + 2) + 0 ≤ 966 by omega, show ((0 + j54 * 168) + 48) + 0 ≤ 9480 by omega⟩ dX7_pass_91 94 ((0 + j54 * 13) + 2) ((0 + j54 * 168) + 48) rfl ⟨by omega, by omega⟩ (fun _ u_10 hu => ?_)
          rw [hu]
          refine vs_app ?_
          refine vv_seg [0, 1, 2, 3, 4, 5, 6, 7, 8, 9] [] [sO m0 hour ropes broken windX windY oW oB oT_54 oP, [aR c oW nW (fun i => some (WA i))], [aR c oB nB (fun i => some (BA i))], [aR c oT_54 nT_54 (fun i => some (TA (sg_54 i)))], [aR c oP nP (fun i => some (PA i))], [aZ c u_6 nB r_5], rowsW c WA nW 7 wF, rowsW c BA nB 9 bF_54, rowsW c TA nR 4 tF, rowsW c PA nP 2 pF_54] rfl (pm_of (N := 10) rfl (by decide +kernel)) ?_
          refine vv_icmp_le C 103 97 dX7_pass_94 (by decide) rfl (fun hc => ?_) (fun hc => ?_)
          · replace h := ite_t hc h
            refine vv_iinc C (k := 2) [(1, .int (nI (j54 + 1))), (2, .ref u_6), (0, .ref m0)] dX7_pass_103 rfl nI_inc (by decide) rfl 106 rfl ?_
            refine vv_goto C 54 dX7_pass_106 (by decide) ?_
            refine vv_lv [2, 0] [(0, .ref m0), (1, .int (nI (j54 + 1)))] rfl ?_
            refine vv_seg [0, 1, 2, 3, 4, 6, 7, 8, 9] [5] [sO m0 hour ropes broken windX windY oW oB oT_54 oP, [aR c oW nW (fun i => some (WA i))], [aR c oB nB (fun i => some (BA i))], [aR c oT_54 nT_54 (fun i => some (TA (sg_54 i)))], [aR c oP nP (fun i => some (PA i))], rowsW c WA nW 7 wF, rowsW c BA nB 9 bF_54, rowsW c TA nR 4 tF, rowsW c PA nP 2 pF_54] rfl (pm_of (N := 10) rfl (by decide +kernel)) ?_
            refine vv_widen (k := 0 + (j54 + 1) * 13) (n := 0 + (j54 + 1) * 168) (by omega) (by omega) ?_
            exact ih54 (j54 + 1) oT_54 nT_54 sg_54 bF_54 pF_54 _ (by omega) h kk54
          · replace h := ite_f hc h
            refine vv_aload_n C dX7_pass_97 rfl 1 rfl 98 rfl ?_
            refine vv_aload_n C dX7_pass_98 rfl 0 rfl 99 rfl ?_
            refine vv_iconst C (v := 1) dX7_pass_99 (by decide) 100 rfl ?_
            obtain ⟨r_11, hr_11, h⟩ := bnd_s h
            refine vs_callVv C (S := Nat) (fun l => mt_X7_end l D c m0 oW oB oT_54 oP WA BA TA PA hour ropes broken windX windY nW nB nT_54 nP nR sg_54 wF bF_54 tF pF_54 u_6 nB r_5 1 r_11 hr_11) gX7_pass_X7_end rfl rfl rfl yd_X7_end ⟨Nat.le_of_ble_eq_true rfl, Nat.le_of_ble_eq_true rfl⟩ (List.flatten []) (sg_pick2 [] [0, 1, 2, 3, 4, 5, 6, 7, 8, 9] rfl rfl (pm_of (N := 10) rfl (by decide +kernel))) 0 rfl rfl rfl [] rfl (Nat.le_of_ble_eq_true rfl) ⟨show ((0 + j54 * 13) + 2) + 11 ≤ 966 by omega, show ((0 + j54 * 168) + 48) + 120 ≤ 9480 by omega⟩ dX7_pass_100 103 ((0 + j54 * 13) + 13) ((0 + j54 * 168) + 168) rfl ⟨by omega, by omega⟩ (fun u_12 _ => ?_)
            refine vs_app ?_
            refine vv_seg [0, 1, 2, 3, 4, 5, 6, 7, 8, 9] [] [sO m0 hour ropes broken windX windY oW oB u_12 oP, [aR c oW nW (fun i => some (WA i))], [aR c oB nB (fun i => some (BA i))], [aR c u_12 r_11.1 (fun i => some (TA (r_11.2.1 i)))], [aR c oP nP (fun i => some (PA i))], [aZ c u_6 nB r_5], rowsW c WA nW 7 wF, rowsW c BA nB 9 r_11.2.2.1, rowsW c TA nR 4 tF, rowsW c PA nP 2 r_11.2.2.2] rfl (pm_of (N := 10) rfl (by decide +kernel)) ?_
            refine vv_iinc C (k := 2) [(1, .int (nI (j54 + 1))), (2, .ref u_6), (0, .ref m0)] dX7_pass_103 rfl nI_inc (by decide) rfl 106 rfl ?_
            refine vv_goto C 54 dX7_pass_106 (by decide) ?_
            refine vv_lv [2, 0] [(0, .ref m0), (1, .int (nI (j54 + 1)))] rfl ?_
            refine vv_seg [0, 1, 2, 3, 4, 6, 7, 8, 9] [5] [sO m0 hour ropes broken windX windY oW oB u_12 oP, [aR c oW nW (fun i => some (WA i))], [aR c oB nB (fun i => some (BA i))], [aR c u_12 r_11.1 (fun i => some (TA (r_11.2.1 i)))], [aR c oP nP (fun i => some (PA i))], rowsW c WA nW 7 wF, rowsW c BA nB 9 r_11.2.2.1, rowsW c TA nR 4 tF, rowsW c PA nP 2 r_11.2.2.2] rfl (pm_of (N := 10) rfl (by decide +kernel)) ?_
            refine vv_widen (k := 0 + (j54 + 1) * 13) (n := 0 + (j54 + 1) * 168) (by omega) (by omega) ?_
            exact ih54 (j54 + 1) u_12 r_11.1 r_11.2.1 r_11.2.2.1 r_11.2.2.2 _ (by omega) h kk54
        · replace h := ite_f hc h
          refine vv_goto C 103 dX7_pass_72 (by decide) ?_
          refine vv_iinc C (k := 1) [(1, .int (nI (j54 + 1))), (0, .ref m0)] dX7_pass_103 rfl nI_inc (by decide) rfl 106 rfl ?_
          refine vv_goto C 54 dX7_pass_106 (by decide) ?_
          refine vv_lv [1, 0] [(0, .ref m0), (1, .int (nI (j54 + 1)))] rfl ?_
          refine vv_widen (k := 0 + (j54 + 1) * 13) (n := 0 + (j54 + 1) * 168) (by omega) (by omega) ?_
          exact ih54 (j54 + 1) oT_54 nT_54 sg_54 bF_54 pF_54 _ (by omega) h kk54
  obtain ⟨r_13, hr_13, h⟩ := bnd_s h
  refine vv_cs (k := 0 + 0 * 13) (n := 0 + 0 * 168) (by omega) (by omega) ?_
  refine L54 nB 0 oT nT sg r_2 pF r_13 (Nat.zero_add _) hr_13 ?_
  intro oT_54e
  refine vv_widen (k := 312) (n := 4032) (by omega) (by omega) ?_
  refine vv_iconst C (v := 0) dX7_pass_109 (by decide) 110 rfl ?_
  refine vv_istore_n C [(1, .int 0), (0, .ref m0)] dX7_pass_110 rfl (by decide) rfl 111 rfl ?_
  refine vv_iconst C (v := 0) dX7_pass_111 (by decide) 112 rfl ?_
  refine vv_anewA C (N := 0) kwX7_pass_6 (by decide) (by decide) (by decide) ⟨show 312 + 1 ≤ 966 by omega, show 4032 + 0 ≤ 9480 by omega⟩ dX7_pass_112 115 313 4032 rfl ⟨by omega, by omega⟩ (fun q_14 => ?_)
  refine vs_snoc ?_
  refine vs_out (segs' := [sO m0 hour ropes broken windX windY oW oB oT_54e oP, [aR c oW nW (fun i => some (WA i))], [aR c oB nB (fun i => some (BA i))], [aR c oT_54e r_13.1 (fun i => some (TA (r_13.2.1 i)))], [aR c oP nP (fun i => some (PA i))], rowsW c WA nW 7 wF, rowsW c BA nB 9 r_13.2.2.1, rowsW c TA nR 4 tF, rowsW c PA nP 2 r_13.2.2.2, [aR c q_14 0 (fun i => some (TA ((fun _ => 0) i)))]]) 9 rfl (fun i hi => absurd hi (Nat.not_lt_zero i)) rfl ?_
  refine vv_seg [0, 1, 2, 3, 4, 9, 5, 6, 7, 8] [] [sO m0 hour ropes broken windX windY oW oB oT_54e oP, [aR c oW nW (fun i => some (WA i))], [aR c oB nB (fun i => some (BA i))], [aR c oT_54e r_13.1 (fun i => some (TA (r_13.2.1 i)))], [aR c oP nP (fun i => some (PA i))], [aR c q_14 0 (fun i => some (TA ((fun _ => 0) i)))], rowsW c WA nW 7 wF, rowsW c BA nB 9 r_13.2.2.1, rowsW c TA nR 4 tF, rowsW c PA nP 2 r_13.2.2.2] rfl (pm_of (N := 10) rfl (by decide +kernel)) ?_
  refine vv_astore_n C [(2, .ref q_14), (1, .int 0), (0, .ref m0)] dX7_pass_115 rfl (by decide) rfl 116 rfl ?_
  refine vv_aload_n C dX7_pass_116 rfl 2 rfl 117 rfl ?_
  refine vv_get C (q0 := 0) (ci := 7) (k := 7) kinX7_pass_X7 rfl rfl (by decide) kwX7_pass_7 rfl rfl dX7_pass_117 120 rfl ?_
  refine vv_astore_n C [(3, .ref oT_54e), (2, .ref q_14), (1, .int 0), (0, .ref m0)] dX7_pass_120 rfl (by decide) rfl 121 rfl ?_
  refine vv_aload_n C dX7_pass_121 rfl 0 rfl 122 rfl ?_
  refine vs_alenR C (q0 := 3) rfl dX7_pass_122 123 rfl ?_
  refine vv_istore C [(4, .int (nI r_13.1)), (3, .ref oT_54e), (2, .ref q_14), (1, .int 0), (0, .ref m0)] dX7_pass_123 (by decide) rfl 125 rfl ?_
  refine vv_iconst C (v := 0) dX7_pass_125 (by decide) 126 rfl ?_
  refine vv_istore C [(5, .int 0), (4, .int (nI r_13.1)), (3, .ref oT_54e), (2, .ref q_14), (1, .int 0), (0, .ref m0)] dX7_pass_126 (by decide) rfl 128 rfl ?_
  refine vv_lv [5, 4, 3, 2, 1, 0] [(0, .ref m0), (1, .int 0), (2, .ref q_14), (3, .ref oT_54e), (4, .int (nI r_13.1)), (5, .int 0)] rfl ?_
  obtain ⟨hN128, h⟩ := chkP_s h
  have L128 : ∀ (n j128 : Nat) (a2_128 : Nat) (tF_128 : Nat → Nat → Int32) (v1_128 : Int32) (n2_128 : Nat) (s2_128 : Nat → Nat) (q128 : (Nat → Nat → Int32) × Int32 × Nat × (Nat → Nat)), j128 + n = r_13.1 → jS_pass_L128 r_13.2.1 nW wF nB r_13.2.2.1 nR nP r_13.2.2.2 n j128 tF_128 v1_128 n2_128 s2_128 = some q128 → (∀ (a2_128e : Nat), VV g D 10 (313 + r_13.1 * 10) (4032 + r_13.1 * 48) (List.flatten [sO m0 hour ropes broken windX windY oW oB oT_54e oP, [aR c oW nW (fun i => some (WA i))], [aR c oB nB (fun i => some (BA i))], [aR c oT_54e r_13.1 (fun i => some (TA (r_13.2.1 i)))], [aR c oP nP (fun i => some (PA i))], [aR c a2_128e q128.2.2.1 (fun i => some (TA (q128.2.2.2 i)))], rowsW c WA nW 7 wF, rowsW c BA nB 9 r_13.2.2.1, rowsW c TA nR 4 q128.1, rowsW c PA nP 2 r_13.2.2.2]) [(0, .ref m0), (1, .int q128.2.1), (2, .ref a2_128e)] 240 []) → VV g D 10 (313 + j128 * 10) (4032 + j128 * 48) (List.flatten [sO m0 hour ropes broken windX windY oW oB oT_54e oP, [aR c oW nW (fun i => some (WA i))], [aR c oB nB (fun i => some (BA i))], [aR c oT_54e r_13.1 (fun i => some (TA (r_13.2.1 i)))], [aR c oP nP (fun i => some (PA i))], [aR c a2_128 n2_128 (fun i => some (TA (s2_128 i)))], rowsW c WA nW 7 wF, rowsW c BA nB 9 r_13.2.2.1, rowsW c TA nR 4 tF_128, rowsW c PA nP 2 r_13.2.2.2]) [(0, .ref m0), (1, .int v1_128), (2, .ref a2_128), (3, .ref oT_54e), (4, .int (nI r_13.1)), (5, .int (nI j128))] 128 [] := by
    intro n
    induction n with
    | zero =>
      intro j128 a2_128 tF_128 v1_128 n2_128 s2_128 q128 hj128 h kk128
      rw [jS_pass_L128] at h
      refine vv_iload C dX7_pass_128 5 rfl 130 rfl ?_
      refine vv_iload C dX7_pass_130 4 rfl 132 rfl ?_
      refine vv_icmp_ge C 240 135 dX7_pass_132 (by decide) rfl (fun hc => ?_) (fun hc => ?_)
      · refine vv_lv [0, 1, 2] [(0, .ref m0), (1, .int v1_128), (2, .ref a2_128)] rfl ?_
        refine vv_widen (k := 313 + r_13.1 * 10) (n := 4032 + r_13.1 * 48) (by omega) (by omega) ?_
        obtain rfl := Option.some.inj h
        exact kk128 a2_128
      · exact absurd (nI_le (show r_13.1 ≤ j128 by omega) (by omega)) hc
    | succ n ih128 =>
      intro j128 a2_128 tF_128 v1_128 n2_128 s2_128 q128 hj128 h kk128
      rw [jS_pass_L128] at h
      refine vv_iload C dX7_pass_128 5 rfl 130 rfl ?_
      refine vv_iload C dX7_pass_130 4 rfl 132 rfl ?_
      refine vv_icmp_ge C 240 135 dX7_pass_132 (by decide) rfl (fun hc => ?_) (fun hc => ?_)
      · exact absurd hc (nI_ge (show j128 < r_13.1 by omega) (by omega))
      · refine vv_aload_n C dX7_pass_135 rfl 3 rfl 136 rfl ?_
        refine vv_iload C dX7_pass_136 5 rfl 138 rfl ?_
        obtain ⟨hr_15, h⟩ := chkP_s h
        refine vs_aald C (q0 := 3) (k := j128) rfl (nI_in (show j128 < r_13.1 by omega) (by omega)) (nI_clamp (show j128 < 2 ^ 31 by omega)) dX7_pass_138 139 rfl ?_
        refine vv_eq (st' := [.ref (TA (r_13.2.1 j128))]) rfl rfl rfl ?_
        refine vv_astore C [(6, .ref (TA (r_13.2.1 j128))), (0, .ref m0), (1, .int v1_128), (2, .ref a2_128), (3, .ref oT_54e), (4, .int (nI r_13.1)), (5, .int (nI j128))] dX7_pass_139 (by decide) rfl 141 rfl ?_
        refine vv_aload_n C dX7_pass_141 rfl 1 rfl 142 rfl ?_
        refine vv_aload_n C dX7_pass_142 rfl 1 rfl 143 rfl ?_
        refine vv_get C (q0 := 0) (ci := 7) (k := 6) kinX7_pass_X7 rfl rfl (by decide) kwX7_pass_1 rfl rfl dX7_pass_143 146 rfl ?_
        refine vv_aload C dX7_pass_146 0 rfl 148 rfl ?_
        refine vv_iconst C (v := 0) dX7_pass_148 (by decide) 149 rfl ?_
        refine vs_iald C (r := r_13.2.1 j128) 8 rfl hr_15 (inB_t (by decide)) dX7_pass_149 150 rfl ?_
        obtain ⟨hi, h⟩ := chk_s h
        have hr_16 := in_lt hi
        refine vs_aald C (q0 := 2) (k := ((rd (tF_128 (r_13.2.1 j128)) 0)).toNatClampNeg) rfl hi rfl dX7_pass_150 151 rfl ?_
        refine vv_eq (st' := [.ref (BA (((rd (tF_128 (r_13.2.1 j128)) 0)).toNatClampNeg)), .ref m0]) rfl rfl rfl ?_
        refine vv_bipush C (v := 7) dX7_pass_151 (by decide) 153 rfl ?_
        refine vs_iald C (r := ((rd (tF_128 (r_13.2.1 j128)) 0)).toNatClampNeg) 7 rfl hr_16 (inB_t (by decide)) dX7_pass_153 154 rfl ?_
        refine vv_aload_n C dX7_pass_154 rfl 1 rfl 155 rfl ?_
        refine vv_get C (q0 := 0) (ci := 7) (k := 6) kinX7_pass_X7 rfl rfl (by decide) kwX7_pass_1 rfl rfl dX7_pass_155 158 rfl ?_
        refine vv_aload C dX7_pass_158 0 rfl 160 rfl ?_
        refine vv_iconst C (v := 0) dX7_pass_160 (by decide) 161 rfl ?_
        refine vs_iald C (r := r_13.2.1 j128) 8 rfl hr_15 (inB_t (by decide)) dX7_pass_161 162 rfl ?_
        obtain ⟨hi, h⟩ := chk_s h
        have hr_17 := in_lt hi
        refine vs_aald C (q0 := 2) (k := ((rd (tF_128 (r_13.2.1 j128)) 0)).toNatClampNeg) rfl hi rfl dX7_pass_162 163 rfl ?_
        refine vv_eq (st' := [.ref (BA (((rd (tF_128 (r_13.2.1 j128)) 0)).toNatClampNeg)), .int (rd (r_13.2.2.1 (((rd (tF_128 (r_13.2.1 j128)) 0)).toNatClampNeg)) 7), .ref m0]) rfl rfl rfl ?_
        refine vv_bipush C (v := 8) dX7_pass_163 (by decide) 165 rfl ?_
        refine vs_iald C (r := ((rd (tF_128 (r_13.2.1 j128)) 0)).toNatClampNeg) 7 rfl hr_17 (inB_t (by decide)) dX7_pass_165 166 rfl ?_
        obtain ⟨r_18, hr_18, h⟩ := bnd_s h
        refine vs_callVq C (S := Nat) (fun l => mt_X7_sea l D c m0 oW oB oT_54e oP WA BA TA PA hour ropes broken windX windY nW nB r_13.1 nP nR r_13.2.1 wF r_13.2.2.1 tF_128 r_13.2.2.2 (rd (r_13.2.2.1 (((rd (tF_128 (r_13.2.1 j128)) 0)).toNatClampNeg)) 7) (rd (r_13.2.2.1 (((rd (tF_128 (r_13.2.1 j128)) 0)).toNatClampNeg)) 8) r_18 hr_18) gX7_pass_X7_sea rfl rfl rfl yd_X7_sea ⟨Nat.le_of_ble_eq_true rfl, Nat.le_of_ble_eq_true rfl⟩ (List.flatten [[aR c a2_128 n2_128 (fun i => some (TA (s2_128 i)))]]) (sg_pick2 [5] [0, 1, 2, 3, 4, 6, 7, 8, 9] rfl rfl (pm_of (N := 10) rfl (by decide +kernel))) 0 rfl rfl rfl [] rfl (Nat.le_of_ble_eq_true rfl) ⟨show (313 + j128 * 10) + 9 ≤ 966 by omega, show (4032 + j128 * 48) + 36 ≤ 9480 by omega⟩ dX7_pass_166 169 ((313 + j128 * 10) + 9) ((4032 + j128 * 48) + 36) rfl ⟨by omega, by omega⟩ (fun u_19 _ => ?_)
        refine vs_app ?_
        refine vv_seg [1, 2, 3, 4, 5, 0, 6, 7, 8, 9, 10] [] [sO m0 hour ropes broken windX windY oW oB oT_54e oP, [aR c oW nW (fun i => some (WA i))], [aR c oB nB (fun i => some (BA i))], [aR c oT_54e r_13.1 (fun i => some (TA (r_13.2.1 i)))], [aR c oP nP (fun i => some (PA i))], [aR c a2_128 n2_128 (fun i => some (TA (s2_128 i)))], [aI c u_19 4 r_18], rowsW c WA nW 7 wF, rowsW c BA nB 9 r_13.2.2.1, rowsW c TA nR 4 tF_128, rowsW c PA nP 2 r_13.2.2.2] rfl (pm_of (N := 11) rfl (by decide +kernel)) ?_
        refine vv_iconst C (v := 2) dX7_pass_169 (by decide) 170 rfl ?_
        refine vv_iald C (q0 := 6) rfl (inB_t (by decide)) dX7_pass_170 171 rfl ?_
        refine vv_aload_n C dX7_pass_171 rfl 1 rfl 172 rfl ?_
        refine vv_aload C dX7_pass_172 0 rfl 174 rfl ?_
        refine vv_iconst C (v := 0) dX7_pass_174 (by decide) 175 rfl ?_
        refine vs_iald C (r := r_13.2.1 j128) 9 rfl hr_15 (inB_t (by decide)) dX7_pass_175 176 rfl ?_
        obtain ⟨r_20, hr_20, h⟩ := bnd_s h
        refine vs_callVi C (S := Unit) (fun l => mt_X7_load l D c m0 oW oB oT_54e oP WA BA TA PA hour ropes broken windX windY nW nB r_13.1 nP nR r_13.2.1 wF r_13.2.2.1 tF_128 r_13.2.2.2 (rd (tF_128 (r_13.2.1 j128)) 0) r_20 hr_20) gX7_pass_X7_load rfl rfl rfl yd_X7_load ⟨Nat.le_of_ble_eq_true rfl, Nat.le_of_ble_eq_true rfl⟩ (List.flatten [[aR c a2_128 n2_128 (fun i => some (TA (s2_128 i)))], [aI c u_19 4 r_18]]) (sg_pick2 [5, 6] [0, 1, 2, 3, 4, 7, 8, 9, 10] rfl rfl (pm_of (N := 11) rfl (by decide +kernel))) 0 rfl rfl rfl [.int (rd r_18 2)] rfl (Nat.le_of_ble_eq_true rfl) ⟨show ((313 + j128 * 10) + 9) + 0 ≤ 966 by omega, show ((4032 + j128 * 48) + 36) + 0 ≤ 9480 by omega⟩ dX7_pass_176 179 ((313 + j128 * 10) + 9) ((4032 + j128 * 48) + 36) rfl ⟨by omega, by omega⟩ (fun _ u_21 hu => ?_)
        rw [hu]
        refine vs_app ?_
        refine vv_seg [2, 3, 4, 5, 6, 0, 1, 7, 8, 9, 10] [] [sO m0 hour ropes broken windX windY oW oB oT_54e oP, [aR c oW nW (fun i => some (WA i))], [aR c oB nB (fun i => some (BA i))], [aR c oT_54e r_13.1 (fun i => some (TA (r_13.2.1 i)))], [aR c oP nP (fun i => some (PA i))], [aR c a2_128 n2_128 (fun i => some (TA (s2_128 i)))], [aI c u_19 4 r_18], rowsW c WA nW 7 wF, rowsW c BA nB 9 r_13.2.2.1, rowsW c TA nR 4 tF_128, rowsW c PA nP 2 r_13.2.2.2] rfl (pm_of (N := 11) rfl (by decide +kernel)) ?_
        refine vv_aload_n C dX7_pass_179 rfl 1 rfl 180 rfl ?_
        refine vv_aload C dX7_pass_180 0 rfl 182 rfl ?_
        refine vv_iconst C (v := 1) dX7_pass_182 (by decide) 183 rfl ?_
        refine vs_iald C (r := r_13.2.1 j128) 9 rfl hr_15 (inB_t (by decide)) dX7_pass_183 184 rfl ?_
        obtain ⟨r_22, hr_22, h⟩ := bnd_s h
        refine vs_callVi C (S := Unit) (fun l => mt_X7_load l D c m0 oW oB oT_54e oP WA BA TA PA hour ropes broken windX windY nW nB r_13.1 nP nR r_13.2.1 wF r_13.2.2.1 tF_128 r_13.2.2.2 (rd (tF_128 (r_13.2.1 j128)) 1) r_22 hr_22) gX7_pass_X7_load rfl rfl rfl yd_X7_load ⟨Nat.le_of_ble_eq_true rfl, Nat.le_of_ble_eq_true rfl⟩ (List.flatten [[aR c a2_128 n2_128 (fun i => some (TA (s2_128 i)))], [aI c u_19 4 r_18]]) (sg_pick2 [5, 6] [0, 1, 2, 3, 4, 7, 8, 9, 10] rfl rfl (pm_of (N := 11) rfl (by decide +kernel))) 0 rfl rfl rfl [.int r_20, .int (rd r_18 2)] rfl (Nat.le_of_ble_eq_true rfl) ⟨show ((313 + j128 * 10) + 9) + 0 ≤ 966 by omega, show ((4032 + j128 * 48) + 36) + 0 ≤ 9480 by omega⟩ dX7_pass_184 187 ((313 + j128 * 10) + 9) ((4032 + j128 * 48) + 36) rfl ⟨by omega, by omega⟩ (fun _ u_23 hu => ?_)
        rw [hu]
        refine vs_app ?_
        refine vv_seg [2, 3, 4, 5, 6, 0, 1, 7, 8, 9, 10] [] [sO m0 hour ropes broken windX windY oW oB oT_54e oP, [aR c oW nW (fun i => some (WA i))], [aR c oB nB (fun i => some (BA i))], [aR c oT_54e r_13.1 (fun i => some (TA (r_13.2.1 i)))], [aR c oP nP (fun i => some (PA i))], [aR c a2_128 n2_128 (fun i => some (TA (s2_128 i)))], [aI c u_19 4 r_18], rowsW c WA nW 7 wF, rowsW c BA nB 9 r_13.2.2.1, rowsW c TA nR 4 tF_128, rowsW c PA nP 2 r_13.2.2.2] rfl (pm_of (N := 11) rfl (by decide +kernel)) ?_
        refine vv_isub C dX7_pass_187 188 rfl ?_
        refine vv_mabs C kwX7_pass_8 kwX7_pass_9 kwX7_pass_4 kwX7_pass_10 ⟨Nat.le_of_ble_eq_true rfl, Nat.le_of_ble_eq_true rfl⟩ ⟨show ((313 + j128 * 10) + 9) + 0 ≤ 966 by omega, show ((4032 + j128 * 48) + 36) + 0 ≤ 9480 by omega⟩ dX7_pass_188 191 rfl ?_
        refine vv_iconst C (v := 2) dX7_pass_191 (by decide) 192 rfl ?_
        refine vv_idiv C dX7_pass_192 (by decide) 193 rfl ?_
        refine vv_iadd C dX7_pass_193 194 rfl ?_
        refine vv_istore C [(7, .int ((rd r_18 2) + ((mabs (r_20 - r_22)) / 2))), (6, .ref (TA (r_13.2.1 j128))), (0, .ref m0), (1, .int v1_128), (2, .ref a2_128), (3, .ref oT_54e), (4, .int (nI r_13.1)), (5, .int (nI j128))] dX7_pass_194 (by decide) rfl 196 rfl ?_
        refine vv_iload C dX7_pass_196 0 rfl 198 rfl ?_
        refine vv_aload C dX7_pass_198 1 rfl 200 rfl ?_
        refine vv_iconst C (v := 2) dX7_pass_200 (by decide) 201 rfl ?_
        refine vs_iald C (r := r_13.2.1 j128) 9 rfl hr_15 (inB_t (by decide)) dX7_pass_201 202 rfl ?_
        refine vv_aload C dX7_pass_202 1 rfl 204 rfl ?_
        refine vv_iconst C (v := 3) dX7_pass_204 (by decide) 205 rfl ?_
        refine vs_iald C (r := r_13.2.1 j128) 9 rfl hr_15 (inB_t (by decide)) dX7_pass_205 206 rfl ?_
        refine vv_isub C dX7_pass_206 207 rfl ?_
        refine vv_icmp_le C 216 210 dX7_pass_207 (by decide) rfl (fun hc => ?_) (fun hc => ?_)
        · replace h := ite_t hc h
          refine vv_aload C dX7_pass_216 1 rfl 218 rfl ?_
          refine vv_iconst C (v := 3) dX7_pass_218 (by decide) 219 rfl ?_
          refine vv_dup2 C dX7_pass_219 rfl rfl 220 rfl ?_
          refine vs_iald C (r := r_13.2.1 j128) 9 rfl hr_15 (inB_t (by decide)) dX7_pass_220 221 rfl ?_
          refine vv_iload C dX7_pass_221 0 rfl 223 rfl ?_
          refine vv_iconst C (v := 4) dX7_pass_223 (by decide) 224 rfl ?_
          refine vv_idiv C dX7_pass_224 (by decide) 225 rfl ?_
          refine vv_iadd C dX7_pass_225 226 rfl ?_
          refine vs_iast C (r := r_13.2.1 j128) [sO m0 hour ropes broken windX windY oW oB oT_54e oP, [aR c oW nW (fun i => some (WA i))], [aR c oB nB (fun i => some (BA i))], [aR c oT_54e r_13.1 (fun i => some (TA (r_13.2.1 i)))], [aR c oP nP (fun i => some (PA i))], [aR c a2_128 n2_128 (fun i => some (TA (s2_128 i)))], [aI c u_19 4 r_18], rowsW c WA nW 7 wF, rowsW c BA nB 9 r_13.2.2.1, rowsW c TA nR 4 (uF tF_128 (r_13.2.1 j128) (wr (tF_128 (r_13.2.1 j128)) 3 ((rd (tF_128 (r_13.2.1 j128)) 3) + (((rd r_18 2) + ((mabs (r_20 - r_22)) / 2)) / 4)))), rowsW c PA nP 2 r_13.2.2.2] 9 rfl hr_15 (inB_t (by decide)) rfl dX7_pass_226 227 rfl ?_
          refine vv_aload_n C dX7_pass_227 rfl 4 rfl 228 rfl ?_
          refine vv_aload C dX7_pass_228 1 rfl 230 rfl ?_
          obtain ⟨hs_24, h⟩ := chkP_s h
          obtain ⟨hn_25, h⟩ := chkP_s h
          refine vs_callSq C (S := Nat) (fun l => mt_X7_more l D c 12 (by decide) a2_128 n2_128 TA nR 4 (uF tF_128 (r_13.2.1 j128) (wr (tF_128 (r_13.2.1 j128)) 3 ((rd (tF_128 (r_13.2.1 j128)) 3) + (((rd r_18 2) + ((mabs (r_20 - r_22)) / 2)) / 4)))) s2_128 (r_13.2.1 j128) hs_24 hr_15 hn_25) gX7_pass_X7_more rfl rfl rfl yd_X7_more ⟨Nat.le_of_ble_eq_true rfl, Nat.le_of_ble_eq_true rfl⟩ (List.flatten [sO m0 hour ropes broken windX windY oW oB oT_54e oP, [aR c oW nW (fun i => some (WA i))], [aR c oB nB (fun i => some (BA i))], [aR c oT_54e r_13.1 (fun i => some (TA (r_13.2.1 i)))], [aR c oP nP (fun i => some (PA i))], [aI c u_19 4 r_18], rowsW c WA nW 7 wF, rowsW c BA nB 9 r_13.2.2.1, rowsW c PA nP 2 r_13.2.2.2]) (sg_pick2 [0, 1, 2, 3, 4, 6, 7, 8, 10] [5, 9] rfl rfl (pm_of (N := 11) rfl (by decide +kernel))) rfl [] rfl (Nat.le_of_ble_eq_true rfl) ⟨show ((313 + j128 * 10) + 9) + 1 ≤ 966 by omega, show ((4032 + j128 * 48) + 36) + 12 ≤ 9480 by omega⟩ dX7_pass_230 233 ((313 + j128 * 10) + 10) ((4032 + j128 * 48) + 48) rfl ⟨by omega, by omega⟩ (fun q_26 _ => ?_)
          refine vs_app ?_
          refine vv_seg [0, 1, 2, 3, 4, 9, 5, 10, 6, 7, 11, 8] [] [sO m0 hour ropes broken windX windY oW oB oT_54e oP, [aR c oW nW (fun i => some (WA i))], [aR c oB nB (fun i => some (BA i))], [aR c oT_54e r_13.1 (fun i => some (TA (r_13.2.1 i)))], [aR c oP nP (fun i => some (PA i))], [aR c a2_128 n2_128 (fun i => some (TA (s2_128 i)))], [aI c u_19 4 r_18], [aR c q_26 (n2_128 + 1) (fun i => some (TA (uN s2_128 n2_128 (r_13.2.1 j128) i)))], rowsW c WA nW 7 wF, rowsW c BA nB 9 r_13.2.2.1, rowsW c TA nR 4 (uF tF_128 (r_13.2.1 j128) (wr (tF_128 (r_13.2.1 j128)) 3 ((rd (tF_128 (r_13.2.1 j128)) 3) + (((rd r_18 2) + ((mabs (r_20 - r_22)) / 2)) / 4)))), rowsW c PA nP 2 r_13.2.2.2] rfl (pm_of (N := 12) rfl (by decide +kernel)) ?_
          refine vv_astore_n C [(2, .ref q_26), (7, .int ((rd r_18 2) + ((mabs (r_20 - r_22)) / 2))), (6, .ref (TA (r_13.2.1 j128))), (0, .ref m0), (1, .int v1_128), (3, .ref oT_54e), (4, .int (nI r_13.1)), (5, .int (nI j128))] dX7_pass_233 rfl (by decide) rfl 234 rfl ?_
          refine vv_iinc C (k := 7) [(5, .int (nI (j128 + 1))), (2, .ref q_26), (7, .int ((rd r_18 2) + ((mabs (r_20 - r_22)) / 2))), (6, .ref (TA (r_13.2.1 j128))), (0, .ref m0), (1, .int v1_128), (3, .ref oT_54e), (4, .int (nI r_13.1))] dX7_pass_234 rfl nI_inc (by decide) rfl 237 rfl ?_
          refine vv_goto C 128 dX7_pass_237 (by decide) ?_
          refine vv_lv [4, 5, 1, 6, 7, 0] [(0, .ref m0), (1, .int v1_128), (2, .ref q_26), (3, .ref oT_54e), (4, .int (nI r_13.1)), (5, .int (nI (j128 + 1)))] rfl ?_
          refine vv_seg [0, 1, 2, 3, 4, 7, 8, 9, 10, 11] [5, 6] [sO m0 hour ropes broken windX windY oW oB oT_54e oP, [aR c oW nW (fun i => some (WA i))], [aR c oB nB (fun i => some (BA i))], [aR c oT_54e r_13.1 (fun i => some (TA (r_13.2.1 i)))], [aR c oP nP (fun i => some (PA i))], [aR c q_26 (n2_128 + 1) (fun i => some (TA (uN s2_128 n2_128 (r_13.2.1 j128) i)))], rowsW c WA nW 7 wF, rowsW c BA nB 9 r_13.2.2.1, rowsW c TA nR 4 (uF tF_128 (r_13.2.1 j128) (wr (tF_128 (r_13.2.1 j128)) 3 ((rd (tF_128 (r_13.2.1 j128)) 3) + (((rd r_18 2) + ((mabs (r_20 - r_22)) / 2)) / 4)))), rowsW c PA nP 2 r_13.2.2.2] rfl (pm_of (N := 12) rfl (by decide +kernel)) ?_
          refine vv_widen (k := 313 + (j128 + 1) * 10) (n := 4032 + (j128 + 1) * 48) (by omega) (by omega) ?_
          exact ih128 (j128 + 1) q_26 (uF tF_128 (r_13.2.1 j128) (wr (tF_128 (r_13.2.1 j128)) 3 ((rd (tF_128 (r_13.2.1 j128)) 3) + (((rd r_18 2) + ((mabs (r_20 - r_22)) / 2)) / 4)))) v1_128 (n2_128 + 1) (uN s2_128 n2_128 (r_13.2.1 j128)) _ (by omega) h kk128
        · replace h := ite_f hc h
          refine vv_iinc C (k := 3) [(1, .int (v1_128 + 1)), (7, .int ((rd r_18 2) + ((mabs (r_20 - r_22)) / 2))), (6, .ref (TA (r_13.2.1 j128))), (0, .ref m0), (2, .ref a2_128), (3, .ref oT_54e), (4, .int (nI r_13.1)), (5, .int (nI j128))] dX7_pass_210 rfl rfl (by decide) rfl 213 rfl ?_
          refine vv_goto C 234 dX7_pass_213 (by decide) ?_
          refine vv_iinc C (k := 7) [(5, .int (nI (j128 + 1))), (1, .int (v1_128 + 1)), (7, .int ((rd r_18 2) + ((mabs (r_20 - r_22)) / 2))), (6, .ref (TA (r_13.2.1 j128))), (0, .ref m0), (2, .ref a2_128), (3, .ref oT_54e), (4, .int (nI r_13.1))] dX7_pass_234 rfl nI_inc (by decide) rfl 237 rfl ?_
          refine vv_goto C 128 dX7_pass_237 (by decide) ?_
          refine vv_lv [4, 1, 5, 6, 7, 0] [(0, .ref m0), (1, .int (v1_128 + 1)), (2, .ref a2_128), (3, .ref oT_54e), (4, .int (nI r_13.1)), (5, .int (nI (j128 + 1)))] rfl ?_
          refine vv_seg [0, 1, 2, 3, 4, 5, 7, 8, 9, 10] [6] [sO m0 hour ropes broken windX windY oW oB oT_54e oP, [aR c oW nW (fun i => some (WA i))], [aR c oB nB (fun i => some (BA i))], [aR c oT_54e r_13.1 (fun i => some (TA (r_13.2.1 i)))], [aR c oP nP (fun i => some (PA i))], [aR c a2_128 n2_128 (fun i => some (TA (s2_128 i)))], rowsW c WA nW 7 wF, rowsW c BA nB 9 r_13.2.2.1, rowsW c TA nR 4 tF_128, rowsW c PA nP 2 r_13.2.2.2] rfl (pm_of (N := 11) rfl (by decide +kernel)) ?_
          refine vv_widen (k := 313 + (j128 + 1) * 10) (n := 4032 + (j128 + 1) * 48) (by omega) (by omega) ?_
          exact ih128 (j128 + 1) a2_128 tF_128 (v1_128 + 1) n2_128 s2_128 _ (by omega) h kk128
  obtain ⟨r_27, hr_27, h⟩ := bnd_s h
  refine vv_cs (k := 313 + 0 * 10) (n := 4032 + 0 * 48) (by omega) (by omega) ?_
  refine L128 r_13.1 0 q_14 tF 0 0 (fun _ => 0) r_27 (Nat.zero_add _) hr_27 ?_
  intro a2_128e
  refine vv_widen (k := 413) (n := 4512) (by omega) (by omega) ?_
  refine vv_aload_n C dX7_pass_240 rfl 0 rfl 241 rfl ?_
  refine vv_aload_n C dX7_pass_241 rfl 2 rfl 242 rfl ?_
  refine vv_put C (q0 := 0) (ci := 7) (k := 7) (ty := (.array (.array .int))) (List.flatten [sO m0 hour ropes broken windX windY oW oB a2_128e oP, [aR c oW nW (fun i => some (WA i))], [aR c oB nB (fun i => some (BA i))], [aR c oT_54e r_13.1 (fun i => some (TA (r_13.2.1 i)))], [aR c oP nP (fun i => some (PA i))], [aR c a2_128e r_27.2.2.1 (fun i => some (TA (r_27.2.2.2 i)))], rowsW c WA nW 7 wF, rowsW c BA nB 9 r_13.2.2.1, rowsW c TA nR 4 r_27.1, rowsW c PA nP 2 r_13.2.2.2]) tyX7 tyX7_ok nmX7 kinX7_pass_X7 rfl rfl (by decide) kwX7_pass_7 rfl rfl rfl rfl rfl (Nat.le_of_ble_eq_true rfl) rfl dX7_pass_242 245 rfl ?_
  refine vv_aload_n C dX7_pass_245 rfl 0 rfl 246 rfl ?_
  refine vv_get C (q0 := 0) (ci := 7) (k := 6) kinX7_pass_X7 rfl rfl (by decide) kwX7_pass_1 rfl rfl dX7_pass_246 249 rfl ?_
  refine vs_alenR C (q0 := 2) rfl dX7_pass_249 250 rfl ?_
  obtain ⟨hb_29, h⟩ := chkP_s h
  refine vs_anewK C (N := nB) kwX7_pass_6 (nI_n0 (by omega)) (nI_clamp (by omega)) (by show nB * 4 ≤ 536870912; omega) ⟨show 413 + 1 ≤ 966 by omega, show 4512 + nB ≤ 9480 by omega⟩ dX7_pass_250 253 414 4536 rfl ⟨by omega, by omega⟩ (fun q_28 => ?_)
  refine vs_snoc ?_
  refine vs_pool0 (c := c) (A := fun _ => 0) (len := 2) (F := fun _ _ => 0) ?_
  refine vv_seg [0, 1, 2, 3, 4, 5, 10, 6, 7, 8, 9, 11] [] [sO m0 hour ropes broken windX windY oW oB a2_128e oP, [aR c oW nW (fun i => some (WA i))], [aR c oB nB (fun i => some (BA i))], [aR c oT_54e r_13.1 (fun i => some (TA (r_13.2.1 i)))], [aR c oP nP (fun i => some (PA i))], [aR c a2_128e r_27.2.2.1 (fun i => some (TA (r_27.2.2.2 i)))], [aR c q_28 nB (fun i => Option.map (fun _ => 0) ((fun _ => (none : Option Nat)) i))], rowsW c WA nW 7 wF, rowsW c BA nB 9 r_13.2.2.1, rowsW c TA nR 4 r_27.1, rowsW c PA nP 2 r_13.2.2.2, rowsW c (fun _ => 0) 0 2 (fun _ _ => 0)] rfl (pm_of (N := 12) rfl (by decide +kernel)) ?_
  refine vv_astore_n C [(3, .ref q_28), (0, .ref m0), (1, .int r_27.2.1), (2, .ref a2_128e)] dX7_pass_253 rfl (by decide) rfl 254 rfl ?_
  refine vv_iconst C (v := 0) dX7_pass_254 (by decide) 255 rfl ?_
  refine vv_istore C [(4, .int 0), (3, .ref q_28), (0, .ref m0), (1, .int r_27.2.1), (2, .ref a2_128e)] dX7_pass_255 (by decide) rfl 257 rfl ?_
  refine vv_lv [2, 3, 1, 0] [(0, .ref m0), (1, .int r_27.2.1), (3, .ref q_28), (4, .int 0)] rfl ?_
  refine vv_seg [0, 1, 2, 5, 4, 6, 7, 8, 9, 10, 11] [3] [sO m0 hour ropes broken windX windY oW oB a2_128e oP, [aR c oW nW (fun i => some (WA i))], [aR c oB nB (fun i => some (BA i))], [aR c a2_128e r_27.2.2.1 (fun i => some (TA (r_27.2.2.2 i)))], [aR c oP nP (fun i => some (PA i))], [aR c q_28 nB (fun i => Option.map (fun _ => 0) ((fun _ => (none : Option Nat)) i))], rowsW c WA nW 7 wF, rowsW c BA nB 9 r_13.2.2.1, rowsW c TA nR 4 r_27.1, rowsW c PA nP 2 r_13.2.2.2, rowsW c (fun _ => 0) 0 2 (fun _ _ => 0)] rfl (pm_of (N := 12) rfl (by decide +kernel)) ?_
  obtain ⟨hN257, h⟩ := chkP_s h
  have L257 : ∀ (n j257 : Nat) (XA_257 : Nat → Nat) (nX_257 : Nat) (xF_257 : Nat → Nat → Int32) (sc250_257 : Nat → Option Nat) (q257 : Nat × (Nat → Nat → Int32) × (Nat → Option Nat)), j257 + n = nB → jS_pass_L257 windX windY r_27.2.2.1 r_27.2.2.2 nB nW wF nB r_13.2.2.1 nR r_27.1 nP r_13.2.2.2 n j257 nX_257 xF_257 sc250_257 = some q257 → (∀ (XA_257e : Nat → Nat), VV g D 10 (414 + nB * 11) (4536 + nB * 62) (List.flatten [sO m0 hour ropes broken windX windY oW oB a2_128e oP, [aR c oW nW (fun i => some (WA i))], [aR c oB nB (fun i => some (BA i))], [aR c a2_128e r_27.2.2.1 (fun i => some (TA (r_27.2.2.2 i)))], [aR c oP nP (fun i => some (PA i))], [aR c q_28 nB (fun i => Option.map XA_257e (q257.2.2 i))], rowsW c WA nW 7 wF, rowsW c BA nB 9 r_13.2.2.1, rowsW c TA nR 4 r_27.1, rowsW c PA nP 2 r_13.2.2.2, rowsW c XA_257e q257.1 2 q257.2.1]) [(0, .ref m0), (1, .int r_27.2.1), (3, .ref q_28)] 471 []) → VV g D 10 (414 + j257 * 11) (4536 + j257 * 62) (List.flatten [sO m0 hour ropes broken windX windY oW oB a2_128e oP, [aR c oW nW (fun i => some (WA i))], [aR c oB nB (fun i => some (BA i))], [aR c a2_128e r_27.2.2.1 (fun i => some (TA (r_27.2.2.2 i)))], [aR c oP nP (fun i => some (PA i))], [aR c q_28 nB (fun i => Option.map XA_257 (sc250_257 i))], rowsW c WA nW 7 wF, rowsW c BA nB 9 r_13.2.2.1, rowsW c TA nR 4 r_27.1, rowsW c PA nP 2 r_13.2.2.2, rowsW c XA_257 nX_257 2 xF_257]) [(0, .ref m0), (1, .int r_27.2.1), (3, .ref q_28), (4, .int (nI j257))] 257 [] := by
    intro n
    induction n with
    | zero =>
      intro j257 XA_257 nX_257 xF_257 sc250_257 q257 hj257 h kk257
      rw [jS_pass_L257] at h
      refine vv_iload C dX7_pass_257 3 rfl 259 rfl ?_
      refine vv_aload_n C dX7_pass_259 rfl 0 rfl 260 rfl ?_
      refine vv_get C (q0 := 0) (ci := 7) (k := 6) kinX7_pass_X7 rfl rfl (by decide) kwX7_pass_1 rfl rfl dX7_pass_260 263 rfl ?_
      refine vs_alenR C (q0 := 2) rfl dX7_pass_263 264 rfl ?_
      refine vv_icmp_ge C 471 267 dX7_pass_264 (by decide) rfl (fun hc => ?_) (fun hc => ?_)
      · refine vv_lv [0, 1, 2] [(0, .ref m0), (1, .int r_27.2.1), (3, .ref q_28)] rfl ?_
        refine vv_widen (k := 414 + nB * 11) (n := 4536 + nB * 62) (by omega) (by omega) ?_
        obtain rfl := Option.some.inj h
        exact kk257 XA_257
      · exact absurd (nI_le (show nB ≤ j257 by omega) (by omega)) hc
    | succ n ih257 =>
      intro j257 XA_257 nX_257 xF_257 sc250_257 q257 hj257 h kk257
      rw [jS_pass_L257] at h
      refine vv_iload C dX7_pass_257 3 rfl 259 rfl ?_
      refine vv_aload_n C dX7_pass_259 rfl 0 rfl 260 rfl ?_
      refine vv_get C (q0 := 0) (ci := 7) (k := 6) kinX7_pass_X7 rfl rfl (by decide) kwX7_pass_1 rfl rfl dX7_pass_260 263 rfl ?_
      refine vs_alenR C (q0 := 2) rfl dX7_pass_263 264 rfl ?_
      refine vv_icmp_ge C 471 267 dX7_pass_264 (by decide) rfl (fun hc => ?_) (fun hc => ?_)
      · exact absurd hc (nI_ge (show j257 < nB by omega) (by omega))
      · refine vv_aload_n C dX7_pass_267 rfl 0 rfl 268 rfl ?_
        refine vv_get C (q0 := 0) (ci := 7) (k := 6) kinX7_pass_X7 rfl rfl (by decide) kwX7_pass_1 rfl rfl dX7_pass_268 271 rfl ?_
        refine vv_iload C dX7_pass_271 3 rfl 273 rfl ?_
        refine vs_aald C (q0 := 2) (k := j257) rfl (nI_in (show j257 < nB by omega) (by omega)) (nI_clamp (show j257 < 2 ^ 31 by omega)) dX7_pass_273 274 rfl ?_
        refine vv_eq (st' := [.ref (BA j257)]) rfl rfl rfl ?_
        refine vv_bipush C (v := 6) dX7_pass_274 (by decide) 276 rfl ?_
        refine vs_iald C (r := j257) 7 rfl (show j257 < nB by omega) (inB_t (by decide)) dX7_pass_276 277 rfl ?_
        refine vv_if_le C 283 280 dX7_pass_277 (by decide) rfl (fun hc => ?_) (fun hc => ?_)
        · replace h := ite_t hc h
          refine vv_aload_n C dX7_pass_283 rfl 0 rfl 284 rfl ?_
          refine vv_iload C dX7_pass_284 3 rfl 286 rfl ?_
          refine vv_null C dX7_pass_286 287 rfl ?_
          obtain ⟨r_31, hr_31, h⟩ := bnd_s h
          refine vs_callVq C (S := Nat) (fun l => mt_X7_piece l D c m0 oW oB a2_128e oP WA BA TA PA hour ropes broken windX windY nW nB r_27.2.2.1 nP nR r_27.2.2.2 wF r_13.2.2.1 r_27.1 r_13.2.2.2 (nI j257) r_31 hr_31) gX7_pass_X7_piece rfl rfl rfl yd_X7_piece ⟨Nat.le_of_ble_eq_true rfl, Nat.le_of_ble_eq_true rfl⟩ (List.flatten [[aR c q_28 nB (fun i => Option.map XA_257 (sc250_257 i))], rowsW c XA_257 nX_257 2 xF_257]) (sg_pick2 [5, 10] [0, 1, 2, 3, 4, 6, 7, 8, 9] rfl rfl (pm_of (N := 11) rfl (by decide +kernel))) 0 rfl rfl rfl [] rfl (Nat.le_of_ble_eq_true rfl) ⟨show (414 + j257 * 11) + 1 ≤ 966 by omega, show (4536 + j257 * 62) + 24 ≤ 9480 by omega⟩ dX7_pass_287 290 ((414 + j257 * 11) + 1) ((4536 + j257 * 62) + 24) rfl ⟨by omega, by omega⟩ (fun u_32 _ => ?_)
          refine vs_app ?_
          refine vv_seg [2, 3, 4, 5, 6, 0, 7, 8, 9, 10, 11, 1] [] [sO m0 hour ropes broken windX windY oW oB a2_128e oP, [aR c oW nW (fun i => some (WA i))], [aR c oB nB (fun i => some (BA i))], [aR c a2_128e r_27.2.2.1 (fun i => some (TA (r_27.2.2.2 i)))], [aR c oP nP (fun i => some (PA i))], [aR c q_28 nB (fun i => Option.map XA_257 (sc250_257 i))], [aZ c u_32 nB r_31], rowsW c WA nW 7 wF, rowsW c BA nB 9 r_13.2.2.1, rowsW c TA nR 4 r_27.1, rowsW c PA nP 2 r_13.2.2.2, rowsW c XA_257 nX_257 2 xF_257] rfl (pm_of (N := 12) rfl (by decide +kernel)) ?_
          refine vv_astore C [(5, .ref u_32), (0, .ref m0), (1, .int r_27.2.1), (3, .ref q_28), (4, .int (nI j257))] dX7_pass_290 (by decide) rfl 292 rfl ?_
          refine vv_aload_n C dX7_pass_292 rfl 1 rfl 293 rfl ?_
          refine vv_aload_n C dX7_pass_293 rfl 1 rfl 294 rfl ?_
          refine vv_get C (q0 := 0) (ci := 7) (k := 6) kinX7_pass_X7 rfl rfl (by decide) kwX7_pass_1 rfl rfl dX7_pass_294 297 rfl ?_
          refine vv_iload C dX7_pass_297 4 rfl 299 rfl ?_
          refine vs_aald C (q0 := 2) (k := j257) rfl (nI_in (show j257 < nB by omega) (by omega)) (nI_clamp (show j257 < 2 ^ 31 by omega)) dX7_pass_299 300 rfl ?_
          refine vv_eq (st' := [.ref (BA j257), .ref m0]) rfl rfl rfl ?_
          refine vv_bipush C (v := 7) dX7_pass_300 (by decide) 302 rfl ?_
          refine vs_iald C (r := j257) 8 rfl (show j257 < nB by omega) (inB_t (by decide)) dX7_pass_302 303 rfl ?_
          refine vv_aload_n C dX7_pass_303 rfl 1 rfl 304 rfl ?_
          refine vv_get C (q0 := 0) (ci := 7) (k := 6) kinX7_pass_X7 rfl rfl (by decide) kwX7_pass_1 rfl rfl dX7_pass_304 307 rfl ?_
          refine vv_iload C dX7_pass_307 4 rfl 309 rfl ?_
          refine vs_aald C (q0 := 2) (k := j257) rfl (nI_in (show j257 < nB by omega) (by omega)) (nI_clamp (show j257 < 2 ^ 31 by omega)) dX7_pass_309 310 rfl ?_
          refine vv_eq (st' := [.ref (BA j257), .int (rd (r_13.2.2.1 j257) 7), .ref m0]) rfl rfl rfl ?_
          refine vv_bipush C (v := 8) dX7_pass_310 (by decide) 312 rfl ?_
          refine vs_iald C (r := j257) 8 rfl (show j257 < nB by omega) (inB_t (by decide)) dX7_pass_312 313 rfl ?_
          obtain ⟨r_35, hr_35, h⟩ := bnd_s h
          refine vs_callVq C (S := Nat) (fun l => mt_X7_sea l D c m0 oW oB a2_128e oP WA BA TA PA hour ropes broken windX windY nW nB r_27.2.2.1 nP nR r_27.2.2.2 wF r_13.2.2.1 r_27.1 r_13.2.2.2 (rd (r_13.2.2.1 j257) 7) (rd (r_13.2.2.1 j257) 8) r_35 hr_35) gX7_pass_X7_sea rfl rfl rfl yd_X7_sea ⟨Nat.le_of_ble_eq_true rfl, Nat.le_of_ble_eq_true rfl⟩ (List.flatten [[aR c q_28 nB (fun i => Option.map XA_257 (sc250_257 i))], [aZ c u_32 nB r_31], rowsW c XA_257 nX_257 2 xF_257]) (sg_pick2 [5, 6, 11] [0, 1, 2, 3, 4, 7, 8, 9, 10] rfl rfl (pm_of (N := 12) rfl (by decide +kernel))) 0 rfl rfl rfl [] rfl (Nat.le_of_ble_eq_true rfl) ⟨show ((414 + j257 * 11) + 1) + 9 ≤ 966 by omega, show ((4536 + j257 * 62) + 24) + 36 ≤ 9480 by omega⟩ dX7_pass_313 316 ((414 + j257 * 11) + 10) ((4536 + j257 * 62) + 60) rfl ⟨by omega, by omega⟩ (fun u_36 _ => ?_)
          refine vs_app ?_
          refine vv_seg [3, 4, 5, 6, 7, 0, 1, 8, 9, 10, 11, 12, 2] [] [sO m0 hour ropes broken windX windY oW oB a2_128e oP, [aR c oW nW (fun i => some (WA i))], [aR c oB nB (fun i => some (BA i))], [aR c a2_128e r_27.2.2.1 (fun i => some (TA (r_27.2.2.2 i)))], [aR c oP nP (fun i => some (PA i))], [aR c q_28 nB (fun i => Option.map XA_257 (sc250_257 i))], [aZ c u_32 nB r_31], [aI c u_36 4 r_35], rowsW c WA nW 7 wF, rowsW c BA nB 9 r_13.2.2.1, rowsW c TA nR 4 r_27.1, rowsW c PA nP 2 r_13.2.2.2, rowsW c XA_257 nX_257 2 xF_257] rfl (pm_of (N := 13) rfl (by decide +kernel)) ?_
          refine vv_astore C [(6, .ref u_36), (5, .ref u_32), (0, .ref m0), (1, .int r_27.2.1), (3, .ref q_28), (4, .int (nI j257))] dX7_pass_316 (by decide) rfl 318 rfl ?_
          refine vv_iconst C (v := 2) dX7_pass_318 (by decide) 319 rfl ?_
          refine vv_aload_n C dX7_pass_319 rfl 2 rfl 320 rfl ?_
          refine vv_aload C dX7_pass_320 1 rfl 322 rfl ?_
          refine vv_iconst C (v := 2) dX7_pass_322 (by decide) 323 rfl ?_
          obtain ⟨r_37, hr_37, h⟩ := bnd_s h
          refine vs_callVi C (S := Unit) (fun l => mt_X7_sum l D c m0 oW oB a2_128e oP WA BA TA PA hour ropes broken windX windY nW nB r_27.2.2.1 nP nR r_27.2.2.2 wF r_13.2.2.1 r_27.1 r_13.2.2.2 u_32 nB r_31 2 r_37 hr_37) gX7_pass_X7_sum rfl rfl rfl yd_X7_sum ⟨Nat.le_of_ble_eq_true rfl, Nat.le_of_ble_eq_true rfl⟩ (List.flatten [[aR c q_28 nB (fun i => Option.map XA_257 (sc250_257 i))], [aI c u_36 4 r_35], rowsW c XA_257 nX_257 2 xF_257]) (sg_pick2 [5, 7, 12] [0, 1, 2, 3, 4, 6, 8, 9, 10, 11] rfl rfl (pm_of (N := 13) rfl (by decide +kernel))) 0 rfl rfl rfl [.int 2] rfl (Nat.le_of_ble_eq_true rfl) ⟨show ((414 + j257 * 11) + 10) + 0 ≤ 966 by omega, show ((4536 + j257 * 62) + 60) + 0 ≤ 9480 by omega⟩ dX7_pass_323 326 ((414 + j257 * 11) + 10) ((4536 + j257 * 62) + 60) rfl ⟨by omega, by omega⟩ (fun _ u_38 hu => ?_)
          rw [hu]
          refine vs_app ?_
          refine vv_seg [3, 4, 5, 6, 7, 0, 8, 1, 9, 10, 11, 12, 2] [] [sO m0 hour ropes broken windX windY oW oB a2_128e oP, [aR c oW nW (fun i => some (WA i))], [aR c oB nB (fun i => some (BA i))], [aR c a2_128e r_27.2.2.1 (fun i => some (TA (r_27.2.2.2 i)))], [aR c oP nP (fun i => some (PA i))], [aR c q_28 nB (fun i => Option.map XA_257 (sc250_257 i))], [aZ c u_32 nB r_31], [aI c u_36 4 r_35], rowsW c WA nW 7 wF, rowsW c BA nB 9 r_13.2.2.1, rowsW c TA nR 4 r_27.1, rowsW c PA nP 2 r_13.2.2.2, rowsW c XA_257 nX_257 2 xF_257] rfl (pm_of (N := 13) rfl (by decide +kernel)) ?_
          refine vv_imul C dX7_pass_326 327 rfl ?_
          refine vv_aload_n C dX7_pass_327 rfl 2 rfl 328 rfl ?_
          refine vv_aload C dX7_pass_328 1 rfl 330 rfl ?_
          refine vv_iconst C (v := 1) dX7_pass_330 (by decide) 331 rfl ?_
          obtain ⟨r_39, hr_39, h⟩ := bnd_s h
          refine vs_callVi C (S := Unit) (fun l => mt_X7_sum l D c m0 oW oB a2_128e oP WA BA TA PA hour ropes broken windX windY nW nB r_27.2.2.1 nP nR r_27.2.2.2 wF r_13.2.2.1 r_27.1 r_13.2.2.2 u_32 nB r_31 1 r_39 hr_39) gX7_pass_X7_sum rfl rfl rfl yd_X7_sum ⟨Nat.le_of_ble_eq_true rfl, Nat.le_of_ble_eq_true rfl⟩ (List.flatten [[aR c q_28 nB (fun i => Option.map XA_257 (sc250_257 i))], [aI c u_36 4 r_35], rowsW c XA_257 nX_257 2 xF_257]) (sg_pick2 [5, 7, 12] [0, 1, 2, 3, 4, 6, 8, 9, 10, 11] rfl rfl (pm_of (N := 13) rfl (by decide +kernel))) 0 rfl rfl rfl [.int (2 * r_37)] rfl (Nat.le_of_ble_eq_true rfl) ⟨show ((414 + j257 * 11) + 10) + 0 ≤ 966 by omega, show ((4536 + j257 * 62) + 60) + 0 ≤ 9480 by omega⟩ dX7_pass_331 334 ((414 + j257 * 11) + 10) ((4536 + j257 * 62) + 60) rfl ⟨by omega, by omega⟩ (fun _ u_40 hu => ?_)
          rw [hu]
          refine vs_app ?_
          refine vv_seg [3, 4, 5, 6, 7, 0, 8, 1, 9, 10, 11, 12, 2] [] [sO m0 hour ropes broken windX windY oW oB a2_128e oP, [aR c oW nW (fun i => some (WA i))], [aR c oB nB (fun i => some (BA i))], [aR c a2_128e r_27.2.2.1 (fun i => some (TA (r_27.2.2.2 i)))], [aR c oP nP (fun i => some (PA i))], [aR c q_28 nB (fun i => Option.map XA_257 (sc250_257 i))], [aZ c u_32 nB r_31], [aI c u_36 4 r_35], rowsW c WA nW 7 wF, rowsW c BA nB 9 r_13.2.2.1, rowsW c TA nR 4 r_27.1, rowsW c PA nP 2 r_13.2.2.2, rowsW c XA_257 nX_257 2 xF_257] rfl (pm_of (N := 13) rfl (by decide +kernel)) ?_
          obtain ⟨k342, hk342, h⟩ := jn_s h
          have J342 : ∀  (x342 : Int32), k342 x342 = some q257 → VV g D 10 ((414 + j257 * 11) + 10) ((4536 + j257 * 62) + 60) (List.flatten [sO m0 hour ropes broken windX windY oW oB a2_128e oP, [aR c oW nW (fun i => some (WA i))], [aR c oB nB (fun i => some (BA i))], [aR c a2_128e r_27.2.2.1 (fun i => some (TA (r_27.2.2.2 i)))], [aR c oP nP (fun i => some (PA i))], [aR c q_28 nB (fun i => Option.map XA_257 (sc250_257 i))], [aI c u_36 4 r_35], rowsW c WA nW 7 wF, rowsW c BA nB 9 r_13.2.2.1, rowsW c TA nR 4 r_27.1, rowsW c PA nP 2 r_13.2.2.2, rowsW c XA_257 nX_257 2 xF_257]) [(0, .ref m0), (1, .int r_27.2.1), (3, .ref q_28), (4, .int (nI j257)), (6, .ref u_36)] 342 [.int x342] := by
            intro x342 h
            replace h := jn_u hk342 h
            refine vv_istore C [(7, .int x342), (0, .ref m0), (1, .int r_27.2.1), (3, .ref q_28), (4, .int (nI j257)), (6, .ref u_36)] dX7_pass_342 (by decide) rfl 344 rfl ?_
            refine vv_aload_n C dX7_pass_344 rfl 1 rfl 345 rfl ?_
            refine vv_get C (q0 := 0) (ci := 7) (k := 6) kinX7_pass_X7 rfl rfl (by decide) kwX7_pass_1 rfl rfl dX7_pass_345 348 rfl ?_
            refine vv_iload C dX7_pass_348 4 rfl 350 rfl ?_
            refine vs_aald C (q0 := 2) (k := j257) rfl (nI_in (show j257 < nB by omega) (by omega)) (nI_clamp (show j257 < 2 ^ 31 by omega)) dX7_pass_350 351 rfl ?_
            refine vv_eq (st' := [.ref (BA j257)]) rfl rfl rfl ?_
            refine vv_bipush C (v := 7) dX7_pass_351 (by decide) 353 rfl ?_
            refine vs_iald C (r := j257) 8 rfl (show j257 < nB by omega) (inB_t (by decide)) dX7_pass_353 354 rfl ?_
            refine vv_aload C dX7_pass_354 5 rfl 356 rfl ?_
            refine vv_iconst C (v := 0) dX7_pass_356 (by decide) 357 rfl ?_
            refine vv_iald C (q0 := 6) rfl (inB_t (by decide)) dX7_pass_357 358 rfl ?_
            refine vv_iadd C dX7_pass_358 359 rfl ?_
            refine vv_iload C dX7_pass_359 0 rfl 361 rfl ?_
            obtain ⟨k372, hk372, h⟩ := jn_s h
            have J372 : ∀  (x372 : Int32), k372 x372 = some q257 → VV g D 10 ((414 + j257 * 11) + 10) ((4536 + j257 * 62) + 60) (List.flatten [sO m0 hour ropes broken windX windY oW oB a2_128e oP, [aR c oW nW (fun i => some (WA i))], [aR c oB nB (fun i => some (BA i))], [aR c a2_128e r_27.2.2.1 (fun i => some (TA (r_27.2.2.2 i)))], [aR c oP nP (fun i => some (PA i))], [aR c q_28 nB (fun i => Option.map XA_257 (sc250_257 i))], [aI c u_36 4 r_35], rowsW c WA nW 7 wF, rowsW c BA nB 9 r_13.2.2.1, rowsW c TA nR 4 r_27.1, rowsW c PA nP 2 r_13.2.2.2, rowsW c XA_257 nX_257 2 xF_257]) [(0, .ref m0), (1, .int r_27.2.1), (3, .ref q_28), (4, .int (nI j257)), (6, .ref u_36), (7, .int x342)] 372 [.int x372, .int ((rd (r_13.2.2.1 j257) 7) + (rd r_35 0))] := by
              intro x372 h
              replace h := jn_u hk372 h
              refine vv_iadd C dX7_pass_372 373 rfl ?_
              refine vv_istore C [(8, .int (((rd (r_13.2.2.1 j257) 7) + (rd r_35 0)) + x372)), (0, .ref m0), (1, .int r_27.2.1), (3, .ref q_28), (4, .int (nI j257)), (6, .ref u_36), (7, .int x342)] dX7_pass_373 (by decide) rfl 375 rfl ?_
              refine vv_aload_n C dX7_pass_375 rfl 1 rfl 376 rfl ?_
              refine vv_get C (q0 := 0) (ci := 7) (k := 6) kinX7_pass_X7 rfl rfl (by decide) kwX7_pass_1 rfl rfl dX7_pass_376 379 rfl ?_
              refine vv_iload C dX7_pass_379 4 rfl 381 rfl ?_
              refine vs_aald C (q0 := 2) (k := j257) rfl (nI_in (show j257 < nB by omega) (by omega)) (nI_clamp (show j257 < 2 ^ 31 by omega)) dX7_pass_381 382 rfl ?_
              refine vv_eq (st' := [.ref (BA j257)]) rfl rfl rfl ?_
              refine vv_bipush C (v := 8) dX7_pass_382 (by decide) 384 rfl ?_
              refine vs_iald C (r := j257) 8 rfl (show j257 < nB by omega) (inB_t (by decide)) dX7_pass_384 385 rfl ?_
              refine vv_aload C dX7_pass_385 5 rfl 387 rfl ?_
              refine vv_iconst C (v := 1) dX7_pass_387 (by decide) 388 rfl ?_
              refine vv_iald C (q0 := 6) rfl (inB_t (by decide)) dX7_pass_388 389 rfl ?_
              refine vv_iadd C dX7_pass_389 390 rfl ?_
              refine vv_iload C dX7_pass_390 6 rfl 392 rfl ?_
              obtain ⟨k403, hk403, h⟩ := jn_s h
              have J403 : ∀  (x403 : Int32), k403 x403 = some q257 → VV g D 10 ((414 + j257 * 11) + 10) ((4536 + j257 * 62) + 60) (List.flatten [sO m0 hour ropes broken windX windY oW oB a2_128e oP, [aR c oW nW (fun i => some (WA i))], [aR c oB nB (fun i => some (BA i))], [aR c a2_128e r_27.2.2.1 (fun i => some (TA (r_27.2.2.2 i)))], [aR c oP nP (fun i => some (PA i))], [aR c q_28 nB (fun i => Option.map XA_257 (sc250_257 i))], rowsW c WA nW 7 wF, rowsW c BA nB 9 r_13.2.2.1, rowsW c TA nR 4 r_27.1, rowsW c PA nP 2 r_13.2.2.2, rowsW c XA_257 nX_257 2 xF_257]) [(0, .ref m0), (1, .int r_27.2.1), (3, .ref q_28), (4, .int (nI j257)), (8, .int (((rd (r_13.2.2.1 j257) 7) + (rd r_35 0)) + x372))] 403 [.int x403, .int ((rd (r_13.2.2.1 j257) 8) + (rd r_35 1))] := by
                intro x403 h
                replace h := jn_u hk403 h
                refine vv_iadd C dX7_pass_403 404 rfl ?_
                refine vv_istore C [(9, .int (((rd (r_13.2.2.1 j257) 8) + (rd r_35 1)) + x403)), (0, .ref m0), (1, .int r_27.2.1), (3, .ref q_28), (4, .int (nI j257)), (8, .int (((rd (r_13.2.2.1 j257) 7) + (rd r_35 0)) + x372))] dX7_pass_404 (by decide) rfl 406 rfl ?_
                refine vv_aload_n C dX7_pass_406 rfl 3 rfl 407 rfl ?_
                refine vv_iload C dX7_pass_407 4 rfl 409 rfl ?_
                refine vv_iconst C (v := 2) dX7_pass_409 (by decide) 410 rfl ?_
                refine vv_newa C (N := 2) kwX7_pass_13 (by decide) (by decide) (by decide) ⟨show ((414 + j257 * 11) + 10) + 1 ≤ 966 by omega, show ((4536 + j257 * 62) + 60) + 2 ≤ 9480 by omega⟩ dX7_pass_410 412 ((414 + j257 * 11) + 11) ((4536 + j257 * 62) + 62) rfl ⟨by omega, by omega⟩ (fun q_43 => ?_)
                refine vs_snoc ?_
                refine vv_seg [0, 1, 2, 3, 4, 5, 11, 6, 7, 8, 9, 10] [] [sO m0 hour ropes broken windX windY oW oB a2_128e oP, [aR c oW nW (fun i => some (WA i))], [aR c oB nB (fun i => some (BA i))], [aR c a2_128e r_27.2.2.1 (fun i => some (TA (r_27.2.2.2 i)))], [aR c oP nP (fun i => some (PA i))], [aR c q_28 nB (fun i => Option.map XA_257 (sc250_257 i))], [aI c q_43 2 (fun _ => 0)], rowsW c WA nW 7 wF, rowsW c BA nB 9 r_13.2.2.1, rowsW c TA nR 4 r_27.1, rowsW c PA nP 2 r_13.2.2.2, rowsW c XA_257 nX_257 2 xF_257] rfl (pm_of (N := 12) rfl (by decide +kernel)) ?_
                refine vv_dup C dX7_pass_412 rfl 413 rfl ?_
                refine vv_iconst C (v := 0) dX7_pass_413 (by decide) 414 rfl ?_
                refine vv_iload C dX7_pass_414 5 rfl 416 rfl ?_
                obtain ⟨k437, hk437, h⟩ := jn_s h
                have J437 : ∀  (x437 : Int32), k437 x437 = some q257 → VV g D 10 ((414 + j257 * 11) + 11) ((4536 + j257 * 62) + 62) (List.flatten [sO m0 hour ropes broken windX windY oW oB a2_128e oP, [aR c oW nW (fun i => some (WA i))], [aR c oB nB (fun i => some (BA i))], [aR c a2_128e r_27.2.2.1 (fun i => some (TA (r_27.2.2.2 i)))], [aR c oP nP (fun i => some (PA i))], [aR c q_28 nB (fun i => Option.map XA_257 (sc250_257 i))], [aI c q_43 2 (fun _ => 0)], rowsW c WA nW 7 wF, rowsW c BA nB 9 r_13.2.2.1, rowsW c TA nR 4 r_27.1, rowsW c PA nP 2 r_13.2.2.2, rowsW c XA_257 nX_257 2 xF_257]) [(0, .ref m0), (1, .int r_27.2.1), (3, .ref q_28), (4, .int (nI j257)), (9, .int (((rd (r_13.2.2.1 j257) 8) + (rd r_35 1)) + x403))] 437 [.int x437, .int 0, .ref q_43, .ref q_43, .int (nI j257), .ref q_28] := by
                  intro x437 h
                  replace h := jn_u hk437 h
                  refine vv_iast C (q0 := 6) (List.flatten [sO m0 hour ropes broken windX windY oW oB a2_128e oP, [aR c oW nW (fun i => some (WA i))], [aR c oB nB (fun i => some (BA i))], [aR c a2_128e r_27.2.2.1 (fun i => some (TA (r_27.2.2.2 i)))], [aR c oP nP (fun i => some (PA i))], [aR c q_28 nB (fun i => Option.map XA_257 (sc250_257 i))], [aI c q_43 2 (wr (fun _ => 0) 0 x437)], rowsW c WA nW 7 wF, rowsW c BA nB 9 r_13.2.2.1, rowsW c TA nR 4 r_27.1, rowsW c PA nP 2 r_13.2.2.2, rowsW c XA_257 nX_257 2 xF_257]) rfl (inB_t (by decide)) rfl dX7_pass_437 438 rfl ?_
                  refine vv_dup C dX7_pass_438 rfl 439 rfl ?_
                  refine vv_iconst C (v := 1) dX7_pass_439 (by decide) 440 rfl ?_
                  refine vv_iload C dX7_pass_440 4 rfl 442 rfl ?_
                  refine vv_if_ge C 449 445 dX7_pass_442 (by decide) rfl (fun hc => ?_) (fun hc => ?_)
                  · replace h := ite_t hc h
                    refine vv_iload C dX7_pass_449 4 rfl 451 rfl ?_
                    refine vv_bipush C (v := 19) dX7_pass_451 (by decide) 453 rfl ?_
                    refine vv_icmp_le C 461 456 dX7_pass_453 (by decide) rfl (fun hc => ?_) (fun hc => ?_)
                    · replace h := ite_t hc h
                      refine vv_iload C dX7_pass_461 4 rfl 463 rfl ?_
                      refine vv_iast C (q0 := 6) (List.flatten [sO m0 hour ropes broken windX windY oW oB a2_128e oP, [aR c oW nW (fun i => some (WA i))], [aR c oB nB (fun i => some (BA i))], [aR c a2_128e r_27.2.2.1 (fun i => some (TA (r_27.2.2.2 i)))], [aR c oP nP (fun i => some (PA i))], [aR c q_28 nB (fun i => Option.map XA_257 (sc250_257 i))], [aI c q_43 2 (wr (wr (fun _ => 0) 0 x437) 1 (((rd (r_13.2.2.1 j257) 8) + (rd r_35 1)) + x403))], rowsW c WA nW 7 wF, rowsW c BA nB 9 r_13.2.2.1, rowsW c TA nR 4 r_27.1, rowsW c PA nP 2 r_13.2.2.2, rowsW c XA_257 nX_257 2 xF_257]) rfl (inB_t (by decide)) rfl dX7_pass_463 464 rfl ?_
                      obtain ⟨hb_44, h⟩ := chkP_s h
                      refine vs_aast C (q0 := 5) (List.flatten [sO m0 hour ropes broken windX windY oW oB a2_128e oP, [aR c oW nW (fun i => some (WA i))], [aR c oB nB (fun i => some (BA i))], [aR c a2_128e r_27.2.2.1 (fun i => some (TA (r_27.2.2.2 i)))], [aR c oP nP (fun i => some (PA i))], [aR c q_28 nB (va_up (fun i => Option.map XA_257 (sc250_257 i)) (nI j257).toNatClampNeg (some q_43))], [aI c q_43 2 (wr (wr (fun _ => 0) 0 x437) 1 (((rd (r_13.2.2.1 j257) 8) + (rd r_35 1)) + x403))], rowsW c WA nW 7 wF, rowsW c BA nB 9 r_13.2.2.1, rowsW c TA nR 4 r_27.1, rowsW c PA nP 2 r_13.2.2.2, rowsW c XA_257 nX_257 2 xF_257]) rfl (List.mem_of_getElem? (i := 6) rfl) (nI_in (show j257 < nB by omega) (by omega)) rfl dX7_pass_464 465 rfl ?_
                      refine vs_grow [0, 1, 2, 3, 4, 5, 7, 8, 9, 10] 11 6 [sO m0 hour ropes broken windX windY oW oB a2_128e oP, [aR c oW nW (fun i => some (WA i))], [aR c oB nB (fun i => some (BA i))], [aR c a2_128e r_27.2.2.1 (fun i => some (TA (r_27.2.2.2 i)))], [aR c oP nP (fun i => some (PA i))], [aR c q_28 nB (va_up (fun i => Option.map XA_257 (sc250_257 i)) (nI j257).toNatClampNeg (some q_43))], rowsW c WA nW 7 wF, rowsW c BA nB 9 r_13.2.2.1, rowsW c TA nR 4 r_27.1, rowsW c PA nP 2 r_13.2.2.2] rfl rfl rfl (pm_of (N := 12) rfl (by decide +kernel)) ?_
                      refine vs_out (segs' := [sO m0 hour ropes broken windX windY oW oB a2_128e oP, [aR c oW nW (fun i => some (WA i))], [aR c oB nB (fun i => some (BA i))], [aR c a2_128e r_27.2.2.1 (fun i => some (TA (r_27.2.2.2 i)))], [aR c oP nP (fun i => some (PA i))], [aR c q_28 nB (fun i => Option.map (uN XA_257 nX_257 q_43) ((uO sc250_257 j257 nX_257) i))], rowsW c WA nW 7 wF, rowsW c BA nB 9 r_13.2.2.1, rowsW c TA nR 4 r_27.1, rowsW c PA nP 2 r_13.2.2.2, rowsW c (uN XA_257 nX_257 q_43) (nX_257 + 1) 2 (uF xF_257 nX_257 (wr (wr (fun _ => 0) 0 x437) 1 (((rd (r_13.2.2.1 j257) 8) + (rd r_35 1)) + x403)))]) 5 rfl (to_ext (nI_clamp (show j257 < 2 ^ 31 by omega)) hb_44) rfl ?_
                      refine vv_iinc C (k := 3) [(4, .int (nI (j257 + 1))), (0, .ref m0), (1, .int r_27.2.1), (3, .ref q_28), (9, .int (((rd (r_13.2.2.1 j257) 8) + (rd r_35 1)) + x403))] dX7_pass_465 rfl nI_inc (by decide) rfl 468 rfl ?_
                      refine vv_goto C 257 dX7_pass_468 (by decide) ?_
                      refine vv_lv [1, 2, 3, 0] [(0, .ref m0), (1, .int r_27.2.1), (3, .ref q_28), (4, .int (nI (j257 + 1)))] rfl ?_
                      refine vv_widen (k := 414 + (j257 + 1) * 11) (n := 4536 + (j257 + 1) * 62) (by omega) (by omega) ?_
                      exact ih257 (j257 + 1) (uN XA_257 nX_257 q_43) (nX_257 + 1) (uF xF_257 nX_257 (wr (wr (fun _ => 0) 0 x437) 1 (((rd (r_13.2.2.1 j257) 8) + (rd r_35 1)) + x403))) (uO sc250_257 j257 nX_257) _ (by omega) h kk257
                    · replace h := ite_f hc h
                      refine vv_bipush C (v := 19) dX7_pass_456 (by decide) 458 rfl ?_
                      refine vv_goto C 463 dX7_pass_458 (by decide) ?_
                      refine vv_iast C (q0 := 6) (List.flatten [sO m0 hour ropes broken windX windY oW oB a2_128e oP, [aR c oW nW (fun i => some (WA i))], [aR c oB nB (fun i => some (BA i))], [aR c a2_128e r_27.2.2.1 (fun i => some (TA (r_27.2.2.2 i)))], [aR c oP nP (fun i => some (PA i))], [aR c q_28 nB (fun i => Option.map XA_257 (sc250_257 i))], [aI c q_43 2 (wr (wr (fun _ => 0) 0 x437) 1 19)], rowsW c WA nW 7 wF, rowsW c BA nB 9 r_13.2.2.1, rowsW c TA nR 4 r_27.1, rowsW c PA nP 2 r_13.2.2.2, rowsW c XA_257 nX_257 2 xF_257]) rfl (inB_t (by decide)) rfl dX7_pass_463 464 rfl ?_
                      obtain ⟨hb_45, h⟩ := chkP_s h
                      refine vs_aast C (q0 := 5) (List.flatten [sO m0 hour ropes broken windX windY oW oB a2_128e oP, [aR c oW nW (fun i => some (WA i))], [aR c oB nB (fun i => some (BA i))], [aR c a2_128e r_27.2.2.1 (fun i => some (TA (r_27.2.2.2 i)))], [aR c oP nP (fun i => some (PA i))], [aR c q_28 nB (va_up (fun i => Option.map XA_257 (sc250_257 i)) (nI j257).toNatClampNeg (some q_43))], [aI c q_43 2 (wr (wr (fun _ => 0) 0 x437) 1 19)], rowsW c WA nW 7 wF, rowsW c BA nB 9 r_13.2.2.1, rowsW c TA nR 4 r_27.1, rowsW c PA nP 2 r_13.2.2.2, rowsW c XA_257 nX_257 2 xF_257]) rfl (List.mem_of_getElem? (i := 6) rfl) (nI_in (show j257 < nB by omega) (by omega)) rfl dX7_pass_464 465 rfl ?_
                      refine vs_grow [0, 1, 2, 3, 4, 5, 7, 8, 9, 10] 11 6 [sO m0 hour ropes broken windX windY oW oB a2_128e oP, [aR c oW nW (fun i => some (WA i))], [aR c oB nB (fun i => some (BA i))], [aR c a2_128e r_27.2.2.1 (fun i => some (TA (r_27.2.2.2 i)))], [aR c oP nP (fun i => some (PA i))], [aR c q_28 nB (va_up (fun i => Option.map XA_257 (sc250_257 i)) (nI j257).toNatClampNeg (some q_43))], rowsW c WA nW 7 wF, rowsW c BA nB 9 r_13.2.2.1, rowsW c TA nR 4 r_27.1, rowsW c PA nP 2 r_13.2.2.2] rfl rfl rfl (pm_of (N := 12) rfl (by decide +kernel)) ?_
                      refine vs_out (segs' := [sO m0 hour ropes broken windX windY oW oB a2_128e oP, [aR c oW nW (fun i => some (WA i))], [aR c oB nB (fun i => some (BA i))], [aR c a2_128e r_27.2.2.1 (fun i => some (TA (r_27.2.2.2 i)))], [aR c oP nP (fun i => some (PA i))], [aR c q_28 nB (fun i => Option.map (uN XA_257 nX_257 q_43) ((uO sc250_257 j257 nX_257) i))], rowsW c WA nW 7 wF, rowsW c BA nB 9 r_13.2.2.1, rowsW c TA nR 4 r_27.1, rowsW c PA nP 2 r_13.2.2.2, rowsW c (uN XA_257 nX_257 q_43) (nX_257 + 1) 2 (uF xF_257 nX_257 (wr (wr (fun _ => 0) 0 x437) 1 19))]) 5 rfl (to_ext (nI_clamp (show j257 < 2 ^ 31 by omega)) hb_45) rfl ?_
                      refine vv_iinc C (k := 3) [(4, .int (nI (j257 + 1))), (0, .ref m0), (1, .int r_27.2.1), (3, .ref q_28), (9, .int (((rd (r_13.2.2.1 j257) 8) + (rd r_35 1)) + x403))] dX7_pass_465 rfl nI_inc (by decide) rfl 468 rfl ?_
                      refine vv_goto C 257 dX7_pass_468 (by decide) ?_
                      refine vv_lv [1, 2, 3, 0] [(0, .ref m0), (1, .int r_27.2.1), (3, .ref q_28), (4, .int (nI (j257 + 1)))] rfl ?_
                      refine vv_widen (k := 414 + (j257 + 1) * 11) (n := 4536 + (j257 + 1) * 62) (by omega) (by omega) ?_
                      exact ih257 (j257 + 1) (uN XA_257 nX_257 q_43) (nX_257 + 1) (uF xF_257 nX_257 (wr (wr (fun _ => 0) 0 x437) 1 19)) (uO sc250_257 j257 nX_257) _ (by omega) h kk257
                  · replace h := ite_f hc h
                    refine vv_iconst C (v := 0) dX7_pass_445 (by decide) 446 rfl ?_
                    refine vv_goto C 463 dX7_pass_446 (by decide) ?_
                    refine vv_iast C (q0 := 6) (List.flatten [sO m0 hour ropes broken windX windY oW oB a2_128e oP, [aR c oW nW (fun i => some (WA i))], [aR c oB nB (fun i => some (BA i))], [aR c a2_128e r_27.2.2.1 (fun i => some (TA (r_27.2.2.2 i)))], [aR c oP nP (fun i => some (PA i))], [aR c q_28 nB (fun i => Option.map XA_257 (sc250_257 i))], [aI c q_43 2 (wr (wr (fun _ => 0) 0 x437) 1 0)], rowsW c WA nW 7 wF, rowsW c BA nB 9 r_13.2.2.1, rowsW c TA nR 4 r_27.1, rowsW c PA nP 2 r_13.2.2.2, rowsW c XA_257 nX_257 2 xF_257]) rfl (inB_t (by decide)) rfl dX7_pass_463 464 rfl ?_
                    obtain ⟨hb_46, h⟩ := chkP_s h
                    refine vs_aast C (q0 := 5) (List.flatten [sO m0 hour ropes broken windX windY oW oB a2_128e oP, [aR c oW nW (fun i => some (WA i))], [aR c oB nB (fun i => some (BA i))], [aR c a2_128e r_27.2.2.1 (fun i => some (TA (r_27.2.2.2 i)))], [aR c oP nP (fun i => some (PA i))], [aR c q_28 nB (va_up (fun i => Option.map XA_257 (sc250_257 i)) (nI j257).toNatClampNeg (some q_43))], [aI c q_43 2 (wr (wr (fun _ => 0) 0 x437) 1 0)], rowsW c WA nW 7 wF, rowsW c BA nB 9 r_13.2.2.1, rowsW c TA nR 4 r_27.1, rowsW c PA nP 2 r_13.2.2.2, rowsW c XA_257 nX_257 2 xF_257]) rfl (List.mem_of_getElem? (i := 6) rfl) (nI_in (show j257 < nB by omega) (by omega)) rfl dX7_pass_464 465 rfl ?_
                    refine vs_grow [0, 1, 2, 3, 4, 5, 7, 8, 9, 10] 11 6 [sO m0 hour ropes broken windX windY oW oB a2_128e oP, [aR c oW nW (fun i => some (WA i))], [aR c oB nB (fun i => some (BA i))], [aR c a2_128e r_27.2.2.1 (fun i => some (TA (r_27.2.2.2 i)))], [aR c oP nP (fun i => some (PA i))], [aR c q_28 nB (va_up (fun i => Option.map XA_257 (sc250_257 i)) (nI j257).toNatClampNeg (some q_43))], rowsW c WA nW 7 wF, rowsW c BA nB 9 r_13.2.2.1, rowsW c TA nR 4 r_27.1, rowsW c PA nP 2 r_13.2.2.2] rfl rfl rfl (pm_of (N := 12) rfl (by decide +kernel)) ?_
                    refine vs_out (segs' := [sO m0 hour ropes broken windX windY oW oB a2_128e oP, [aR c oW nW (fun i => some (WA i))], [aR c oB nB (fun i => some (BA i))], [aR c a2_128e r_27.2.2.1 (fun i => some (TA (r_27.2.2.2 i)))], [aR c oP nP (fun i => some (PA i))], [aR c q_28 nB (fun i => Option.map (uN XA_257 nX_257 q_43) ((uO sc250_257 j257 nX_257) i))], rowsW c WA nW 7 wF, rowsW c BA nB 9 r_13.2.2.1, rowsW c TA nR 4 r_27.1, rowsW c PA nP 2 r_13.2.2.2, rowsW c (uN XA_257 nX_257 q_43) (nX_257 + 1) 2 (uF xF_257 nX_257 (wr (wr (fun _ => 0) 0 x437) 1 0))]) 5 rfl (to_ext (nI_clamp (show j257 < 2 ^ 31 by omega)) hb_46) rfl ?_
                    refine vv_iinc C (k := 3) [(4, .int (nI (j257 + 1))), (0, .ref m0), (1, .int r_27.2.1), (3, .ref q_28), (9, .int (((rd (r_13.2.2.1 j257) 8) + (rd r_35 1)) + x403))] dX7_pass_465 rfl nI_inc (by decide) rfl 468 rfl ?_
                    refine vv_goto C 257 dX7_pass_468 (by decide) ?_
                    refine vv_lv [1, 2, 3, 0] [(0, .ref m0), (1, .int r_27.2.1), (3, .ref q_28), (4, .int (nI (j257 + 1)))] rfl ?_
                    refine vv_widen (k := 414 + (j257 + 1) * 11) (n := 4536 + (j257 + 1) * 62) (by omega) (by omega) ?_
                    exact ih257 (j257 + 1) (uN XA_257 nX_257 q_43) (nX_257 + 1) (uF xF_257 nX_257 (wr (wr (fun _ => 0) 0 x437) 1 0)) (uO sc250_257 j257 nX_257) _ (by omega) h kk257
                refine vv_if_ge C 423 419 dX7_pass_416 (by decide) rfl (fun hc => ?_) (fun hc => ?_)
                · replace h := ite_t hc h
                  refine vv_iload C dX7_pass_423 5 rfl 425 rfl ?_
                  refine vv_bipush C (v := 29) dX7_pass_425 (by decide) 427 rfl ?_
                  refine vv_icmp_le C 435 430 dX7_pass_427 (by decide) rfl (fun hc => ?_) (fun hc => ?_)
                  · replace h := ite_t hc h
                    refine vv_iload C dX7_pass_435 5 rfl 437 rfl ?_
                    refine vv_lv [1, 2, 3, 4, 0] [(0, .ref m0), (1, .int r_27.2.1), (3, .ref q_28), (4, .int (nI j257)), (9, .int (((rd (r_13.2.2.1 j257) 8) + (rd r_35 1)) + x403))] rfl ?_
                    exact J437 (((rd (r_13.2.2.1 j257) 7) + (rd r_35 0)) + x372) h
                  · replace h := ite_f hc h
                    refine vv_bipush C (v := 29) dX7_pass_430 (by decide) 432 rfl ?_
                    refine vv_goto C 437 dX7_pass_432 (by decide) ?_
                    refine vv_lv [1, 2, 3, 4, 0] [(0, .ref m0), (1, .int r_27.2.1), (3, .ref q_28), (4, .int (nI j257)), (9, .int (((rd (r_13.2.2.1 j257) 8) + (rd r_35 1)) + x403))] rfl ?_
                    exact J437 29 h
                · replace h := ite_f hc h
                  refine vv_iconst C (v := 0) dX7_pass_419 (by decide) 420 rfl ?_
                  refine vv_goto C 437 dX7_pass_420 (by decide) ?_
                  refine vv_lv [1, 2, 3, 4, 0] [(0, .ref m0), (1, .int r_27.2.1), (3, .ref q_28), (4, .int (nI j257)), (9, .int (((rd (r_13.2.2.1 j257) 8) + (rd r_35 1)) + x403))] rfl ?_
                  exact J437 0 h
              refine vv_if_eq C 402 395 dX7_pass_392 (by decide) rfl (fun hc => ?_) (fun hc => ?_)
              · replace h := ite_t hc h
                refine vv_iconst C (v := 0) dX7_pass_402 (by decide) 403 rfl ?_
                refine vv_lv [1, 2, 3, 4, 0] [(0, .ref m0), (1, .int r_27.2.1), (3, .ref q_28), (4, .int (nI j257)), (8, .int (((rd (r_13.2.2.1 j257) 7) + (rd r_35 0)) + x372))] rfl ?_
                refine vv_seg [0, 1, 2, 3, 4, 5, 7, 8, 9, 10, 11] [6] [sO m0 hour ropes broken windX windY oW oB a2_128e oP, [aR c oW nW (fun i => some (WA i))], [aR c oB nB (fun i => some (BA i))], [aR c a2_128e r_27.2.2.1 (fun i => some (TA (r_27.2.2.2 i)))], [aR c oP nP (fun i => some (PA i))], [aR c q_28 nB (fun i => Option.map XA_257 (sc250_257 i))], rowsW c WA nW 7 wF, rowsW c BA nB 9 r_13.2.2.1, rowsW c TA nR 4 r_27.1, rowsW c PA nP 2 r_13.2.2.2, rowsW c XA_257 nX_257 2 xF_257] rfl (pm_of (N := 12) rfl (by decide +kernel)) ?_
                exact J403 0 h
              · replace h := ite_f hc h
                refine vv_aload_n C dX7_pass_395 rfl 1 rfl 396 rfl ?_
                refine vv_get C (q0 := 0) (ci := 7) (k := 4) kinX7_pass_X7 rfl rfl (by decide) kwX7_pass_12 rfl rfl dX7_pass_396 399 rfl ?_
                refine vv_goto C 403 dX7_pass_399 (by decide) ?_
                refine vv_lv [1, 2, 3, 4, 0] [(0, .ref m0), (1, .int r_27.2.1), (3, .ref q_28), (4, .int (nI j257)), (8, .int (((rd (r_13.2.2.1 j257) 7) + (rd r_35 0)) + x372))] rfl ?_
                refine vv_seg [0, 1, 2, 3, 4, 5, 7, 8, 9, 10, 11] [6] [sO m0 hour ropes broken windX windY oW oB a2_128e oP, [aR c oW nW (fun i => some (WA i))], [aR c oB nB (fun i => some (BA i))], [aR c a2_128e r_27.2.2.1 (fun i => some (TA (r_27.2.2.2 i)))], [aR c oP nP (fun i => some (PA i))], [aR c q_28 nB (fun i => Option.map XA_257 (sc250_257 i))], rowsW c WA nW 7 wF, rowsW c BA nB 9 r_13.2.2.1, rowsW c TA nR 4 r_27.1, rowsW c PA nP 2 r_13.2.2.2, rowsW c XA_257 nX_257 2 xF_257] rfl (pm_of (N := 12) rfl (by decide +kernel)) ?_
                exact J403 windY h
            refine vv_if_eq C 371 364 dX7_pass_361 (by decide) rfl (fun hc => ?_) (fun hc => ?_)
            · replace h := ite_t hc h
              refine vv_iconst C (v := 0) dX7_pass_371 (by decide) 372 rfl ?_
              refine vv_lv [1, 2, 3, 4, 5, 0] [(0, .ref m0), (1, .int r_27.2.1), (3, .ref q_28), (4, .int (nI j257)), (6, .ref u_36), (7, .int x342)] rfl ?_
              exact J372 0 h
            · replace h := ite_f hc h
              refine vv_aload_n C dX7_pass_364 rfl 1 rfl 365 rfl ?_
              refine vv_get C (q0 := 0) (ci := 7) (k := 3) kinX7_pass_X7 rfl rfl (by decide) kwX7_pass_11 rfl rfl dX7_pass_365 368 rfl ?_
              refine vv_goto C 372 dX7_pass_368 (by decide) ?_
              refine vv_lv [1, 2, 3, 4, 5, 0] [(0, .ref m0), (1, .int r_27.2.1), (3, .ref q_28), (4, .int (nI j257)), (6, .ref u_36), (7, .int x342)] rfl ?_
              exact J372 windX h
          refine vv_icmp_ge C 341 337 dX7_pass_334 (by decide) rfl (fun hc => ?_) (fun hc => ?_)
          · replace h := ite_t hc h
            refine vv_iconst C (v := 0) dX7_pass_341 (by decide) 342 rfl ?_
            refine vv_lv [2, 3, 4, 5, 0] [(0, .ref m0), (1, .int r_27.2.1), (3, .ref q_28), (4, .int (nI j257)), (6, .ref u_36)] rfl ?_
            refine vv_seg [0, 1, 2, 3, 4, 5, 7, 8, 9, 10, 11, 12] [6] [sO m0 hour ropes broken windX windY oW oB a2_128e oP, [aR c oW nW (fun i => some (WA i))], [aR c oB nB (fun i => some (BA i))], [aR c a2_128e r_27.2.2.1 (fun i => some (TA (r_27.2.2.2 i)))], [aR c oP nP (fun i => some (PA i))], [aR c q_28 nB (fun i => Option.map XA_257 (sc250_257 i))], [aI c u_36 4 r_35], rowsW c WA nW 7 wF, rowsW c BA nB 9 r_13.2.2.1, rowsW c TA nR 4 r_27.1, rowsW c PA nP 2 r_13.2.2.2, rowsW c XA_257 nX_257 2 xF_257] rfl (pm_of (N := 13) rfl (by decide +kernel)) ?_
            exact J342 0 h
          · replace h := ite_f hc h
            refine vv_iconst C (v := 1) dX7_pass_337 (by decide) 338 rfl ?_
            refine vv_goto C 342 dX7_pass_338 (by decide) ?_
            refine vv_lv [2, 3, 4, 5, 0] [(0, .ref m0), (1, .int r_27.2.1), (3, .ref q_28), (4, .int (nI j257)), (6, .ref u_36)] rfl ?_
            refine vv_seg [0, 1, 2, 3, 4, 5, 7, 8, 9, 10, 11, 12] [6] [sO m0 hour ropes broken windX windY oW oB a2_128e oP, [aR c oW nW (fun i => some (WA i))], [aR c oB nB (fun i => some (BA i))], [aR c a2_128e r_27.2.2.1 (fun i => some (TA (r_27.2.2.2 i)))], [aR c oP nP (fun i => some (PA i))], [aR c q_28 nB (fun i => Option.map XA_257 (sc250_257 i))], [aI c u_36 4 r_35], rowsW c WA nW 7 wF, rowsW c BA nB 9 r_13.2.2.1, rowsW c TA nR 4 r_27.1, rowsW c PA nP 2 r_13.2.2.2, rowsW c XA_257 nX_257 2 xF_257] rfl (pm_of (N := 13) rfl (by decide +kernel)) ?_
            exact J342 1 h
        · replace h := ite_f hc h
          refine vv_goto C 465 dX7_pass_280 (by decide) ?_
          refine vv_iinc C (k := 3) [(4, .int (nI (j257 + 1))), (0, .ref m0), (1, .int r_27.2.1), (3, .ref q_28)] dX7_pass_465 rfl nI_inc (by decide) rfl 468 rfl ?_
          refine vv_goto C 257 dX7_pass_468 (by decide) ?_
          refine vv_lv [1, 2, 3, 0] [(0, .ref m0), (1, .int r_27.2.1), (3, .ref q_28), (4, .int (nI (j257 + 1)))] rfl ?_
          refine vv_widen (k := 414 + (j257 + 1) * 11) (n := 4536 + (j257 + 1) * 62) (by omega) (by omega) ?_
          exact ih257 (j257 + 1) XA_257 nX_257 xF_257 sc250_257 _ (by omega) h kk257
  obtain ⟨r_47, hr_47, h⟩ := bnd_s h
  refine vv_cs (k := 414 + 0 * 11) (n := 4536 + 0 * 62) (by omega) (by omega) ?_
  refine L257 nB 0 (fun _ => 0) 0 (fun _ _ => 0) (fun _ => (none : Option Nat)) r_47 (Nat.zero_add _) hr_47 ?_
  intro XA_257e
  refine vv_widen (k := 678) (n := 6024) (by omega) (by omega) ?_
  refine vv_iconst C (v := 0) dX7_pass_471 (by decide) 472 rfl ?_
  refine vv_istore C [(4, .int 0), (0, .ref m0), (1, .int r_27.2.1), (3, .ref q_28)] dX7_pass_472 (by decide) rfl 474 rfl ?_
  refine vv_lv [1, 2, 3, 0] [(0, .ref m0), (1, .int r_27.2.1), (3, .ref q_28), (4, .int 0)] rfl ?_
  obtain ⟨hN474, h⟩ := chkP_s h
  have L474 : ∀ (n j474 : Nat) (bF_474 : Nat → Nat → Int32) (q474 : (Nat → Nat → Int32)), j474 + n = nB → jS_pass_L474 r_47.2.2 r_47.1 r_47.2.1 n j474 bF_474 = some q474 → (VV g D 10 678 6024 (List.flatten [sO m0 hour ropes broken windX windY oW oB a2_128e oP, [aR c oW nW (fun i => some (WA i))], [aR c oB nB (fun i => some (BA i))], [aR c a2_128e r_27.2.2.1 (fun i => some (TA (r_27.2.2.2 i)))], [aR c oP nP (fun i => some (PA i))], rowsW c WA nW 7 wF, rowsW c BA nB 9 q474, rowsW c TA nR 4 r_27.1, rowsW c PA nP 2 r_13.2.2.2, rowsW c XA_257e r_47.1 2 r_47.2.1]) [(0, .ref m0), (1, .int r_27.2.1)] 532 []) → VV g D 10 678 6024 (List.flatten [sO m0 hour ropes broken windX windY oW oB a2_128e oP, [aR c oW nW (fun i => some (WA i))], [aR c oB nB (fun i => some (BA i))], [aR c a2_128e r_27.2.2.1 (fun i => some (TA (r_27.2.2.2 i)))], [aR c oP nP (fun i => some (PA i))], [aR c q_28 nB (fun i => Option.map XA_257e (r_47.2.2 i))], rowsW c WA nW 7 wF, rowsW c BA nB 9 bF_474, rowsW c TA nR 4 r_27.1, rowsW c PA nP 2 r_13.2.2.2, rowsW c XA_257e r_47.1 2 r_47.2.1]) [(0, .ref m0), (1, .int r_27.2.1), (3, .ref q_28), (4, .int (nI j474))] 474 [] := by
    intro n
    induction n with
    | zero =>
      intro j474 bF_474 q474 hj474 h kk474
      rw [jS_pass_L474] at h
      refine vv_iload C dX7_pass_474 3 rfl 476 rfl ?_
      refine vv_aload_n C dX7_pass_476 rfl 0 rfl 477 rfl ?_
      refine vv_get C (q0 := 0) (ci := 7) (k := 6) kinX7_pass_X7 rfl rfl (by decide) kwX7_pass_1 rfl rfl dX7_pass_477 480 rfl ?_
      refine vs_alenR C (q0 := 2) rfl dX7_pass_480 481 rfl ?_
      refine vv_icmp_ge C 532 484 dX7_pass_481 (by decide) rfl (fun hc => ?_) (fun hc => ?_)
      · refine vv_lv [0, 1] [(0, .ref m0), (1, .int r_27.2.1)] rfl ?_
        refine vv_seg [0, 1, 2, 3, 4, 6, 7, 8, 9, 10] [5] [sO m0 hour ropes broken windX windY oW oB a2_128e oP, [aR c oW nW (fun i => some (WA i))], [aR c oB nB (fun i => some (BA i))], [aR c a2_128e r_27.2.2.1 (fun i => some (TA (r_27.2.2.2 i)))], [aR c oP nP (fun i => some (PA i))], rowsW c WA nW 7 wF, rowsW c BA nB 9 bF_474, rowsW c TA nR 4 r_27.1, rowsW c PA nP 2 r_13.2.2.2, rowsW c XA_257e r_47.1 2 r_47.2.1] rfl (pm_of (N := 11) rfl (by decide +kernel)) ?_
        obtain rfl := Option.some.inj h
        exact kk474 
      · exact absurd (nI_le (show nB ≤ j474 by omega) (by omega)) hc
    | succ n ih474 =>
      intro j474 bF_474 q474 hj474 h kk474
      rw [jS_pass_L474] at h
      refine vv_iload C dX7_pass_474 3 rfl 476 rfl ?_
      refine vv_aload_n C dX7_pass_476 rfl 0 rfl 477 rfl ?_
      refine vv_get C (q0 := 0) (ci := 7) (k := 6) kinX7_pass_X7 rfl rfl (by decide) kwX7_pass_1 rfl rfl dX7_pass_477 480 rfl ?_
      refine vs_alenR C (q0 := 2) rfl dX7_pass_480 481 rfl ?_
      refine vv_icmp_ge C 532 484 dX7_pass_481 (by decide) rfl (fun hc => ?_) (fun hc => ?_)
      · exact absurd hc (nI_ge (show j474 < nB by omega) (by omega))
      · refine vv_aload_n C dX7_pass_484 rfl 2 rfl 485 rfl ?_
        refine vv_iload C dX7_pass_485 3 rfl 487 rfl ?_
        refine vs_aald C (q0 := 5) (k := j474) rfl (nI_in (show j474 < nB by omega) (by omega)) (nI_clamp (show j474 < 2 ^ 31 by omega)) dX7_pass_487 488 rfl ?_
        refine vv_eq (st' := [va_rf (Option.map XA_257e (r_47.2.2 j474))]) rfl rfl rfl ?_
        refine vs_ifnonnull C (A := XA_257e) (o := r_47.2.2 j474) 494 491 dX7_pass_488 (by decide) rfl (fun hc => ?_) (fun hc => ?_)
        · replace h := ite_f hc h
          refine vv_aload_n C dX7_pass_494 rfl 0 rfl 495 rfl ?_
          refine vv_get C (q0 := 0) (ci := 7) (k := 6) kinX7_pass_X7 rfl rfl (by decide) kwX7_pass_1 rfl rfl dX7_pass_495 498 rfl ?_
          refine vv_iload C dX7_pass_498 3 rfl 500 rfl ?_
          refine vs_aald C (q0 := 2) (k := j474) rfl (nI_in (show j474 < nB by omega) (by omega)) (nI_clamp (show j474 < 2 ^ 31 by omega)) dX7_pass_500 501 rfl ?_
          refine vv_eq (st' := [.ref (BA j474)]) rfl rfl rfl ?_
          refine vv_bipush C (v := 7) dX7_pass_501 (by decide) 503 rfl ?_
          refine vv_aload_n C dX7_pass_503 rfl 2 rfl 504 rfl ?_
          refine vv_iload C dX7_pass_504 3 rfl 506 rfl ?_
          refine vs_aald C (q0 := 5) (k := j474) rfl (nI_in (show j474 < nB by omega) (by omega)) (nI_clamp (show j474 < 2 ^ 31 by omega)) dX7_pass_506 507 rfl ?_
          refine vv_eq (st' := [va_rf (Option.map XA_257e (r_47.2.2 j474)), .int 7, .ref (BA j474)]) rfl rfl rfl ?_
          refine vv_iconst C (v := 0) dX7_pass_507 (by decide) 508 rfl ?_
          obtain ⟨o_49, ho_49, h⟩ := bnd_s h
          refine vv_eq (st' := [.int 0, .ref (XA_257e o_49), .int 7, .ref (BA j474)]) rfl rfl (by rw [ho_49]; rfl) ?_
          obtain ⟨hw_50, h⟩ := chkP_s h
          refine vs_iald C (r := o_49) 10 rfl hw_50 (inB_t (by decide)) dX7_pass_508 509 rfl ?_
          refine vs_iast C (r := j474) [sO m0 hour ropes broken windX windY oW oB a2_128e oP, [aR c oW nW (fun i => some (WA i))], [aR c oB nB (fun i => some (BA i))], [aR c a2_128e r_27.2.2.1 (fun i => some (TA (r_27.2.2.2 i)))], [aR c oP nP (fun i => some (PA i))], [aR c q_28 nB (fun i => Option.map XA_257e (r_47.2.2 i))], rowsW c WA nW 7 wF, rowsW c BA nB 9 (uF bF_474 j474 (wr (bF_474 j474) 7 (rd (r_47.2.1 o_49) 0))), rowsW c TA nR 4 r_27.1, rowsW c PA nP 2 r_13.2.2.2, rowsW c XA_257e r_47.1 2 r_47.2.1] 7 rfl (show j474 < nB by omega) (inB_t (by decide)) rfl dX7_pass_509 510 rfl ?_
          refine vv_aload_n C dX7_pass_510 rfl 0 rfl 511 rfl ?_
          refine vv_get C (q0 := 0) (ci := 7) (k := 6) kinX7_pass_X7 rfl rfl (by decide) kwX7_pass_1 rfl rfl dX7_pass_511 514 rfl ?_
          refine vv_iload C dX7_pass_514 3 rfl 516 rfl ?_
          refine vs_aald C (q0 := 2) (k := j474) rfl (nI_in (show j474 < nB by omega) (by omega)) (nI_clamp (show j474 < 2 ^ 31 by omega)) dX7_pass_516 517 rfl ?_
          refine vv_eq (st' := [.ref (BA j474)]) rfl rfl rfl ?_
          refine vv_bipush C (v := 8) dX7_pass_517 (by decide) 519 rfl ?_
          refine vv_aload_n C dX7_pass_519 rfl 2 rfl 520 rfl ?_
          refine vv_iload C dX7_pass_520 3 rfl 522 rfl ?_
          refine vs_aald C (q0 := 5) (k := j474) rfl (nI_in (show j474 < nB by omega) (by omega)) (nI_clamp (show j474 < 2 ^ 31 by omega)) dX7_pass_522 523 rfl ?_
          refine vv_eq (st' := [va_rf (Option.map XA_257e (r_47.2.2 j474)), .int 8, .ref (BA j474)]) rfl rfl rfl ?_
          refine vv_iconst C (v := 1) dX7_pass_523 (by decide) 524 rfl ?_
          obtain ⟨o_52, ho_52, h⟩ := bnd_s h
          refine vv_eq (st' := [.int 1, .ref (XA_257e o_52), .int 8, .ref (BA j474)]) rfl rfl (by rw [ho_52]; rfl) ?_
          obtain ⟨hw_53, h⟩ := chkP_s h
          refine vs_iald C (r := o_52) 10 rfl hw_53 (inB_t (by decide)) dX7_pass_524 525 rfl ?_
          refine vs_iast C (r := j474) [sO m0 hour ropes broken windX windY oW oB a2_128e oP, [aR c oW nW (fun i => some (WA i))], [aR c oB nB (fun i => some (BA i))], [aR c a2_128e r_27.2.2.1 (fun i => some (TA (r_27.2.2.2 i)))], [aR c oP nP (fun i => some (PA i))], [aR c q_28 nB (fun i => Option.map XA_257e (r_47.2.2 i))], rowsW c WA nW 7 wF, rowsW c BA nB 9 (uF (uF bF_474 j474 (wr (bF_474 j474) 7 (rd (r_47.2.1 o_49) 0))) j474 (wr ((uF bF_474 j474 (wr (bF_474 j474) 7 (rd (r_47.2.1 o_49) 0))) j474) 8 (rd (r_47.2.1 o_52) 1))), rowsW c TA nR 4 r_27.1, rowsW c PA nP 2 r_13.2.2.2, rowsW c XA_257e r_47.1 2 r_47.2.1] 7 rfl (show j474 < nB by omega) (inB_t (by decide)) rfl dX7_pass_525 526 rfl ?_
          refine vv_iinc C (k := 3) [(4, .int (nI (j474 + 1))), (0, .ref m0), (1, .int r_27.2.1), (3, .ref q_28)] dX7_pass_526 rfl nI_inc (by decide) rfl 529 rfl ?_
          refine vv_goto C 474 dX7_pass_529 (by decide) ?_
          refine vv_lv [1, 2, 3, 0] [(0, .ref m0), (1, .int r_27.2.1), (3, .ref q_28), (4, .int (nI (j474 + 1)))] rfl ?_
          exact ih474 (j474 + 1) (uF (uF bF_474 j474 (wr (bF_474 j474) 7 (rd (r_47.2.1 o_49) 0))) j474 (wr ((uF bF_474 j474 (wr (bF_474 j474) 7 (rd (r_47.2.1 o_49) 0))) j474) 8 (rd (r_47.2.1 o_52) 1))) _ (by omega) h kk474
        · replace h := ite_t hc h
          refine vv_goto C 526 dX7_pass_491 (by decide) ?_
          refine vv_iinc C (k := 3) [(4, .int (nI (j474 + 1))), (0, .ref m0), (1, .int r_27.2.1), (3, .ref q_28)] dX7_pass_526 rfl nI_inc (by decide) rfl 529 rfl ?_
          refine vv_goto C 474 dX7_pass_529 (by decide) ?_
          refine vv_lv [1, 2, 3, 0] [(0, .ref m0), (1, .int r_27.2.1), (3, .ref q_28), (4, .int (nI (j474 + 1)))] rfl ?_
          exact ih474 (j474 + 1) bF_474 _ (by omega) h kk474
  obtain ⟨r_54, hr_54, h⟩ := bnd_s h
  refine L474 nB 0 r_13.2.2.1 r_54 (Nat.zero_add _) hr_54 ?_
  refine vv_iconst C (v := 0) dX7_pass_532 (by decide) 533 rfl ?_
  refine vv_istore C [(4, .int 0), (0, .ref m0), (1, .int r_27.2.1)] dX7_pass_533 (by decide) rfl 535 rfl ?_
  refine vv_lv [1, 2, 0] [(0, .ref m0), (1, .int r_27.2.1), (4, .int 0)] rfl ?_
  obtain ⟨hN535, h⟩ := chkP_s h
  have L535 : ∀ (n j535 : Nat) (oT_535 : Nat) (nT_535 : Nat) (sg_535 : Nat → Nat) (bF_535 : Nat → Nat → Int32) (pF_535 : Nat → Nat → Int32) (q535 : Nat × (Nat → Nat) × (Nat → Nat → Int32) × (Nat → Nat → Int32)), j535 + n = nB → jS_pass_L535 nB nR r_27.1 nP n j535 nT_535 sg_535 bF_535 pF_535 = some q535 → (∀ (oT_535e : Nat), VV g D 10 (678 + nB * 12) (6024 + nB * 144) (List.flatten [sO m0 hour ropes broken windX windY oW oB oT_535e oP, [aR c oW nW (fun i => some (WA i))], [aR c oB nB (fun i => some (BA i))], [aR c oT_535e q535.1 (fun i => some (TA (q535.2.1 i)))], [aR c oP nP (fun i => some (PA i))], rowsW c WA nW 7 wF, rowsW c BA nB 9 q535.2.2.1, rowsW c TA nR 4 r_27.1, rowsW c PA nP 2 q535.2.2.2, rowsW c XA_257e r_47.1 2 r_47.2.1]) [(0, .ref m0), (1, .int r_27.2.1)] 591 []) → VV g D 10 (678 + j535 * 12) (6024 + j535 * 144) (List.flatten [sO m0 hour ropes broken windX windY oW oB oT_535 oP, [aR c oW nW (fun i => some (WA i))], [aR c oB nB (fun i => some (BA i))], [aR c oT_535 nT_535 (fun i => some (TA (sg_535 i)))], [aR c oP nP (fun i => some (PA i))], rowsW c WA nW 7 wF, rowsW c BA nB 9 bF_535, rowsW c TA nR 4 r_27.1, rowsW c PA nP 2 pF_535, rowsW c XA_257e r_47.1 2 r_47.2.1]) [(0, .ref m0), (1, .int r_27.2.1), (4, .int (nI j535))] 535 [] := by
    intro n
    induction n with
    | zero =>
      intro j535 oT_535 nT_535 sg_535 bF_535 pF_535 q535 hj535 h kk535
      rw [jS_pass_L535] at h
      refine vv_iload C dX7_pass_535 2 rfl 537 rfl ?_
      refine vv_aload_n C dX7_pass_537 rfl 0 rfl 538 rfl ?_
      refine vv_get C (q0 := 0) (ci := 7) (k := 6) kinX7_pass_X7 rfl rfl (by decide) kwX7_pass_1 rfl rfl dX7_pass_538 541 rfl ?_
      refine vs_alenR C (q0 := 2) rfl dX7_pass_541 542 rfl ?_
      refine vv_icmp_ge C 591 545 dX7_pass_542 (by decide) rfl (fun hc => ?_) (fun hc => ?_)
      · refine vv_lv [0, 1] [(0, .ref m0), (1, .int r_27.2.1)] rfl ?_
        refine vv_widen (k := 678 + nB * 12) (n := 6024 + nB * 144) (by omega) (by omega) ?_
        obtain rfl := Option.some.inj h
        exact kk535 oT_535
      · exact absurd (nI_le (show nB ≤ j535 by omega) (by omega)) hc
    | succ n ih535 =>
      intro j535 oT_535 nT_535 sg_535 bF_535 pF_535 q535 hj535 h kk535
      rw [jS_pass_L535] at h
      refine vv_iload C dX7_pass_535 2 rfl 537 rfl ?_
      refine vv_aload_n C dX7_pass_537 rfl 0 rfl 538 rfl ?_
      refine vv_get C (q0 := 0) (ci := 7) (k := 6) kinX7_pass_X7 rfl rfl (by decide) kwX7_pass_1 rfl rfl dX7_pass_538 541 rfl ?_
      refine vs_alenR C (q0 := 2) rfl dX7_pass_541 542 rfl ?_
      refine vv_icmp_ge C 591 545 dX7_pass_542 (by decide) rfl (fun hc => ?_) (fun hc => ?_)
      · exact absurd hc (nI_ge (show j535 < nB by omega) (by omega))
      · refine vv_aload_n C dX7_pass_545 rfl 0 rfl 546 rfl ?_
        refine vv_get C (q0 := 0) (ci := 7) (k := 6) kinX7_pass_X7 rfl rfl (by decide) kwX7_pass_1 rfl rfl dX7_pass_546 549 rfl ?_
        refine vv_iload C dX7_pass_549 2 rfl 551 rfl ?_
        refine vs_aald C (q0 := 2) (k := j535) rfl (nI_in (show j535 < nB by omega) (by omega)) (nI_clamp (show j535 < 2 ^ 31 by omega)) dX7_pass_551 552 rfl ?_
        refine vv_eq (st' := [.ref (BA j535)]) rfl rfl rfl ?_
        refine vv_bipush C (v := 6) dX7_pass_552 (by decide) 554 rfl ?_
        refine vs_iald C (r := j535) 6 rfl (show j535 < nB by omega) (inB_t (by decide)) dX7_pass_554 555 rfl ?_
        refine vv_if_ne C 585 558 dX7_pass_555 (by decide) rfl (fun hc => ?_) (fun hc => ?_)
        · replace h := ite_f hc h
          refine vv_iinc C (k := 2) [(4, .int (nI (j535 + 1))), (0, .ref m0), (1, .int r_27.2.1)] dX7_pass_585 rfl nI_inc (by decide) rfl 588 rfl ?_
          refine vv_goto C 535 dX7_pass_588 (by decide) ?_
          refine vv_lv [1, 2, 0] [(0, .ref m0), (1, .int r_27.2.1), (4, .int (nI (j535 + 1)))] rfl ?_
          refine vv_widen (k := 678 + (j535 + 1) * 12) (n := 6024 + (j535 + 1) * 144) (by omega) (by omega) ?_
          exact ih535 (j535 + 1) oT_535 nT_535 sg_535 bF_535 pF_535 _ (by omega) h kk535
        · replace h := ite_t hc h
          refine vv_aload_n C dX7_pass_558 rfl 0 rfl 559 rfl ?_
          refine vv_get C (q0 := 0) (ci := 7) (k := 6) kinX7_pass_X7 rfl rfl (by decide) kwX7_pass_1 rfl rfl dX7_pass_559 562 rfl ?_
          refine vv_iload C dX7_pass_562 2 rfl 564 rfl ?_
          refine vs_aald C (q0 := 2) (k := j535) rfl (nI_in (show j535 < nB by omega) (by omega)) (nI_clamp (show j535 < 2 ^ 31 by omega)) dX7_pass_564 565 rfl ?_
          refine vv_eq (st' := [.ref (BA j535)]) rfl rfl rfl ?_
          refine vv_bipush C (v := 7) dX7_pass_565 (by decide) 567 rfl ?_
          refine vs_iald C (r := j535) 6 rfl (show j535 < nB by omega) (inB_t (by decide)) dX7_pass_567 568 rfl ?_
          refine vv_bipush C (v := 29) dX7_pass_568 (by decide) 570 rfl ?_
          refine vv_icmp_ne C 585 573 dX7_pass_570 (by decide) rfl (fun hc => ?_) (fun hc => ?_)
          · replace h := ite_f hc h
            refine vv_iinc C (k := 2) [(4, .int (nI (j535 + 1))), (0, .ref m0), (1, .int r_27.2.1)] dX7_pass_585 rfl nI_inc (by decide) rfl 588 rfl ?_
            refine vv_goto C 535 dX7_pass_588 (by decide) ?_
            refine vv_lv [1, 2, 0] [(0, .ref m0), (1, .int r_27.2.1), (4, .int (nI (j535 + 1)))] rfl ?_
            refine vv_widen (k := 678 + (j535 + 1) * 12) (n := 6024 + (j535 + 1) * 144) (by omega) (by omega) ?_
            exact ih535 (j535 + 1) oT_535 nT_535 sg_535 bF_535 pF_535 _ (by omega) h kk535
          · replace h := ite_t hc h
            refine vv_aload_n C dX7_pass_573 rfl 0 rfl 574 rfl ?_
            refine vv_aload_n C dX7_pass_574 rfl 0 rfl 575 rfl ?_
            refine vv_iload C dX7_pass_575 2 rfl 577 rfl ?_
            refine vv_null C dX7_pass_577 578 rfl ?_
            obtain ⟨r_57, hr_57, h⟩ := bnd_s h
            refine vs_callVq C (S := Nat) (fun l => mt_X7_piece l D c m0 oW oB oT_535 oP WA BA TA PA hour ropes broken windX windY nW nB nT_535 nP nR sg_535 wF bF_535 r_27.1 pF_535 (nI j535) r_57 hr_57) gX7_pass_X7_piece rfl rfl rfl yd_X7_piece ⟨Nat.le_of_ble_eq_true rfl, Nat.le_of_ble_eq_true rfl⟩ (List.flatten [rowsW c XA_257e r_47.1 2 r_47.2.1]) (sg_pick2 [9] [0, 1, 2, 3, 4, 5, 6, 7, 8] rfl rfl (pm_of (N := 10) rfl (by decide +kernel))) 0 rfl rfl rfl [.ref m0] rfl (Nat.le_of_ble_eq_true rfl) ⟨show (678 + j535 * 12) + 1 ≤ 966 by omega, show (6024 + j535 * 144) + 24 ≤ 9480 by omega⟩ dX7_pass_578 581 ((678 + j535 * 12) + 1) ((6024 + j535 * 144) + 24) rfl ⟨by omega, by omega⟩ (fun u_58 _ => ?_)
            refine vs_app ?_
            refine vv_seg [1, 2, 3, 4, 5, 6, 7, 8, 9, 10, 0] [] [sO m0 hour ropes broken windX windY oW oB oT_535 oP, [aR c oW nW (fun i => some (WA i))], [aR c oB nB (fun i => some (BA i))], [aR c oT_535 nT_535 (fun i => some (TA (sg_535 i)))], [aR c oP nP (fun i => some (PA i))], [aZ c u_58 nB r_57], rowsW c WA nW 7 wF, rowsW c BA nB 9 bF_535, rowsW c TA nR 4 r_27.1, rowsW c PA nP 2 pF_535, rowsW c XA_257e r_47.1 2 r_47.2.1] rfl (pm_of (N := 11) rfl (by decide +kernel)) ?_
            refine vv_iconst C (v := 2) dX7_pass_581 (by decide) 582 rfl ?_
            obtain ⟨r_59, hr_59, h⟩ := bnd_s h
            refine vs_callVv C (S := Nat) (fun l => mt_X7_end l D c m0 oW oB oT_535 oP WA BA TA PA hour ropes broken windX windY nW nB nT_535 nP nR sg_535 wF bF_535 r_27.1 pF_535 u_58 nB r_57 2 r_59 hr_59) gX7_pass_X7_end rfl rfl rfl yd_X7_end ⟨Nat.le_of_ble_eq_true rfl, Nat.le_of_ble_eq_true rfl⟩ (List.flatten [rowsW c XA_257e r_47.1 2 r_47.2.1]) (sg_pick2 [10] [0, 1, 2, 3, 4, 5, 6, 7, 8, 9] rfl rfl (pm_of (N := 11) rfl (by decide +kernel))) 0 rfl rfl rfl [] rfl (Nat.le_of_ble_eq_true rfl) ⟨show ((678 + j535 * 12) + 1) + 11 ≤ 966 by omega, show ((6024 + j535 * 144) + 24) + 120 ≤ 9480 by omega⟩ dX7_pass_582 585 ((678 + j535 * 12) + 12) ((6024 + j535 * 144) + 144) rfl ⟨by omega, by omega⟩ (fun u_60 _ => ?_)
            refine vs_app ?_
            refine vv_seg [1, 2, 3, 4, 5, 6, 7, 8, 9, 10, 0] [] [sO m0 hour ropes broken windX windY oW oB u_60 oP, [aR c oW nW (fun i => some (WA i))], [aR c oB nB (fun i => some (BA i))], [aR c u_60 r_59.1 (fun i => some (TA (r_59.2.1 i)))], [aR c oP nP (fun i => some (PA i))], [aZ c u_58 nB r_57], rowsW c WA nW 7 wF, rowsW c BA nB 9 r_59.2.2.1, rowsW c TA nR 4 r_27.1, rowsW c PA nP 2 r_59.2.2.2, rowsW c XA_257e r_47.1 2 r_47.2.1] rfl (pm_of (N := 11) rfl (by decide +kernel)) ?_
            refine vv_iinc C (k := 2) [(4, .int (nI (j535 + 1))), (0, .ref m0), (1, .int r_27.2.1)] dX7_pass_585 rfl nI_inc (by decide) rfl 588 rfl ?_
            refine vv_goto C 535 dX7_pass_588 (by decide) ?_
            refine vv_lv [1, 2, 0] [(0, .ref m0), (1, .int r_27.2.1), (4, .int (nI (j535 + 1)))] rfl ?_
            refine vv_seg [0, 1, 2, 3, 4, 6, 7, 8, 9, 10] [5] [sO m0 hour ropes broken windX windY oW oB u_60 oP, [aR c oW nW (fun i => some (WA i))], [aR c oB nB (fun i => some (BA i))], [aR c u_60 r_59.1 (fun i => some (TA (r_59.2.1 i)))], [aR c oP nP (fun i => some (PA i))], rowsW c WA nW 7 wF, rowsW c BA nB 9 r_59.2.2.1, rowsW c TA nR 4 r_27.1, rowsW c PA nP 2 r_59.2.2.2, rowsW c XA_257e r_47.1 2 r_47.2.1] rfl (pm_of (N := 11) rfl (by decide +kernel)) ?_
            refine vv_widen (k := 678 + (j535 + 1) * 12) (n := 6024 + (j535 + 1) * 144) (by omega) (by omega) ?_
            exact ih535 (j535 + 1) u_60 r_59.1 r_59.2.1 r_59.2.2.1 r_59.2.2.2 _ (by omega) h kk535
  obtain ⟨r_61, hr_61, h⟩ := bnd_s h
  refine vv_cs (k := 678 + 0 * 12) (n := 6024 + 0 * 144) (by omega) (by omega) ?_
  refine L535 nB 0 a2_128e r_27.2.2.1 r_27.2.2.2 r_54 r_13.2.2.2 r_61 (Nat.zero_add _) hr_61 ?_
  intro oT_535e
  refine vv_widen (k := 966) (n := 9480) (by omega) (by omega) ?_
  refine vv_aload_n C dX7_pass_591 rfl 0 rfl 592 rfl ?_
  refine vv_dup C dX7_pass_592 rfl 593 rfl ?_
  refine vv_get C (q0 := 0) (ci := 7) (k := 0) kinX7_pass_X7 rfl rfl (by decide) kwX7_pass_14 rfl rfl dX7_pass_593 596 rfl ?_
  refine vv_iconst C (v := 1) dX7_pass_596 (by decide) 597 rfl ?_
  refine vv_iadd C dX7_pass_597 598 rfl ?_
  refine vv_put C (q0 := 0) (ci := 7) (k := 0) (ty := .int) (List.flatten [sO m0 (hour + 1) ropes broken windX windY oW oB oT_535e oP, [aR c oW nW (fun i => some (WA i))], [aR c oB nB (fun i => some (BA i))], [aR c oT_535e r_61.1 (fun i => some (TA (r_61.2.1 i)))], [aR c oP nP (fun i => some (PA i))], rowsW c WA nW 7 wF, rowsW c BA nB 9 r_61.2.2.1, rowsW c TA nR 4 r_27.1, rowsW c PA nP 2 r_61.2.2.2, rowsW c XA_257e r_47.1 2 r_47.2.1]) tyX7 tyX7_ok nmX7 kinX7_pass_X7 rfl rfl (by decide) kwX7_pass_14 rfl rfl rfl rfl rfl (Nat.le_of_ble_eq_true rfl) rfl dX7_pass_598 601 rfl ?_
  refine vv_aload_n C dX7_pass_601 rfl 0 rfl 602 rfl ?_
  refine vv_dup C dX7_pass_602 rfl 603 rfl ?_
  refine vv_get C (q0 := 0) (ci := 7) (k := 2) kinX7_pass_X7 rfl rfl (by decide) kwX7_pass_15 rfl rfl dX7_pass_603 606 rfl ?_
  refine vv_iload_n C dX7_pass_606 rfl 1 rfl 607 rfl ?_
  refine vv_iadd C dX7_pass_607 608 rfl ?_
  refine vv_put C (q0 := 0) (ci := 7) (k := 2) (ty := .int) (List.flatten [sO m0 (hour + 1) ropes (broken + r_27.2.1) windX windY oW oB oT_535e oP, [aR c oW nW (fun i => some (WA i))], [aR c oB nB (fun i => some (BA i))], [aR c oT_535e r_61.1 (fun i => some (TA (r_61.2.1 i)))], [aR c oP nP (fun i => some (PA i))], rowsW c WA nW 7 wF, rowsW c BA nB 9 r_61.2.2.1, rowsW c TA nR 4 r_27.1, rowsW c PA nP 2 r_61.2.2.2, rowsW c XA_257e r_47.1 2 r_47.2.1]) tyX7 tyX7_ok nmX7 kinX7_pass_X7 rfl rfl (by decide) kwX7_pass_15 rfl rfl rfl rfl rfl (Nat.le_of_ble_eq_true rfl) rfl dX7_pass_608 611 rfl ?_
  refine vv_iload_n C dX7_pass_611 rfl 1 rfl 612 rfl ?_
  obtain rfl := Option.some.inj h
  refine vv_seg [0, 1, 2, 3, 4, 5, 6, 7, 8] [9] [sO m0 (hour + 1) ropes (broken + r_27.2.1) windX windY oW oB oT_535e oP, [aR c oW nW (fun i => some (WA i))], [aR c oB nB (fun i => some (BA i))], [aR c oT_535e r_61.1 (fun i => some (TA (r_61.2.1 i)))], [aR c oP nP (fun i => some (PA i))], rowsW c WA nW 7 wF, rowsW c BA nB 9 r_61.2.2.1, rowsW c TA nR 4 r_27.1, rowsW c PA nP 2 r_61.2.2.2] rfl (pm_of (N := 10) rfl (by decide +kernel)) ?_
  refine vv_widen (k := 966) (n := 9480) (by omega) (by omega) ?_
  exact ret oT_535e _ rfl _ _ dX7_pass_612
