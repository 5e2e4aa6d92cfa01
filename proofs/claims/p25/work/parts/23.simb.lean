abbrev rmX7_name : Room := { frames := 1, cells := 1, slots := 24, locals := 28 }
theorem yd_X7_name : yX7_name.cls = RX7 ∧ yX7_name.cls ≠ "java/lang/invoke/MethodHandle" ∧ yX7_name.cls ≠ "java/lang/invoke/VarHandle" ∧ (parseMethodDescriptor yX7_name.desc).map (fun d => d.parameters.length) = some 1 := by decide +kernel
def jS_name_L9 (fc3 : Nat → Int32) (n : Nat) (j9 : Nat) : Option ((Int32) ⊕ (Unit)) := match n with
  | 0 => some (Sum.inr ())
  | n + 1 => (if rd fc3 (nI j9) = 0 then jS_name_L9 fc3 n (j9 + 1) else some (Sum.inl (nI j9)))
def jS_name (nB : Nat) (nT : Nat) (nR : Nat) (sg : Nat → Nat) (bF : Nat → Nat → Int32) (tF : Nat → Nat → Int32) (a1 : Int32) : Option (Int32) := bnd (jS_piece nB nT nR sg bF tF a1) (fun r_1 => chkP (nB ≤ 24) (bnd (jS_name_L9 r_1 nB 0) (fun r_3 => sel r_3 (fun r_3_0 => some r_3_0) (fun r_3_1 => some (-1)))))
set_option maxHeartbeats 40000000 in
set_option maxRecDepth 100000 in
theorem mt_X7_name (l : Launch) (D : va_G) (c : Nat → ClassId) (m0 oW oB oT oP : Nat) (WA BA TA PA : Nat → Nat) (hour : Int32) (ropes : Int32) (broken : Int32) (windX : Int32) (windY : Int32) (nW : Nat) (nB : Nat) (nT : Nat) (nP : Nat) (nR : Nat) (sg : Nat → Nat) (wF : Nat → Nat → Int32) (bF : Nat → Nat → Int32) (tF : Nat → Nat → Int32) (pF : Nat → Nat → Int32) (a1 : Int32) (q0 : Int32) (h : jS_name nB nT nR sg bF tF a1 = some q0) : MJi l yX7_name wsX7_name rmX7_name D c (List.flatten [sO m0 hour ropes broken windX windY oW oB oT oP, [aR c oW nW (fun i => some (WA i))], [aR c oB nB (fun i => some (BA i))], [aR c oT nT (fun i => some (TA (sg i)))], [aR c oP nP (fun i => some (PA i))], rowsW c WA nW 7 wF, rowsW c BA nB 9 bF, rowsW c TA nR 4 tF, rowsW c PA nP 2 pF]) [.ref m0, .int a1] (fun (r : Int32) (_ : Unit) => r = q0) (fun u => (List.flatten [sO m0 hour ropes broken windX windY oW oB oT oP, [aR c oW nW (fun i => some (WA i))], [aR c oB nB (fun i => some (BA i))], [aR c oT nT (fun i => some (TA (sg i)))], [aR c oP nP (fun i => some (PA i))], rowsW c WA nW 7 wF, rowsW c BA nB 9 bF, rowsW c TA nR 4 tF, rowsW c PA nP 2 pF])) 1 24 := by
  refine MJi_of (cc := cX7_name) (nL := 4) RX7 rfl (by decide) rfl (Nat.le_of_ble_eq_true rfl) (fun g C ret => ?_)
  unfold jS_name at h
  refine vv_lv [0, 1] [(0, .ref m0), (1, .int a1)] rfl ?_
  refine vv_aload_n C dX7_name_0 rfl 0 rfl 1 rfl ?_
  refine vv_iload_n C dX7_name_1 rfl 1 rfl 2 rfl ?_
  refine vv_null C dX7_name_2 3 rfl ?_
  obtain ⟨r_1, hr_1, h⟩ := bnd_s h
  refine vs_callVq C (S := Nat) (fun l => mt_X7_piece l D c m0 oW oB oT oP WA BA TA PA hour ropes broken windX windY nW nB nT nP nR sg wF bF tF pF a1 r_1 hr_1) gX7_name_X7_piece rfl rfl rfl yd_X7_piece ⟨Nat.le_of_ble_eq_true rfl, Nat.le_of_ble_eq_true rfl⟩ (List.flatten []) (sg_pick2 [] [0, 1, 2, 3, 4, 5, 6, 7, 8] rfl rfl (pm_of (N := 9) rfl (by decide +kernel))) 0 rfl rfl rfl [] rfl (Nat.le_of_ble_eq_true rfl) ⟨show 0 + 1 ≤ 1 by omega, show 0 + 24 ≤ 24 by omega⟩ dX7_name_3 6 1 24 rfl ⟨by omega, by omega⟩ (fun u_2 _ => ?_)
  refine vs_app ?_
  refine vv_seg [0, 1, 2, 3, 4, 5, 6, 7, 8, 9] [] [sO m0 hour ropes broken windX windY oW oB oT oP, [aR c oW nW (fun i => some (WA i))], [aR c oB nB (fun i => some (BA i))], [aR c oT nT (fun i => some (TA (sg i)))], [aR c oP nP (fun i => some (PA i))], [aZ c u_2 nB r_1], rowsW c WA nW 7 wF, rowsW c BA nB 9 bF, rowsW c TA nR 4 tF, rowsW c PA nP 2 pF] rfl (pm_of (N := 10) rfl (by decide +kernel)) ?_
  refine vv_astore_n C [(2, .ref u_2), (0, .ref m0), (1, .int a1)] dX7_name_6 rfl (by decide) rfl 7 rfl ?_
  refine vv_iconst C (v := 0) dX7_name_7 (by decide) 8 rfl ?_
  refine vv_istore_n C [(3, .int 0), (2, .ref u_2), (0, .ref m0), (1, .int a1)] dX7_name_8 rfl (by decide) rfl 9 rfl ?_
  refine vv_lv [1, 0] [(2, .ref u_2), (3, .int 0)] rfl ?_
  obtain ⟨hN9, h⟩ := chkP_s h
  have L9 : ∀ (n j9 : Nat) (q9 : (Int32) ⊕ (Unit)), j9 + n = nB → jS_name_L9 r_1 n j9 = some q9 → ((∀ w, q9 = (Sum.inl w) → VV g D 4 1 24 (List.flatten [sO m0 hour ropes broken windX windY oW oB oT oP, [aR c oW nW (fun i => some (WA i))], [aR c oB nB (fun i => some (BA i))], [aR c oT nT (fun i => some (TA (sg i)))], [aR c oP nP (fun i => some (PA i))], rowsW c WA nW 7 wF, rowsW c BA nB 9 bF, rowsW c TA nR 4 tF, rowsW c PA nP 2 pF]) [(3, .int w)] 21 []) ∧ (∀ w, q9 = (Sum.inr w) → VV g D 4 1 24 (List.flatten [sO m0 hour ropes broken windX windY oW oB oT oP, [aR c oW nW (fun i => some (WA i))], [aR c oB nB (fun i => some (BA i))], [aR c oT nT (fun i => some (TA (sg i)))], [aR c oP nP (fun i => some (PA i))], rowsW c WA nW 7 wF, rowsW c BA nB 9 bF, rowsW c TA nR 4 tF, rowsW c PA nP 2 pF]) [] 29 [])) → VV g D 4 1 24 (List.flatten [sO m0 hour ropes broken windX windY oW oB oT oP, [aR c oW nW (fun i => some (WA i))], [aR c oB nB (fun i => some (BA i))], [aR c oT nT (fun i => some (TA (sg i)))], [aR c oP nP (fun i => some (PA i))], [aZ c u_2 nB r_1], rowsW c WA nW 7 wF, rowsW c BA nB 9 bF, rowsW c TA nR 4 tF, rowsW c PA nP 2 pF]) [(2, .ref u_2), (3, .int (nI j9))] 9 [] := by
    intro n
    induction n with
    | zero =>
      intro j9 q9 hj9 h kk9
      rw [jS_name_L9] at h
      refine vv_iload_n C dX7_name_9 rfl 1 rfl 10 rfl ?_
      refine vv_aload_n C dX7_name_10 rfl 0 rfl 11 rfl ?_
      refine vs_alenZ C (q0 := 5) rfl dX7_name_11 12 rfl ?_
      refine vv_icmp_ge C 29 15 dX7_name_12 (by decide) rfl (fun hc => ?_) (fun hc => ?_)
      · refine vv_lv [] [] rfl ?_
        refine vv_seg [0, 1, 2, 3, 4, 6, 7, 8, 9] [5] [sO m0 hour ropes broken windX windY oW oB oT oP, [aR c oW nW (fun i => some (WA i))], [aR c oB nB (fun i => some (BA i))], [aR c oT nT (fun i => some (TA (sg i)))], [aR c oP nP (fun i => some (PA i))], rowsW c WA nW 7 wF, rowsW c BA nB 9 bF, rowsW c TA nR 4 tF, rowsW c PA nP 2 pF] rfl (pm_of (N := 10) rfl (by decide +kernel)) ?_
        exact kk9.2 _ (Option.some.inj h).symm 
      · exact absurd (nI_le (show nB ≤ j9 by omega) (by omega)) hc
    | succ n ih9 =>
      intro j9 q9 hj9 h kk9
      rw [jS_name_L9] at h
      refine vv_iload_n C dX7_name_9 rfl 1 rfl 10 rfl ?_
      refine vv_aload_n C dX7_name_10 rfl 0 rfl 11 rfl ?_
      refine vs_alenZ C (q0 := 5) rfl dX7_name_11 12 rfl ?_
      refine vv_icmp_ge C 29 15 dX7_name_12 (by decide) rfl (fun hc => ?_) (fun hc => ?_)
      · exact absurd hc (nI_ge (show j9 < nB by omega) (by omega))
      · refine vv_aload_n C dX7_name_15 rfl 0 rfl 16 rfl ?_
        refine vv_iload_n C dX7_name_16 rfl 1 rfl 17 rfl ?_
        refine vv_zald C (q0 := 5) rfl (nI_in (show j9 < nB by omega) (by omega)) dX7_name_17 18 rfl ?_
        refine vv_if_eq C 23 21 dX7_name_18 (by decide) rfl (fun hc => ?_) (fun hc => ?_)
        · replace h := ite_t hc h
          refine vv_iinc C (k := 1) [(3, .int (nI (j9 + 1))), (2, .ref u_2)] dX7_name_23 rfl nI_inc (by decide) rfl 26 rfl ?_
          refine vv_goto C 9 dX7_name_26 (by decide) ?_
          refine vv_lv [1, 0] [(2, .ref u_2), (3, .int (nI (j9 + 1)))] rfl ?_
          exact ih9 (j9 + 1) _ (by omega) h kk9
        · replace h := ite_f hc h
          refine vv_lv [1] [(3, .int (nI j9))] rfl ?_
          refine vv_seg [0, 1, 2, 3, 4, 6, 7, 8, 9] [5] [sO m0 hour ropes broken windX windY oW oB oT oP, [aR c oW nW (fun i => some (WA i))], [aR c oB nB (fun i => some (BA i))], [aR c oT nT (fun i => some (TA (sg i)))], [aR c oP nP (fun i => some (PA i))], rowsW c WA nW 7 wF, rowsW c BA nB 9 bF, rowsW c TA nR 4 tF, rowsW c PA nP 2 pF] rfl (pm_of (N := 10) rfl (by decide +kernel)) ?_
          exact kk9.1 _ (Option.some.inj h).symm 
  obtain ⟨r_3, hr_3, h⟩ := bnd_s h
  refine L9 nB 0 r_3 (Nat.zero_add _) hr_3 ⟨fun r_3_0 e => ?_, fun r_3_1 e => ?_⟩
  · subst e
    replace h := sel_l h
    refine vv_iload_n C dX7_name_21 rfl 0 rfl 22 rfl ?_
    obtain rfl := Option.some.inj h
    refine vv_widen (k := 1) (n := 24) (by omega) (by omega) ?_
    exact ret () _ rfl _ _ dX7_name_22
  · subst e
    replace h := sel_r h
    refine vv_iconst C (v := (-1)) dX7_name_29 (by decide) 30 rfl ?_
    obtain rfl := Option.some.inj h
    refine vv_widen (k := 1) (n := 24) (by omega) (by omega) ?_
    exact ret () _ rfl _ _ dX7_name_30
abbrev rmX7_sum : Room := { frames := 1, cells := 0, slots := 0, locals := 26 }
theorem yd_X7_sum : yX7_sum.cls = RX7 ∧ yX7_sum.cls ≠ "java/lang/invoke/MethodHandle" ∧ yX7_sum.cls ≠ "java/lang/invoke/VarHandle" ∧ (parseMethodDescriptor yX7_sum.desc).map (fun d => d.parameters.length) = some 2 := by decide +kernel
theorem kwX7_sum_1 : Cond.fieldLink RX7 25 "BarrelRaftLaw$Sim" "people" "[[I" ∈ wsX7_sum := List.mem_of_getElem? (i := 1) rfl
set_option maxRecDepth 20000 in
theorem kinX7_sum_X7 : ∀ w ∈ u_ws RX7 TX7 9, w ∈ wsX7_sum := by decide +kernel
def jS_sum_L41 (u4_41 : Int32) (pF : Nat → Nat → Int32) (n : Nat) (j41 : Nat) (v3_41 : Int32) : Option (Int32) := match n with
  | 0 => some v3_41
  | n + 1 => (if rd (pF j41) 0 = u4_41 then jS_sum_L41 u4_41 pF n (j41 + 1) (v3_41 + 1) else jS_sum_L41 u4_41 pF n (j41 + 1) (v3_41 + 0))
def jS_sum_L5 (u2_5 : Int32) (fis : Nat → Int32) (nB : Nat) (bF : Nat → Nat → Int32) (nP : Nat) (pF : Nat → Nat → Int32) (n : Nat) (j5 : Nat) (v3_5 : Int32) : Option (Int32) := match n with
  | 0 => some v3_5
  | n + 1 => (if rd fis (nI j5) = 0 then jS_sum_L5 u2_5 fis nB bF nP pF n (j5 + 1) v3_5 else jn (fun (x78 : Int32) => (if u2_5 = 0 then jS_sum_L5 u2_5 fis nB bF nP pF n (j5 + 1) (x78 + 1) else (if u2_5 = 1 then bnd (jS_lifts nB bF (nI j5)) (fun r_5 => jS_sum_L5 u2_5 fis nB bF nP pF n (j5 + 1) (x78 + r_5)) else (if u2_5 = 2 then bnd (jS_load nB nP bF pF (nI j5)) (fun r_3 => jS_sum_L5 u2_5 fis nB bF nP pF n (j5 + 1) (x78 + r_3)) else jS_sum_L5 u2_5 fis nB bF nP pF n (j5 + 1) (x78 + 0))))) (fun k78 => (if u2_5 = 3 then chkP (nP ≤ 8) (bnd (jS_sum_L41 (nI j5) pF nP 0 v3_5) (fun r_2 => k78 r_2)) else k78 v3_5)))
def jS_sum (nB : Nat) (nP : Nat) (bF : Nat → Nat → Int32) (pF : Nat → Nat → Int32) (isN : Nat) (isF : Nat → Int32) (a1 : Int32) : Option (Int32) := chkP (isN ≤ 24) (bnd (jS_sum_L5 a1 isF nB bF nP pF isN 0 0) (fun r_7 => some r_7))
set_option maxHeartbeats 40000000 in
set_option maxRecDepth 100000 in
theorem mt_X7_sum (l : Launch) (D : va_G) (c : Nat → ClassId) (m0 oW oB oT oP : Nat) (WA BA TA PA : Nat → Nat) (hour : Int32) (ropes : Int32) (broken : Int32) (windX : Int32) (windY : Int32) (nW : Nat) (nB : Nat) (nT : Nat) (nP : Nat) (nR : Nat) (sg : Nat → Nat) (wF : Nat → Nat → Int32) (bF : Nat → Nat → Int32) (tF : Nat → Nat → Int32) (pF : Nat → Nat → Int32) (isA isN : Nat) (isF : Nat → Int32) (a1 : Int32) (q0 : Int32) (h : jS_sum nB nP bF pF isN isF a1 = some q0) : MJi l yX7_sum wsX7_sum rmX7_sum D c (List.flatten [sO m0 hour ropes broken windX windY oW oB oT oP, [aR c oW nW (fun i => some (WA i))], [aR c oB nB (fun i => some (BA i))], [aR c oT nT (fun i => some (TA (sg i)))], [aR c oP nP (fun i => some (PA i))], [aZ c isA isN isF], rowsW c WA nW 7 wF, rowsW c BA nB 9 bF, rowsW c TA nR 4 tF, rowsW c PA nP 2 pF]) [.ref m0, .ref isA, .int a1] (fun (r : Int32) (_ : Unit) => r = q0) (fun u => (List.flatten [sO m0 hour ropes broken windX windY oW oB oT oP, [aR c oW nW (fun i => some (WA i))], [aR c oB nB (fun i => some (BA i))], [aR c oT nT (fun i => some (TA (sg i)))], [aR c oP nP (fun i => some (PA i))], [aZ c isA isN isF], rowsW c WA nW 7 wF, rowsW c BA nB 9 bF, rowsW c TA nR 4 tF, rowsW c PA nP 2 pF])) 0 0 := by
  refine MJi_of (cc := cX7_sum) (nL := 9) RX7 rfl (by decide) rfl (Nat.le_of_ble_eq_true rfl) (fun g C ret => ?_)
  unfold jS_sum at h
  refine vv_lv [0, 1, 2] [(0, .ref m0), (1, .ref isA), (2, .int a1)] rfl ?_
  refine vv_iconst C (v := 0) dX7_sum_0 (by decide) 1 rfl ?_
  refine vv_istore_n C [(3, .int 0), (0, .ref m0), (1, .ref isA), (2, .int a1)] dX7_sum_1 rfl (by decide) rfl 2 rfl ?_
  refine vv_iconst C (v := 0) dX7_sum_2 (by decide) 3 rfl ?_
  refine vv_istore C [(4, .int 0), (3, .int 0), (0, .ref m0), (1, .ref isA), (2, .int a1)] dX7_sum_3 (by decide) rfl 5 rfl ?_
  refine vv_lv [2, 3, 4, 1, 0] [(0, .ref m0), (1, .ref isA), (2, .int a1), (3, .int 0), (4, .int 0)] rfl ?_
  obtain ⟨hN5, h⟩ := chkP_s h
  have L5 : ∀ (n j5 : Nat) (v3_5 : Int32) (q5 : Int32), j5 + n = isN → jS_sum_L5 a1 isF nB bF nP pF n j5 v3_5 = some q5 → (VV g D 9 0 0 (List.flatten [sO m0 hour ropes broken windX windY oW oB oT oP, [aR c oW nW (fun i => some (WA i))], [aR c oB nB (fun i => some (BA i))], [aR c oT nT (fun i => some (TA (sg i)))], [aR c oP nP (fun i => some (PA i))], [aZ c isA isN isF], rowsW c WA nW 7 wF, rowsW c BA nB 9 bF, rowsW c TA nR 4 tF, rowsW c PA nP 2 pF]) [(3, .int q5)] 124 []) → VV g D 9 0 0 (List.flatten [sO m0 hour ropes broken windX windY oW oB oT oP, [aR c oW nW (fun i => some (WA i))], [aR c oB nB (fun i => some (BA i))], [aR c oT nT (fun i => some (TA (sg i)))], [aR c oP nP (fun i => some (PA i))], [aZ c isA isN isF], rowsW c WA nW 7 wF, rowsW c BA nB 9 bF, rowsW c TA nR 4 tF, rowsW c PA nP 2 pF]) [(0, .ref m0), (1, .ref isA), (2, .int a1), (3, .int v3_5), (4, .int (nI j5))] 5 [] := by
    intro n
    induction n with
    | zero =>
      intro j5 v3_5 q5 hj5 h kk5
      rw [jS_sum_L5] at h
      refine vv_iload C dX7_sum_5 4 rfl 7 rfl ?_
      refine vv_aload_n C dX7_sum_7 rfl 1 rfl 8 rfl ?_
      refine vs_alenZ C (q0 := 5) rfl dX7_sum_8 9 rfl ?_
      refine vv_icmp_ge C 124 12 dX7_sum_9 (by decide) rfl (fun hc => ?_) (fun hc => ?_)
      · refine vv_lv [3] [(3, .int v3_5)] rfl ?_
        obtain rfl := Option.some.inj h
        exact kk5 
      · exact absurd (nI_le (show isN ≤ j5 by omega) (by omega)) hc
    | succ n ih5 =>
      intro j5 v3_5 q5 hj5 h kk5
      rw [jS_sum_L5] at h
      refine vv_iload C dX7_sum_5 4 rfl 7 rfl ?_
      refine vv_aload_n C dX7_sum_7 rfl 1 rfl 8 rfl ?_
      refine vs_alenZ C (q0 := 5) rfl dX7_sum_8 9 rfl ?_
      refine vv_icmp_ge C 124 12 dX7_sum_9 (by decide) rfl (fun hc => ?_) (fun hc => ?_)
      · exact absurd hc (nI_ge (show j5 < isN by omega) (by omega))
      · refine vv_aload_n C dX7_sum_12 rfl 1 rfl 13 rfl ?_
        refine vv_iload C dX7_sum_13 4 rfl 15 rfl ?_
        refine vv_zald C (q0 := 5) rfl (nI_in (show j5 < isN by omega) (by omega)) dX7_sum_15 16 rfl ?_
        refine vv_if_ne C 22 19 dX7_sum_16 (by decide) rfl (fun hc => ?_) (fun hc => ?_)
        · replace h := ite_f hc h
          refine vv_iload_n C dX7_sum_22 rfl 2 rfl 23 rfl ?_
          refine vv_iconst C (v := 3) dX7_sum_23 (by decide) 24 rfl ?_
          obtain ⟨k78, hk78, h⟩ := jn_s h
          have J78 : ∀  (x78 : Int32), k78 x78 = some q5 → VV g D 9 0 0 (List.flatten [sO m0 hour ropes broken windX windY oW oB oT oP, [aR c oW nW (fun i => some (WA i))], [aR c oB nB (fun i => some (BA i))], [aR c oT nT (fun i => some (TA (sg i)))], [aR c oP nP (fun i => some (PA i))], [aZ c isA isN isF], rowsW c WA nW 7 wF, rowsW c BA nB 9 bF, rowsW c TA nR 4 tF, rowsW c PA nP 2 pF]) [(0, .ref m0), (1, .ref isA), (2, .int a1), (3, .int x78), (4, .int (nI j5))] 78 [] := by
            intro x78 h
            replace h := jn_u hk78 h
            refine vv_iload_n C dX7_sum_78 rfl 3 rfl 79 rfl ?_
            refine vv_iload_n C dX7_sum_79 rfl 2 rfl 80 rfl ?_
            refine vv_if_ne C 87 83 dX7_sum_80 (by decide) rfl (fun hc => ?_) (fun hc => ?_)
            · replace h := ite_f hc h
              refine vv_iload_n C dX7_sum_87 rfl 2 rfl 88 rfl ?_
              refine vv_iconst C (v := 1) dX7_sum_88 (by decide) 89 rfl ?_
              refine vv_icmp_ne C 101 92 dX7_sum_89 (by decide) rfl (fun hc => ?_) (fun hc => ?_)
              · replace h := ite_f hc h
                refine vv_iload_n C dX7_sum_101 rfl 2 rfl 102 rfl ?_
                refine vv_iconst C (v := 2) dX7_sum_102 (by decide) 103 rfl ?_
                refine vv_icmp_ne C 115 106 dX7_sum_103 (by decide) rfl (fun hc => ?_) (fun hc => ?_)
                · replace h := ite_f hc h
                  refine vv_iconst C (v := 0) dX7_sum_115 (by decide) 116 rfl ?_
                  refine vv_iadd C dX7_sum_116 117 rfl ?_
                  refine vv_istore_n C [(3, .int (x78 + 0)), (0, .ref m0), (1, .ref isA), (2, .int a1), (4, .int (nI j5))] dX7_sum_117 rfl (by decide) rfl 118 rfl ?_
                  refine vv_iinc C (k := 4) [(4, .int (nI (j5 + 1))), (3, .int (x78 + 0)), (0, .ref m0), (1, .ref isA), (2, .int a1)] dX7_sum_118 rfl nI_inc (by decide) rfl 121 rfl ?_
                  refine vv_goto C 5 dX7_sum_121 (by decide) ?_
                  refine vv_lv [2, 3, 4, 1, 0] [(0, .ref m0), (1, .ref isA), (2, .int a1), (3, .int (x78 + 0)), (4, .int (nI (j5 + 1)))] rfl ?_
                  exact ih5 (j5 + 1) (x78 + 0) _ (by omega) h kk5
                · replace h := ite_t hc h
                  refine vv_aload_n C dX7_sum_106 rfl 0 rfl 107 rfl ?_
                  refine vv_iload C dX7_sum_107 4 rfl 109 rfl ?_
                  obtain ⟨r_3, hr_3, h⟩ := bnd_s h
                  refine vs_callVi C (S := Unit) (fun l => mt_X7_load l D c m0 oW oB oT oP WA BA TA PA hour ropes broken windX windY nW nB nT nP nR sg wF bF tF pF (nI j5) r_3 hr_3) gX7_sum_X7_load rfl rfl rfl yd_X7_load ⟨Nat.le_of_ble_eq_true rfl, Nat.le_of_ble_eq_true rfl⟩ (List.flatten [[aZ c isA isN isF]]) (sg_pick2 [5] [0, 1, 2, 3, 4, 6, 7, 8, 9] rfl rfl (pm_of (N := 10) rfl (by decide +kernel))) 0 rfl rfl rfl [.int x78] rfl (Nat.le_of_ble_eq_true rfl) ⟨show 0 + 0 ≤ 0 by omega, show 0 + 0 ≤ 0 by omega⟩ dX7_sum_109 112 0 0 rfl ⟨by omega, by omega⟩ (fun _ u_4 hu => ?_)
                  rw [hu]
                  refine vs_app ?_
                  refine vv_seg [1, 2, 3, 4, 5, 0, 6, 7, 8, 9] [] [sO m0 hour ropes broken windX windY oW oB oT oP, [aR c oW nW (fun i => some (WA i))], [aR c oB nB (fun i => some (BA i))], [aR c oT nT (fun i => some (TA (sg i)))], [aR c oP nP (fun i => some (PA i))], [aZ c isA isN isF], rowsW c WA nW 7 wF, rowsW c BA nB 9 bF, rowsW c TA nR 4 tF, rowsW c PA nP 2 pF] rfl (pm_of (N := 10) rfl (by decide +kernel)) ?_
                  refine vv_goto C 116 dX7_sum_112 (by decide) ?_
                  refine vv_iadd C dX7_sum_116 117 rfl ?_
                  refine vv_istore_n C [(3, .int (x78 + r_3)), (0, .ref m0), (1, .ref isA), (2, .int a1), (4, .int (nI j5))] dX7_sum_117 rfl (by decide) rfl 118 rfl ?_
                  refine vv_iinc C (k := 4) [(4, .int (nI (j5 + 1))), (3, .int (x78 + r_3)), (0, .ref m0), (1, .ref isA), (2, .int a1)] dX7_sum_118 rfl nI_inc (by decide) rfl 121 rfl ?_
                  refine vv_goto C 5 dX7_sum_121 (by decide) ?_
                  refine vv_lv [2, 3, 4, 1, 0] [(0, .ref m0), (1, .ref isA), (2, .int a1), (3, .int (x78 + r_3)), (4, .int (nI (j5 + 1)))] rfl ?_
                  exact ih5 (j5 + 1) (x78 + r_3) _ (by omega) h kk5
              · replace h := ite_t hc h
                refine vv_aload_n C dX7_sum_92 rfl 0 rfl 93 rfl ?_
                refine vv_iload C dX7_sum_93 4 rfl 95 rfl ?_
                obtain ⟨r_5, hr_5, h⟩ := bnd_s h
                refine vs_callVi C (S := Unit) (fun l => mt_X7_lifts l D c m0 oW oB oT oP WA BA TA PA hour ropes broken windX windY nW nB nT nP nR sg wF bF tF pF (nI j5) r_5 hr_5) gX7_sum_X7_lifts rfl rfl rfl yd_X7_lifts ⟨Nat.le_of_ble_eq_true rfl, Nat.le_of_ble_eq_true rfl⟩ (List.flatten [[aZ c isA isN isF]]) (sg_pick2 [5] [0, 1, 2, 3, 4, 6, 7, 8, 9] rfl rfl (pm_of (N := 10) rfl (by decide +kernel))) 0 rfl rfl rfl [.int x78] rfl (Nat.le_of_ble_eq_true rfl) ⟨show 0 + 0 ≤ 0 by omega, show 0 + 0 ≤ 0 by omega⟩ dX7_sum_95 98 0 0 rfl ⟨by omega, by omega⟩ (fun _ u_6 hu => ?_)
                rw [hu]
                refine vs_app ?_
                refine vv_seg [1, 2, 3, 4, 5, 0, 6, 7, 8, 9] [] [sO m0 hour ropes broken windX windY oW oB oT oP, [aR c oW nW (fun i => some (WA i))], [aR c oB nB (fun i => some (BA i))], [aR c oT nT (fun i => some (TA (sg i)))], [aR c oP nP (fun i => some (PA i))], [aZ c isA isN isF], rowsW c WA nW 7 wF, rowsW c BA nB 9 bF, rowsW c TA nR 4 tF, rowsW c PA nP 2 pF] rfl (pm_of (N := 10) rfl (by decide +kernel)) ?_
                refine vv_goto C 116 dX7_sum_98 (by decide) ?_
                refine vv_iadd C dX7_sum_116 117 rfl ?_
                refine vv_istore_n C [(3, .int (x78 + r_5)), (0, .ref m0), (1, .ref isA), (2, .int a1), (4, .int (nI j5))] dX7_sum_117 rfl (by decide) rfl 118 rfl ?_
                refine vv_iinc C (k := 4) [(4, .int (nI (j5 + 1))), (3, .int (x78 + r_5)), (0, .ref m0), (1, .ref isA), (2, .int a1)] dX7_sum_118 rfl nI_inc (by decide) rfl 121 rfl ?_
                refine vv_goto C 5 dX7_sum_121 (by decide) ?_
                refine vv_lv [2, 3, 4, 1, 0] [(0, .ref m0), (1, .ref isA), (2, .int a1), (3, .int (x78 + r_5)), (4, .int (nI (j5 + 1)))] rfl ?_
                exact ih5 (j5 + 1) (x78 + r_5) _ (by omega) h kk5
            · replace h := ite_t hc h
              refine vv_iconst C (v := 1) dX7_sum_83 (by decide) 84 rfl ?_
              refine vv_goto C 116 dX7_sum_84 (by decide) ?_
              refine vv_iadd C dX7_sum_116 117 rfl ?_
              refine vv_istore_n C [(3, .int (x78 + 1)), (0, .ref m0), (1, .ref isA), (2, .int a1), (4, .int (nI j5))] dX7_sum_117 rfl (by decide) rfl 118 rfl ?_
              refine vv_iinc C (k := 4) [(4, .int (nI (j5 + 1))), (3, .int (x78 + 1)), (0, .ref m0), (1, .ref isA), (2, .int a1)] dX7_sum_118 rfl nI_inc (by decide) rfl 121 rfl ?_
              refine vv_goto C 5 dX7_sum_121 (by decide) ?_
              refine vv_lv [2, 3, 4, 1, 0] [(0, .ref m0), (1, .ref isA), (2, .int a1), (3, .int (x78 + 1)), (4, .int (nI (j5 + 1)))] rfl ?_
              exact ih5 (j5 + 1) (x78 + 1) _ (by omega) h kk5
          refine vv_icmp_ne C 78 27 dX7_sum_24 (by decide) rfl (fun hc => ?_) (fun hc => ?_)
          · replace h := ite_f hc h
            exact J78 v3_5 h
          · replace h := ite_t hc h
            refine vv_aload_n C dX7_sum_27 rfl 0 rfl 28 rfl ?_
            refine vv_get C (q0 := 0) (ci := 7) (k := 8) kinX7_sum_X7 rfl rfl (by decide) kwX7_sum_1 rfl rfl dX7_sum_28 31 rfl ?_
            refine vv_astore C [(5, .ref oP), (0, .ref m0), (1, .ref isA), (2, .int a1), (3, .int v3_5), (4, .int (nI j5))] dX7_sum_31 (by decide) rfl 33 rfl ?_
            refine vv_aload C dX7_sum_33 0 rfl 35 rfl ?_
            refine vs_alenR C (q0 := 4) rfl dX7_sum_35 36 rfl ?_
            refine vv_istore C [(6, .int (nI nP)), (5, .ref oP), (0, .ref m0), (1, .ref isA), (2, .int a1), (3, .int v3_5), (4, .int (nI j5))] dX7_sum_36 (by decide) rfl 38 rfl ?_
            refine vv_iconst C (v := 0) dX7_sum_38 (by decide) 39 rfl ?_
            refine vv_istore C [(7, .int 0), (6, .int (nI nP)), (5, .ref oP), (0, .ref m0), (1, .ref isA), (2, .int a1), (3, .int v3_5), (4, .int (nI j5))] dX7_sum_39 (by decide) rfl 41 rfl ?_
            refine vv_lv [3, 4, 5, 6, 7, 2, 1, 0] [(0, .ref m0), (1, .ref isA), (2, .int a1), (3, .int v3_5), (4, .int (nI j5)), (5, .ref oP), (6, .int (nI nP)), (7, .int 0)] rfl ?_
            obtain ⟨hN41, h⟩ := chkP_s h
            have L41 : ∀ (n j41 : Nat) (v3_41 : Int32) (q41 : Int32), j41 + n = nP → jS_sum_L41 (nI j5) pF n j41 v3_41 = some q41 → (VV g D 9 0 0 (List.flatten [sO m0 hour ropes broken windX windY oW oB oT oP, [aR c oW nW (fun i => some (WA i))], [aR c oB nB (fun i => some (BA i))], [aR c oT nT (fun i => some (TA (sg i)))], [aR c oP nP (fun i => some (PA i))], [aZ c isA isN isF], rowsW c WA nW 7 wF, rowsW c BA nB 9 bF, rowsW c TA nR 4 tF, rowsW c PA nP 2 pF]) [(0, .ref m0), (1, .ref isA), (2, .int a1), (3, .int q41), (4, .int (nI j5))] 78 []) → VV g D 9 0 0 (List.flatten [sO m0 hour ropes broken windX windY oW oB oT oP, [aR c oW nW (fun i => some (WA i))], [aR c oB nB (fun i => some (BA i))], [aR c oT nT (fun i => some (TA (sg i)))], [aR c oP nP (fun i => some (PA i))], [aZ c isA isN isF], rowsW c WA nW 7 wF, rowsW c BA nB 9 bF, rowsW c TA nR 4 tF, rowsW c PA nP 2 pF]) [(0, .ref m0), (1, .ref isA), (2, .int a1), (3, .int v3_41), (4, .int (nI j5)), (5, .ref oP), (6, .int (nI nP)), (7, .int (nI j41))] 41 [] := by
              intro n
              induction n with
              | zero =>
                intro j41 v3_41 q41 hj41 h kk41
                rw [jS_sum_L41] at h
                refine vv_iload C dX7_sum_41 7 rfl 43 rfl ?_
                refine vv_iload C dX7_sum_43 6 rfl 45 rfl ?_
                refine vv_icmp_ge C 78 48 dX7_sum_45 (by decide) rfl (fun hc => ?_) (fun hc => ?_)
                · refine vv_lv [0, 1, 2, 3, 4] [(0, .ref m0), (1, .ref isA), (2, .int a1), (3, .int v3_41), (4, .int (nI j5))] rfl ?_
                  obtain rfl := Option.some.inj h
                  exact kk41 
                · exact absurd (nI_le (show nP ≤ j41 by omega) (by omega)) hc
              | succ n ih41 =>
                intro j41 v3_41 q41 hj41 h kk41
                rw [jS_sum_L41] at h
                refine vv_iload C dX7_sum_41 7 rfl 43 rfl ?_
                refine vv_iload C dX7_sum_43 6 rfl 45 rfl ?_
                refine vv_icmp_ge C 78 48 dX7_sum_45 (by decide) rfl (fun hc => ?_) (fun hc => ?_)
                · exact absurd hc (nI_ge (show j41 < nP by omega) (by omega))
                · refine vv_aload C dX7_sum_48 5 rfl 50 rfl ?_
                  refine vv_iload C dX7_sum_50 7 rfl 52 rfl ?_
                  refine vs_aald C (q0 := 4) (k := j41) rfl (nI_in (show j41 < nP by omega) (by omega)) (nI_clamp (show j41 < 2 ^ 31 by omega)) dX7_sum_52 53 rfl ?_
                  refine vv_eq (st' := [.ref (PA j41)]) rfl rfl rfl ?_
                  refine vv_astore C [(8, .ref (PA j41)), (0, .ref m0), (1, .ref isA), (2, .int a1), (3, .int v3_41), (4, .int (nI j5)), (5, .ref oP), (6, .int (nI nP)), (7, .int (nI j41))] dX7_sum_53 (by decide) rfl 55 rfl ?_
                  refine vv_iload_n C dX7_sum_55 rfl 4 rfl 56 rfl ?_
                  refine vv_aload C dX7_sum_56 0 rfl 58 rfl ?_
                  refine vv_iconst C (v := 0) dX7_sum_58 (by decide) 59 rfl ?_
                  refine vs_iald C (r := j41) 9 rfl (show j41 < nP by omega) (inB_t (by decide)) dX7_sum_59 60 rfl ?_
                  refine vv_iload C dX7_sum_60 5 rfl 62 rfl ?_
                  refine vv_icmp_ne C 69 65 dX7_sum_62 (by decide) rfl (fun hc => ?_) (fun hc => ?_)
                  · replace h := ite_f hc h
                    refine vv_iconst C (v := 0) dX7_sum_69 (by decide) 70 rfl ?_
                    refine vv_iadd C dX7_sum_70 71 rfl ?_
                    refine vv_istore_n C [(3, .int (v3_41 + 0)), (8, .ref (PA j41)), (0, .ref m0), (1, .ref isA), (2, .int a1), (4, .int (nI j5)), (5, .ref oP), (6, .int (nI nP)), (7, .int (nI j41))] dX7_sum_71 rfl (by decide) rfl 72 rfl ?_
                    refine vv_iinc C (k := 8) [(7, .int (nI (j41 + 1))), (3, .int (v3_41 + 0)), (8, .ref (PA j41)), (0, .ref m0), (1, .ref isA), (2, .int a1), (4, .int (nI j5)), (5, .ref oP), (6, .int (nI nP))] dX7_sum_72 rfl nI_inc (by decide) rfl 75 rfl ?_
                    refine vv_goto C 41 dX7_sum_75 (by decide) ?_
                    refine vv_lv [3, 4, 5, 1, 6, 7, 8, 0] [(0, .ref m0), (1, .ref isA), (2, .int a1), (3, .int (v3_41 + 0)), (4, .int (nI j5)), (5, .ref oP), (6, .int (nI nP)), (7, .int (nI (j41 + 1)))] rfl ?_
                    exact ih41 (j41 + 1) (v3_41 + 0) _ (by omega) h kk41
                  · replace h := ite_t hc h
                    refine vv_iconst C (v := 1) dX7_sum_65 (by decide) 66 rfl ?_
                    refine vv_goto C 70 dX7_sum_66 (by decide) ?_
                    refine vv_iadd C dX7_sum_70 71 rfl ?_
                    refine vv_istore_n C [(3, .int (v3_41 + 1)), (8, .ref (PA j41)), (0, .ref m0), (1, .ref isA), (2, .int a1), (4, .int (nI j5)), (5, .ref oP), (6, .int (nI nP)), (7, .int (nI j41))] dX7_sum_71 rfl (by decide) rfl 72 rfl ?_
                    refine vv_iinc C (k := 8) [(7, .int (nI (j41 + 1))), (3, .int (v3_41 + 1)), (8, .ref (PA j41)), (0, .ref m0), (1, .ref isA), (2, .int a1), (4, .int (nI j5)), (5, .ref oP), (6, .int (nI nP))] dX7_sum_72 rfl nI_inc (by decide) rfl 75 rfl ?_
                    refine vv_goto C 41 dX7_sum_75 (by decide) ?_
                    refine vv_lv [3, 4, 5, 1, 6, 7, 8, 0] [(0, .ref m0), (1, .ref isA), (2, .int a1), (3, .int (v3_41 + 1)), (4, .int (nI j5)), (5, .ref oP), (6, .int (nI nP)), (7, .int (nI (j41 + 1)))] rfl ?_
                    exact ih41 (j41 + 1) (v3_41 + 1) _ (by omega) h kk41
            obtain ⟨r_2, hr_2, h⟩ := bnd_s h
            refine L41 nP 0 v3_5 r_2 (Nat.zero_add _) hr_2 ?_
            exact J78 r_2 h
        · replace h := ite_t hc h
          refine vv_goto C 118 dX7_sum_19 (by decide) ?_
          refine vv_iinc C (k := 4) [(4, .int (nI (j5 + 1))), (0, .ref m0), (1, .ref isA), (2, .int a1), (3, .int v3_5)] dX7_sum_118 rfl nI_inc (by decide) rfl 121 rfl ?_
          refine vv_goto C 5 dX7_sum_121 (by decide) ?_
          refine vv_lv [1, 2, 3, 4, 0] [(0, .ref m0), (1, .ref isA), (2, .int a1), (3, .int v3_5), (4, .int (nI (j5 + 1)))] rfl ?_
          exact ih5 (j5 + 1) v3_5 _ (by omega) h kk5
  obtain ⟨r_7, hr_7, h⟩ := bnd_s h
  refine L5 isN 0 0 r_7 (Nat.zero_add _) hr_7 ?_
  refine vv_iload_n C dX7_sum_124 rfl 0 rfl 125 rfl ?_
  obtain rfl := Option.some.inj h
  refine vv_widen (k := 0) (n := 0) (by omega) (by omega) ?_
  exact ret () _ rfl _ _ dX7_sum_125
abbrev rmX7_sea : Room := { frames := 0, cells := 9, slots := 36, locals := 0 }
theorem yd_X7_sea : yX7_sea.cls = RX7 ∧ yX7_sea.cls ≠ "java/lang/invoke/MethodHandle" ∧ yX7_sea.cls ≠ "java/lang/invoke/VarHandle" ∧ (parseMethodDescriptor yX7_sea.desc).map (fun d => d.parameters.length) = some 2 := by decide +kernel
theorem kwX7_sea_1 : Cond.arrayClass .int ∈ wsX7_sea := List.mem_of_getElem? (i := 1) rfl
theorem kwX7_sea_2 : Cond.fieldLink RX7 15 "BarrelRaftLaw$Sim" "waters" "[[I" ∈ wsX7_sea := List.mem_of_getElem? (i := 2) rfl
set_option maxRecDepth 20000 in
theorem kinX7_sea_X7 : ∀ w ∈ u_ws RX7 TX7 9, w ∈ wsX7_sea := by decide +kernel
def jS_sea_L23 (u1_23 : Int32) (u2_23 : Int32) (wF : Nat → Nat → Int32) (n : Nat) (j23 : Nat) (f3_23 : Nat → Int32) : Option ((Nat → Int32)) := match n with
  | 0 => some f3_23
  | n + 1 => (if u1_23 < rd (wF j23) 0 then jS_sea_L23 u1_23 u2_23 wF n (j23 + 1) f3_23 else (if (rd (wF j23) 0) + (rd (wF j23) 2) ≤ u1_23 then jS_sea_L23 u1_23 u2_23 wF n (j23 + 1) f3_23 else (if u2_23 < rd (wF j23) 1 then jS_sea_L23 u1_23 u2_23 wF n (j23 + 1) f3_23 else (if (rd (wF j23) 1) + (rd (wF j23) 3) ≤ u2_23 then jS_sea_L23 u1_23 u2_23 wF n (j23 + 1) f3_23 else jS_sea_L23 u1_23 u2_23 wF n (j23 + 1) (wr (wr (wr (wr (fun _ => 0) 0 (rd (wF j23) 4)) 1 (rd (wF j23) 5)) 2 (rd (wF j23) 6)) 3 (nI j23))))))
def jS_sea (nW : Nat) (wF : Nat → Nat → Int32) (a1 : Int32) (a2 : Int32) : Option ((Nat → Int32)) := chkP (nW ≤ 8) (bnd (jS_sea_L23 a1 a2 wF nW 0 (wr (wr (wr (wr (fun _ => 0) 0 0) 1 0) 2 0) 3 (-1))) (fun r_4 => some r_4))
set_option maxHeartbeats 40000000 in
set_option maxRecDepth 100000 in
theorem mt_X7_sea (l : Launch) (D : va_G) (c : Nat → ClassId) (m0 oW oB oT oP : Nat) (WA BA TA PA : Nat → Nat) (hour : Int32) (ropes : Int32) (broken : Int32) (windX : Int32) (windY : Int32) (nW : Nat) (nB : Nat) (nT : Nat) (nP : Nat) (nR : Nat) (sg : Nat → Nat) (wF : Nat → Nat → Int32) (bF : Nat → Nat → Int32) (tF : Nat → Nat → Int32) (pF : Nat → Nat → Int32) (a1 : Int32) (a2 : Int32) (q0 : (Nat → Int32)) (h : jS_sea nW wF a1 a2 = some q0) : MJq l yX7_sea wsX7_sea rmX7_sea D c (List.flatten [sO m0 hour ropes broken windX windY oW oB oT oP, [aR c oW nW (fun i => some (WA i))], [aR c oB nB (fun i => some (BA i))], [aR c oT nT (fun i => some (TA (sg i)))], [aR c oP nP (fun i => some (PA i))], rowsW c WA nW 7 wF, rowsW c BA nB 9 bF, rowsW c TA nR 4 tF, rowsW c PA nP 2 pF]) [.ref m0, .int a1, .int a2] (fun (_ : Nat) => True) (fun u => some u) (fun u => (List.flatten [sO m0 hour ropes broken windX windY oW oB oT oP, [aR c oW nW (fun i => some (WA i))], [aR c oB nB (fun i => some (BA i))], [aR c oT nT (fun i => some (TA (sg i)))], [aR c oP nP (fun i => some (PA i))], [aI c u 4 q0], rowsW c WA nW 7 wF, rowsW c BA nB 9 bF, rowsW c TA nR 4 tF, rowsW c PA nP 2 pF])) 9 36 := by
  refine MJq_of (t0 := .array .int) (hrt := Or.inr ⟨_, rfl⟩) (cc := cX7_sea) (nL := 6) RX7 rfl (by decide) rfl (Nat.le_of_ble_eq_true rfl) (fun g C ret => ?_)
  unfold jS_sea at h
  refine vv_lv [0, 1, 2] [(0, .ref m0), (1, .int a1), (2, .int a2)] rfl ?_
  refine vv_iconst C (v := 4) dX7_sea_0 (by decide) 1 rfl ?_
  refine vv_newa C (N := 4) kwX7_sea_1 (by decide) (by decide) (by decide) ⟨show 0 + 1 ≤ 9 by omega, show 0 + 4 ≤ 36 by omega⟩ dX7_sea_1 3 1 4 rfl ⟨by omega, by omega⟩ (fun q_1 => ?_)
  refine vs_snoc ?_
  refine vv_seg [0, 1, 2, 3, 4, 9, 5, 6, 7, 8] [] [sO m0 hour ropes broken windX windY oW oB oT oP, [aR c oW nW (fun i => some (WA i))], [aR c oB nB (fun i => some (BA i))], [aR c oT nT (fun i => some (TA (sg i)))], [aR c oP nP (fun i => some (PA i))], [aI c q_1 4 (fun _ => 0)], rowsW c WA nW 7 wF, rowsW c BA nB 9 bF, rowsW c TA nR 4 tF, rowsW c PA nP 2 pF] rfl (pm_of (N := 10) rfl (by decide +kernel)) ?_
  refine vv_dup C dX7_sea_3 rfl 4 rfl ?_
  refine vv_iconst C (v := 0) dX7_sea_4 (by decide) 5 rfl ?_
  refine vv_iconst C (v := 0) dX7_sea_5 (by decide) 6 rfl ?_
  refine vv_iast C (q0 := 5) (List.flatten [sO m0 hour ropes broken windX windY oW oB oT oP, [aR c oW nW (fun i => some (WA i))], [aR c oB nB (fun i => some (BA i))], [aR c oT nT (fun i => some (TA (sg i)))], [aR c oP nP (fun i => some (PA i))], [aI c q_1 4 (wr (fun _ => 0) 0 0)], rowsW c WA nW 7 wF, rowsW c BA nB 9 bF, rowsW c TA nR 4 tF, rowsW c PA nP 2 pF]) rfl (inB_t (by decide)) rfl dX7_sea_6 7 rfl ?_
  refine vv_dup C dX7_sea_7 rfl 8 rfl ?_
  refine vv_iconst C (v := 1) dX7_sea_8 (by decide) 9 rfl ?_
  refine vv_iconst C (v := 0) dX7_sea_9 (by decide) 10 rfl ?_
  refine vv_iast C (q0 := 5) (List.flatten [sO m0 hour ropes broken windX windY oW oB oT oP, [aR c oW nW (fun i => some (WA i))], [aR c oB nB (fun i => some (BA i))], [aR c oT nT (fun i => some (TA (sg i)))], [aR c oP nP (fun i => some (PA i))], [aI c q_1 4 (wr (wr (fun _ => 0) 0 0) 1 0)], rowsW c WA nW 7 wF, rowsW c BA nB 9 bF, rowsW c TA nR 4 tF, rowsW c PA nP 2 pF]) rfl (inB_t (by decide)) rfl dX7_sea_10 11 rfl ?_
  refine vv_dup C dX7_sea_11 rfl 12 rfl ?_
  refine vv_iconst C (v := 2) dX7_sea_12 (by decide) 13 rfl ?_
  refine vv_iconst C (v := 0) dX7_sea_13 (by decide) 14 rfl ?_
  refine vv_iast C (q0 := 5) (List.flatten [sO m0 hour ropes broken windX windY oW oB oT oP, [aR c oW nW (fun i => some (WA i))], [aR c oB nB (fun i => some (BA i))], [aR c oT nT (fun i => some (TA (sg i)))], [aR c oP nP (fun i => some (PA i))], [aI c q_1 4 (wr (wr (wr (fun _ => 0) 0 0) 1 0) 2 0)], rowsW c WA nW 7 wF, rowsW c BA nB 9 bF, rowsW c TA nR 4 tF, rowsW c PA nP 2 pF]) rfl (inB_t (by decide)) rfl dX7_sea_14 15 rfl ?_
  refine vv_dup C dX7_sea_15 rfl 16 rfl ?_
  refine vv_iconst C (v := 3) dX7_sea_16 (by decide) 17 rfl ?_
  refine vv_iconst C (v := (-1)) dX7_sea_17 (by decide) 18 rfl ?_
  refine vv_iast C (q0 := 5) (List.flatten [sO m0 hour ropes broken windX windY oW oB oT oP, [aR c oW nW (fun i => some (WA i))], [aR c oB nB (fun i => some (BA i))], [aR c oT nT (fun i => some (TA (sg i)))], [aR c oP nP (fun i => some (PA i))], [aI c q_1 4 (wr (wr (wr (wr (fun _ => 0) 0 0) 1 0) 2 0) 3 (-1))], rowsW c WA nW 7 wF, rowsW c BA nB 9 bF, rowsW c TA nR 4 tF, rowsW c PA nP 2 pF]) rfl (inB_t (by decide)) rfl dX7_sea_18 19 rfl ?_
  refine vv_astore_n C [(3, .ref q_1), (0, .ref m0), (1, .int a1), (2, .int a2)] dX7_sea_19 rfl (by decide) rfl 20 rfl ?_
  refine vv_iconst C (v := 0) dX7_sea_20 (by decide) 21 rfl ?_
  refine vv_istore C [(4, .int 0), (3, .ref q_1), (0, .ref m0), (1, .int a1), (2, .int a2)] dX7_sea_21 (by decide) rfl 23 rfl ?_
  refine vv_lv [2, 3, 4, 1, 0] [(0, .ref m0), (1, .int a1), (2, .int a2), (3, .ref q_1), (4, .int 0)] rfl ?_
  obtain ⟨hN23, h⟩ := chkP_s h
  have L23 : ∀ (n j23 : Nat) (a3_23 : Nat) (f3_23 : Nat → Int32) (q23 : (Nat → Int32)), j23 + n = nW → jS_sea_L23 a1 a2 wF n j23 f3_23 = some q23 → (∀ (a3_23e : Nat), VV g D 6 (1 + nW * 1) (4 + nW * 4) (List.flatten [sO m0 hour ropes broken windX windY oW oB oT oP, [aR c oW nW (fun i => some (WA i))], [aR c oB nB (fun i => some (BA i))], [aR c oT nT (fun i => some (TA (sg i)))], [aR c oP nP (fun i => some (PA i))], [aI c a3_23e 4 q23], rowsW c WA nW 7 wF, rowsW c BA nB 9 bF, rowsW c TA nR 4 tF, rowsW c PA nP 2 pF]) [(3, .ref a3_23e)] 121 []) → VV g D 6 (1 + j23 * 1) (4 + j23 * 4) (List.flatten [sO m0 hour ropes broken windX windY oW oB oT oP, [aR c oW nW (fun i => some (WA i))], [aR c oB nB (fun i => some (BA i))], [aR c oT nT (fun i => some (TA (sg i)))], [aR c oP nP (fun i => some (PA i))], [aI c a3_23 4 f3_23], rowsW c WA nW 7 wF, rowsW c BA nB 9 bF, rowsW c TA nR 4 tF, rowsW c PA nP 2 pF]) [(0, .ref m0), (1, .int a1), (2, .int a2), (3, .ref a3_23), (4, .int (nI j23))] 23 [] := by
    intro n
    induction n with
    | zero =>
      intro j23 a3_23 f3_23 q23 hj23 h kk23
      rw [jS_sea_L23] at h
      refine vv_iload C dX7_sea_23 4 rfl 25 rfl ?_
      refine vv_aload_n C dX7_sea_25 rfl 0 rfl 26 rfl ?_
      refine vv_get C (q0 := 0) (ci := 7) (k := 5) kinX7_sea_X7 rfl rfl (by decide) kwX7_sea_2 rfl rfl dX7_sea_26 29 rfl ?_
      refine vs_alenR C (q0 := 1) rfl dX7_sea_29 30 rfl ?_
      refine vv_icmp_ge C 121 33 dX7_sea_30 (by decide) rfl (fun hc => ?_) (fun hc => ?_)
      · refine vv_lv [3] [(3, .ref a3_23)] rfl ?_
        refine vv_widen (k := 1 + nW * 1) (n := 4 + nW * 4) (by omega) (by omega) ?_
        obtain rfl := Option.some.inj h
        exact kk23 a3_23
      · exact absurd (nI_le (show nW ≤ j23 by omega) (by omega)) hc
    | succ n ih23 =>
      intro j23 a3_23 f3_23 q23 hj23 h kk23
      rw [jS_sea_L23] at h
      refine vv_iload C dX7_sea_23 4 rfl 25 rfl ?_
      refine vv_aload_n C dX7_sea_25 rfl 0 rfl 26 rfl ?_
      refine vv_get C (q0 := 0) (ci := 7) (k := 5) kinX7_sea_X7 rfl rfl (by decide) kwX7_sea_2 rfl rfl dX7_sea_26 29 rfl ?_
      refine vs_alenR C (q0 := 1) rfl dX7_sea_29 30 rfl ?_
      refine vv_icmp_ge C 121 33 dX7_sea_30 (by decide) rfl (fun hc => ?_) (fun hc => ?_)
      · exact absurd hc (nI_ge (show j23 < nW by omega) (by omega))
      · refine vv_aload_n C dX7_sea_33 rfl 0 rfl 34 rfl ?_
        refine vv_get C (q0 := 0) (ci := 7) (k := 5) kinX7_sea_X7 rfl rfl (by decide) kwX7_sea_2 rfl rfl dX7_sea_34 37 rfl ?_
        refine vv_iload C dX7_sea_37 4 rfl 39 rfl ?_
        refine vs_aald C (q0 := 1) (k := j23) rfl (nI_in (show j23 < nW by omega) (by omega)) (nI_clamp (show j23 < 2 ^ 31 by omega)) dX7_sea_39 40 rfl ?_
        refine vv_eq (st' := [.ref (WA j23)]) rfl rfl rfl ?_
        refine vv_astore C [(5, .ref (WA j23)), (0, .ref m0), (1, .int a1), (2, .int a2), (3, .ref a3_23), (4, .int (nI j23))] dX7_sea_40 (by decide) rfl 42 rfl ?_
        refine vv_iload_n C dX7_sea_42 rfl 2 rfl 43 rfl ?_
        refine vv_aload C dX7_sea_43 0 rfl 45 rfl ?_
        refine vv_iconst C (v := 0) dX7_sea_45 (by decide) 46 rfl ?_
        refine vs_iald C (r := j23) 6 rfl (show j23 < nW by omega) (inB_t (by decide)) dX7_sea_46 47 rfl ?_
        refine vv_icmp_lt C 115 50 dX7_sea_47 (by decide) rfl (fun hc => ?_) (fun hc => ?_)
        · replace h := ite_t hc h
          refine vv_iinc C (k := 5) [(4, .int (nI (j23 + 1))), (5, .ref (WA j23)), (0, .ref m0), (1, .int a1), (2, .int a2), (3, .ref a3_23)] dX7_sea_115 rfl nI_inc (by decide) rfl 118 rfl ?_
          refine vv_goto C 23 dX7_sea_118 (by decide) ?_
          refine vv_lv [2, 3, 4, 5, 0] [(0, .ref m0), (1, .int a1), (2, .int a2), (3, .ref a3_23), (4, .int (nI (j23 + 1)))] rfl ?_
          refine vv_widen (k := 1 + (j23 + 1) * 1) (n := 4 + (j23 + 1) * 4) (by omega) (by omega) ?_
          exact ih23 (j23 + 1) a3_23 f3_23 _ (by omega) h kk23
        · replace h := ite_f hc h
          refine vv_iload_n C dX7_sea_50 rfl 2 rfl 51 rfl ?_
          refine vv_aload C dX7_sea_51 0 rfl 53 rfl ?_
          refine vv_iconst C (v := 0) dX7_sea_53 (by decide) 54 rfl ?_
          refine vs_iald C (r := j23) 6 rfl (show j23 < nW by omega) (inB_t (by decide)) dX7_sea_54 55 rfl ?_
          refine vv_aload C dX7_sea_55 0 rfl 57 rfl ?_
          refine vv_iconst C (v := 2) dX7_sea_57 (by decide) 58 rfl ?_
          refine vs_iald C (r := j23) 6 rfl (show j23 < nW by omega) (inB_t (by decide)) dX7_sea_58 59 rfl ?_
          refine vv_iadd C dX7_sea_59 60 rfl ?_
          refine vv_icmp_ge C 115 63 dX7_sea_60 (by decide) rfl (fun hc => ?_) (fun hc => ?_)
          · replace h := ite_t hc h
            refine vv_iinc C (k := 5) [(4, .int (nI (j23 + 1))), (5, .ref (WA j23)), (0, .ref m0), (1, .int a1), (2, .int a2), (3, .ref a3_23)] dX7_sea_115 rfl nI_inc (by decide) rfl 118 rfl ?_
            refine vv_goto C 23 dX7_sea_118 (by decide) ?_
            refine vv_lv [2, 3, 4, 5, 0] [(0, .ref m0), (1, .int a1), (2, .int a2), (3, .ref a3_23), (4, .int (nI (j23 + 1)))] rfl ?_
            refine vv_widen (k := 1 + (j23 + 1) * 1) (n := 4 + (j23 + 1) * 4) (by omega) (by omega) ?_
            exact ih23 (j23 + 1) a3_23 f3_23 _ (by omega) h kk23
          · replace h := ite_f hc h
            refine vv_iload_n C dX7_sea_63 rfl 3 rfl 64 rfl ?_
            refine vv_aload C dX7_sea_64 0 rfl 66 rfl ?_
            refine vv_iconst C (v := 1) dX7_sea_66 (by decide) 67 rfl ?_
            refine vs_iald C (r := j23) 6 rfl (show j23 < nW by omega) (inB_t (by decide)) dX7_sea_67 68 rfl ?_
            refine vv_icmp_lt C 115 71 dX7_sea_68 (by decide) rfl (fun hc => ?_) (fun hc => ?_)
            · replace h := ite_t hc h
              refine vv_iinc C (k := 5) [(4, .int (nI (j23 + 1))), (5, .ref (WA j23)), (0, .ref m0), (1, .int a1), (2, .int a2), (3, .ref a3_23)] dX7_sea_115 rfl nI_inc (by decide) rfl 118 rfl ?_
              refine vv_goto C 23 dX7_sea_118 (by decide) ?_
              refine vv_lv [2, 3, 4, 5, 0] [(0, .ref m0), (1, .int a1), (2, .int a2), (3, .ref a3_23), (4, .int (nI (j23 + 1)))] rfl ?_
              refine vv_widen (k := 1 + (j23 + 1) * 1) (n := 4 + (j23 + 1) * 4) (by omega) (by omega) ?_
              exact ih23 (j23 + 1) a3_23 f3_23 _ (by omega) h kk23
            · replace h := ite_f hc h
              refine vv_iload_n C dX7_sea_71 rfl 3 rfl 72 rfl ?_
              refine vv_aload C dX7_sea_72 0 rfl 74 rfl ?_
              refine vv_iconst C (v := 1) dX7_sea_74 (by decide) 75 rfl ?_
              refine vs_iald C (r := j23) 6 rfl (show j23 < nW by omega) (inB_t (by decide)) dX7_sea_75 76 rfl ?_
              refine vv_aload C dX7_sea_76 0 rfl 78 rfl ?_
              refine vv_iconst C (v := 3) dX7_sea_78 (by decide) 79 rfl ?_
              refine vs_iald C (r := j23) 6 rfl (show j23 < nW by omega) (inB_t (by decide)) dX7_sea_79 80 rfl ?_
              refine vv_iadd C dX7_sea_80 81 rfl ?_
              refine vv_icmp_ge C 115 84 dX7_sea_81 (by decide) rfl (fun hc => ?_) (fun hc => ?_)
              · replace h := ite_t hc h
                refine vv_iinc C (k := 5) [(4, .int (nI (j23 + 1))), (5, .ref (WA j23)), (0, .ref m0), (1, .int a1), (2, .int a2), (3, .ref a3_23)] dX7_sea_115 rfl nI_inc (by decide) rfl 118 rfl ?_
                refine vv_goto C 23 dX7_sea_118 (by decide) ?_
                refine vv_lv [2, 3, 4, 5, 0] [(0, .ref m0), (1, .int a1), (2, .int a2), (3, .ref a3_23), (4, .int (nI (j23 + 1)))] rfl ?_
                refine vv_widen (k := 1 + (j23 + 1) * 1) (n := 4 + (j23 + 1) * 4) (by omega) (by omega) ?_
                exact ih23 (j23 + 1) a3_23 f3_23 _ (by omega) h kk23
              · replace h := ite_f hc h
                refine vv_iconst C (v := 4) dX7_sea_84 (by decide) 85 rfl ?_
                refine vv_newa C (N := 4) kwX7_sea_1 (by decide) (by decide) (by decide) ⟨show (1 + j23 * 1) + 1 ≤ 9 by omega, show (4 + j23 * 4) + 4 ≤ 36 by omega⟩ dX7_sea_85 87 ((1 + j23 * 1) + 1) ((4 + j23 * 4) + 4) rfl ⟨by omega, by omega⟩ (fun q_3 => ?_)
                refine vs_snoc ?_
                refine vv_seg [0, 1, 2, 3, 4, 5, 10, 6, 7, 8, 9] [] [sO m0 hour ropes broken windX windY oW oB oT oP, [aR c oW nW (fun i => some (WA i))], [aR c oB nB (fun i => some (BA i))], [aR c oT nT (fun i => some (TA (sg i)))], [aR c oP nP (fun i => some (PA i))], [aI c a3_23 4 f3_23], [aI c q_3 4 (fun _ => 0)], rowsW c WA nW 7 wF, rowsW c BA nB 9 bF, rowsW c TA nR 4 tF, rowsW c PA nP 2 pF] rfl (pm_of (N := 11) rfl (by decide +kernel)) ?_
                refine vv_dup C dX7_sea_87 rfl 88 rfl ?_
                refine vv_iconst C (v := 0) dX7_sea_88 (by decide) 89 rfl ?_
                refine vv_aload C dX7_sea_89 0 rfl 91 rfl ?_
                refine vv_iconst C (v := 4) dX7_sea_91 (by decide) 92 rfl ?_
                refine vs_iald C (r := j23) 7 rfl (show j23 < nW by omega) (inB_t (by decide)) dX7_sea_92 93 rfl ?_
                refine vv_iast C (q0 := 6) (List.flatten [sO m0 hour ropes broken windX windY oW oB oT oP, [aR c oW nW (fun i => some (WA i))], [aR c oB nB (fun i => some (BA i))], [aR c oT nT (fun i => some (TA (sg i)))], [aR c oP nP (fun i => some (PA i))], [aI c a3_23 4 f3_23], [aI c q_3 4 (wr (fun _ => 0) 0 (rd (wF j23) 4))], rowsW c WA nW 7 wF, rowsW c BA nB 9 bF, rowsW c TA nR 4 tF, rowsW c PA nP 2 pF]) rfl (inB_t (by decide)) rfl dX7_sea_93 94 rfl ?_
                refine vv_dup C dX7_sea_94 rfl 95 rfl ?_
                refine vv_iconst C (v := 1) dX7_sea_95 (by decide) 96 rfl ?_
                refine vv_aload C dX7_sea_96 0 rfl 98 rfl ?_
                refine vv_iconst C (v := 5) dX7_sea_98 (by decide) 99 rfl ?_
                refine vs_iald C (r := j23) 7 rfl (show j23 < nW by omega) (inB_t (by decide)) dX7_sea_99 100 rfl ?_
                refine vv_iast C (q0 := 6) (List.flatten [sO m0 hour ropes broken windX windY oW oB oT oP, [aR c oW nW (fun i => some (WA i))], [aR c oB nB (fun i => some (BA i))], [aR c oT nT (fun i => some (TA (sg i)))], [aR c oP nP (fun i => some (PA i))], [aI c a3_23 4 f3_23], [aI c q_3 4 (wr (wr (fun _ => 0) 0 (rd (wF j23) 4)) 1 (rd (wF j23) 5))], rowsW c WA nW 7 wF, rowsW c BA nB 9 bF, rowsW c TA nR 4 tF, rowsW c PA nP 2 pF]) rfl (inB_t (by decide)) rfl dX7_sea_100 101 rfl ?_
                refine vv_dup C dX7_sea_101 rfl 102 rfl ?_
                refine vv_iconst C (v := 2) dX7_sea_102 (by decide) 103 rfl ?_
                refine vv_aload C dX7_sea_103 0 rfl 105 rfl ?_
                refine vv_bipush C (v := 6) dX7_sea_105 (by decide) 107 rfl ?_
                refine vs_iald C (r := j23) 7 rfl (show j23 < nW by omega) (inB_t (by decide)) dX7_sea_107 108 rfl ?_
                refine vv_iast C (q0 := 6) (List.flatten [sO m0 hour ropes broken windX windY oW oB oT oP, [aR c oW nW (fun i => some (WA i))], [aR c oB nB (fun i => some (BA i))], [aR c oT nT (fun i => some (TA (sg i)))], [aR c oP nP (fun i => some (PA i))], [aI c a3_23 4 f3_23], [aI c q_3 4 (wr (wr (wr (fun _ => 0) 0 (rd (wF j23) 4)) 1 (rd (wF j23) 5)) 2 (rd (wF j23) 6))], rowsW c WA nW 7 wF, rowsW c BA nB 9 bF, rowsW c TA nR 4 tF, rowsW c PA nP 2 pF]) rfl (inB_t (by decide)) rfl dX7_sea_108 109 rfl ?_
                refine vv_dup C dX7_sea_109 rfl 110 rfl ?_
                refine vv_iconst C (v := 3) dX7_sea_110 (by decide) 111 rfl ?_
                refine vv_iload C dX7_sea_111 5 rfl 113 rfl ?_
                refine vv_iast C (q0 := 6) (List.flatten [sO m0 hour ropes broken windX windY oW oB oT oP, [aR c oW nW (fun i => some (WA i))], [aR c oB nB (fun i => some (BA i))], [aR c oT nT (fun i => some (TA (sg i)))], [aR c oP nP (fun i => some (PA i))], [aI c a3_23 4 f3_23], [aI c q_3 4 (wr (wr (wr (wr (fun _ => 0) 0 (rd (wF j23) 4)) 1 (rd (wF j23) 5)) 2 (rd (wF j23) 6)) 3 (nI j23))], rowsW c WA nW 7 wF, rowsW c BA nB 9 bF, rowsW c TA nR 4 tF, rowsW c PA nP 2 pF]) rfl (inB_t (by decide)) rfl dX7_sea_113 114 rfl ?_
                refine vv_astore_n C [(3, .ref q_3), (5, .ref (WA j23)), (0, .ref m0), (1, .int a1), (2, .int a2), (4, .int (nI j23))] dX7_sea_114 rfl (by decide) rfl 115 rfl ?_
                refine vv_iinc C (k := 5) [(4, .int (nI (j23 + 1))), (3, .ref q_3), (5, .ref (WA j23)), (0, .ref m0), (1, .int a1), (2, .int a2)] dX7_sea_115 rfl nI_inc (by decide) rfl 118 rfl ?_
                refine vv_goto C 23 dX7_sea_118 (by decide) ?_
                refine vv_lv [3, 4, 5, 1, 0] [(0, .ref m0), (1, .int a1), (2, .int a2), (3, .ref q_3), (4, .int (nI (j23 + 1)))] rfl ?_
                refine vv_seg [0, 1, 2, 3, 4, 6, 7, 8, 9, 10] [5] [sO m0 hour ropes broken windX windY oW oB oT oP, [aR c oW nW (fun i => some (WA i))], [aR c oB nB (fun i => some (BA i))], [aR c oT nT (fun i => some (TA (sg i)))], [aR c oP nP (fun i => some (PA i))], [aI c q_3 4 (wr (wr (wr (wr (fun _ => 0) 0 (rd (wF j23) 4)) 1 (rd (wF j23) 5)) 2 (rd (wF j23) 6)) 3 (nI j23))], rowsW c WA nW 7 wF, rowsW c BA nB 9 bF, rowsW c TA nR 4 tF, rowsW c PA nP 2 pF] rfl (pm_of (N := 11) rfl (by decide +kernel)) ?_
                refine vv_widen (k := 1 + (j23 + 1) * 1) (n := 4 + (j23 + 1) * 4) (by omega) (by omega) ?_
                exact ih23 (j23 + 1) q_3 (wr (wr (wr (wr (fun _ => 0) 0 (rd (wF j23) 4)) 1 (rd (wF j23) 5)) 2 (rd (wF j23) 6)) 3 (nI j23)) _ (by omega) h kk23
  obtain ⟨r_4, hr_4, h⟩ := bnd_s h
  refine vv_cs (k := 1 + 0 * 1) (n := 4 + 0 * 4) (by omega) (by omega) ?_
  refine L23 nW 0 q_1 (wr (wr (wr (wr (fun _ => 0) 0 0) 1 0) 2 0) 3 (-1)) r_4 (Nat.zero_add _) hr_4 ?_
  intro a3_23e
  refine vv_widen (k := 9) (n := 36) (by omega) (by omega) ?_
  refine vv_aload_n C dX7_sea_121 rfl 0 rfl 122 rfl ?_
  obtain rfl := Option.some.inj h
  refine vv_widen (k := 9) (n := 36) (by omega) (by omega) ?_
  exact ret a3_23e trivial _ _ dX7_sea_122
abbrev rmX7_untie : Room := { frames := 1, cells := 11, slots := 120, locals := 23 }
theorem yd_X7_untie : yX7_untie.cls = RX7 ∧ yX7_untie.cls ≠ "java/lang/invoke/MethodHandle" ∧ yX7_untie.cls ≠ "java/lang/invoke/VarHandle" ∧ (parseMethodDescriptor yX7_untie.desc).map (fun d => d.parameters.length) = some 1 := by decide +kernel
theorem kwX7_untie_1 : Cond.classLink RX7 13 "[I" ∈ wsX7_untie := List.mem_of_getElem? (i := 1) rfl
theorem kwX7_untie_2 : Cond.fieldLink RX7 22 "BarrelRaftLaw$Sim" "ties" "[[I" ∈ wsX7_untie := List.mem_of_getElem? (i := 2) rfl
set_option maxRecDepth 20000 in
theorem kinX7_untie_X7 : ∀ w ∈ u_ws RX7 TX7 9, w ∈ wsX7_untie := by decide +kernel
def jS_untie_L17 (u1_17 : Nat) (sg : Nat → Nat) (nR : Nat) (n : Nat) (j17 : Nat) (n2_17 : Nat) (s2_17 : Nat → Nat) : Option (Nat × (Nat → Nat)) := match n with
  | 0 => some (n2_17, s2_17)
  | n + 1 => chkP (sg j17 < nR) (chkP (u1_17 < nR) ((if sg j17 = u1_17 then jS_untie_L17 u1_17 sg nR n (j17 + 1) n2_17 s2_17 else chkP (∀ i, i < n2_17 → s2_17 i < nR) (chkP (n2_17 < 12) (jS_untie_L17 u1_17 sg nR n (j17 + 1) (n2_17 + 1) (uN s2_17 n2_17 (sg j17)))))))
def jS_untie (nT : Nat) (nR : Nat) (sg : Nat → Nat) (r1 : Nat) : Option (Nat × (Nat → Nat)) := chkP (nT ≤ 10) (bnd (jS_untie_L17 r1 sg nR nT 0 0 (fun _ => 0)) (fun r_7 => some (r_7.1, r_7.2)))
set_option maxHeartbeats 40000000 in
set_option maxRecDepth 100000 in
theorem mt_X7_untie (l : Launch) (D : va_G) (c : Nat → ClassId) (m0 oW oB oT oP : Nat) (WA BA TA PA : Nat → Nat) (hour : Int32) (ropes : Int32) (broken : Int32) (windX : Int32) (windY : Int32) (nW : Nat) (nB : Nat) (nT : Nat) (nP : Nat) (nR : Nat) (sg : Nat → Nat) (wF : Nat → Nat → Int32) (bF : Nat → Nat → Int32) (tF : Nat → Nat → Int32) (pF : Nat → Nat → Int32) (r1 : Nat) (q0 : Nat × (Nat → Nat)) (h : jS_untie nT nR sg r1 = some q0) : MJv l yX7_untie wsX7_untie rmX7_untie D c (List.flatten [sO m0 hour ropes broken windX windY oW oB oT oP, [aR c oW nW (fun i => some (WA i))], [aR c oB nB (fun i => some (BA i))], [aR c oT nT (fun i => some (TA (sg i)))], [aR c oP nP (fun i => some (PA i))], rowsW c WA nW 7 wF, rowsW c BA nB 9 bF, rowsW c TA nR 4 tF, rowsW c PA nP 2 pF]) [.ref m0, .ref (TA r1)] (fun (_ : Nat) => True) (fun u => (List.flatten [sO m0 hour ropes broken windX windY oW oB u oP, [aR c oW nW (fun i => some (WA i))], [aR c oB nB (fun i => some (BA i))], [aR c u q0.1 (fun i => some (TA (q0.2 i)))], [aR c oP nP (fun i => some (PA i))], rowsW c WA nW 7 wF, rowsW c BA nB 9 bF, rowsW c TA nR 4 tF, rowsW c PA nP 2 pF])) 11 120 := by
  refine MJv_of (cc := cX7_untie) (nL := 7) RX7 rfl (by decide) rfl (Nat.le_of_ble_eq_true rfl) (fun g C ret => ?_)
  unfold jS_untie at h
  refine vv_lv [0, 1] [(0, .ref m0), (1, .ref (TA r1))] rfl ?_
  refine vv_iconst C (v := 0) dX7_untie_0 (by decide) 1 rfl ?_
  refine vv_anewA C (N := 0) kwX7_untie_1 (by decide) (by decide) (by decide) ⟨show 0 + 1 ≤ 11 by omega, show 0 + 0 ≤ 120 by omega⟩ dX7_untie_1 4 1 0 rfl ⟨by omega, by omega⟩ (fun q_1 => ?_)
  refine vs_snoc ?_
  refine vs_out (segs' := [sO m0 hour ropes broken windX windY oW oB oT oP, [aR c oW nW (fun i => some (WA i))], [aR c oB nB (fun i => some (BA i))], [aR c oT nT (fun i => some (TA (sg i)))], [aR c oP nP (fun i => some (PA i))], rowsW c WA nW 7 wF, rowsW c BA nB 9 bF, rowsW c TA nR 4 tF, rowsW c PA nP 2 pF, [aR c q_1 0 (fun i => some (TA ((fun _ => 0) i)))]]) 9 rfl (fun i hi => absurd hi (Nat.not_lt_zero i)) rfl ?_
  refine vv_seg [0, 1, 2, 3, 4, 9, 5, 6, 7, 8] [] [sO m0 hour ropes broken windX windY oW oB oT oP, [aR c oW nW (fun i => some (WA i))], [aR c oB nB (fun i => some (BA i))], [aR c oT nT (fun i => some (TA (sg i)))], [aR c oP nP (fun i => some (PA i))], [aR c q_1 0 (fun i => some (TA ((fun _ => 0) i)))], rowsW c WA nW 7 wF, rowsW c BA nB 9 bF, rowsW c TA nR 4 tF, rowsW c PA nP 2 pF] rfl (pm_of (N := 10) rfl (by decide +kernel)) ?_
  refine vv_astore_n C [(2, .ref q_1), (0, .ref m0), (1, .ref (TA r1))] dX7_untie_4 rfl (by decide) rfl 5 rfl ?_
  refine vv_aload_n C dX7_untie_5 rfl 1 rfl 6 rfl ?_
  refine vv_get C (q0 := 0) (ci := 7) (k := 7) kinX7_untie_X7 rfl rfl (by decide) kwX7_untie_2 rfl rfl dX7_untie_6 9 rfl ?_
  refine vv_astore_n C [(3, .ref oT), (2, .ref q_1), (0, .ref m0), (1, .ref (TA r1))] dX7_untie_9 rfl (by decide) rfl 10 rfl ?_
  refine vv_aload_n C dX7_untie_10 rfl 0 rfl 11 rfl ?_
  refine vs_alenR C (q0 := 3) rfl dX7_untie_11 12 rfl ?_
  refine vv_istore C [(4, .int (nI nT)), (3, .ref oT), (2, .ref q_1), (0, .ref m0), (1, .ref (TA r1))] dX7_untie_12 (by decide) rfl 14 rfl ?_
  refine vv_iconst C (v := 0) dX7_untie_14 (by decide) 15 rfl ?_
  refine vv_istore C [(5, .int 0), (4, .int (nI nT)), (3, .ref oT), (2, .ref q_1), (0, .ref m0), (1, .ref (TA r1))] dX7_untie_15 (by decide) rfl 17 rfl ?_
  refine vv_lv [4, 5, 3, 2, 1, 0] [(0, .ref m0), (1, .ref (TA r1)), (2, .ref q_1), (3, .ref oT), (4, .int (nI nT)), (5, .int 0)] rfl ?_
  obtain ⟨hN17, h⟩ := chkP_s h
  have L17 : ∀ (n j17 : Nat) (a2_17 : Nat) (n2_17 : Nat) (s2_17 : Nat → Nat) (q17 : Nat × (Nat → Nat)), j17 + n = nT → jS_untie_L17 r1 sg nR n j17 n2_17 s2_17 = some q17 → (∀ (a2_17e : Nat), VV g D 7 (1 + nT * 1) (0 + nT * 12) (List.flatten [sO m0 hour ropes broken windX windY oW oB oT oP, [aR c oW nW (fun i => some (WA i))], [aR c oB nB (fun i => some (BA i))], [aR c oT nT (fun i => some (TA (sg i)))], [aR c oP nP (fun i => some (PA i))], [aR c a2_17e q17.1 (fun i => some (TA (q17.2 i)))], rowsW c WA nW 7 wF, rowsW c BA nB 9 bF, rowsW c TA nR 4 tF, rowsW c PA nP 2 pF]) [(0, .ref m0), (2, .ref a2_17e)] 49 []) → VV g D 7 (1 + j17 * 1) (0 + j17 * 12) (List.flatten [sO m0 hour ropes broken windX windY oW oB oT oP, [aR c oW nW (fun i => some (WA i))], [aR c oB nB (fun i => some (BA i))], [aR c oT nT (fun i => some (TA (sg i)))], [aR c oP nP (fun i => some (PA i))], [aR c a2_17 n2_17 (fun i => some (TA (s2_17 i)))], rowsW c WA nW 7 wF, rowsW c BA nB 9 bF, rowsW c TA nR 4 tF, rowsW c PA nP 2 pF]) [(0, .ref m0), (1, .ref (TA r1)), (2, .ref a2_17), (3, .ref oT), (4, .int (nI nT)), (5, .int (nI j17))] 17 [] := by
    intro n
    induction n with
    | zero =>
      intro j17 a2_17 n2_17 s2_17 q17 hj17 h kk17
      rw [jS_untie_L17] at h
      refine vv_iload C dX7_untie_17 5 rfl 19 rfl ?_
      refine vv_iload C dX7_untie_19 4 rfl 21 rfl ?_
      refine vv_icmp_ge C 49 24 dX7_untie_21 (by decide) rfl (fun hc => ?_) (fun hc => ?_)
      · refine vv_lv [0, 2] [(0, .ref m0), (2, .ref a2_17)] rfl ?_
        refine vv_widen (k := 1 + nT * 1) (n := 0 + nT * 12) (by omega) (by omega) ?_
        obtain rfl := Option.some.inj h
        exact kk17 a2_17
      · exact absurd (nI_le (show nT ≤ j17 by omega) (by omega)) hc
    | succ n ih17 =>
      intro j17 a2_17 n2_17 s2_17 q17 hj17 h kk17
      rw [jS_untie_L17] at h
      refine vv_iload C dX7_untie_17 5 rfl 19 rfl ?_
      refine vv_iload C dX7_untie_19 4 rfl 21 rfl ?_
      refine vv_icmp_ge C 49 24 dX7_untie_21 (by decide) rfl (fun hc => ?_) (fun hc => ?_)
      · exact absurd hc (nI_ge (show j17 < nT by omega) (by omega))
      · refine vv_aload_n C dX7_untie_24 rfl 3 rfl 25 rfl ?_
        refine vv_iload C dX7_untie_25 5 rfl 27 rfl ?_
        obtain ⟨hr_2, h⟩ := chkP_s h
        refine vs_aald C (q0 := 3) (k := j17) rfl (nI_in (show j17 < nT by omega) (by omega)) (nI_clamp (show j17 < 2 ^ 31 by omega)) dX7_untie_27 28 rfl ?_
        refine vv_eq (st' := [.ref (TA (sg j17))]) rfl rfl rfl ?_
        refine vv_astore C [(6, .ref (TA (sg j17))), (0, .ref m0), (1, .ref (TA r1)), (2, .ref a2_17), (3, .ref oT), (4, .int (nI nT)), (5, .int (nI j17))] dX7_untie_28 (by decide) rfl 30 rfl ?_
        refine vv_aload C dX7_untie_30 0 rfl 32 rfl ?_
        refine vv_aload_n C dX7_untie_32 rfl 2 rfl 33 rfl ?_
        obtain ⟨hw_3, h⟩ := chkP_s h
        refine vs_acmp_eq C (r := sg j17) (r' := r1) 8 rfl hr_2 hw_3 43 36 dX7_untie_33 (by decide) rfl (fun hc => ?_) (fun hc => ?_)
        · replace h := ite_t hc h
          refine vv_iinc C (k := 6) [(5, .int (nI (j17 + 1))), (6, .ref (TA (sg j17))), (0, .ref m0), (1, .ref (TA r1)), (2, .ref a2_17), (3, .ref oT), (4, .int (nI nT))] dX7_untie_43 rfl nI_inc (by decide) rfl 46 rfl ?_
          refine vv_goto C 17 dX7_untie_46 (by decide) ?_
          refine vv_lv [2, 3, 4, 5, 6, 0] [(0, .ref m0), (1, .ref (TA r1)), (2, .ref a2_17), (3, .ref oT), (4, .int (nI nT)), (5, .int (nI (j17 + 1)))] rfl ?_
          refine vv_widen (k := 1 + (j17 + 1) * 1) (n := 0 + (j17 + 1) * 12) (by omega) (by omega) ?_
          exact ih17 (j17 + 1) a2_17 n2_17 s2_17 _ (by omega) h kk17
        · replace h := ite_f hc h
          refine vv_aload_n C dX7_untie_36 rfl 3 rfl 37 rfl ?_
          refine vv_aload C dX7_untie_37 0 rfl 39 rfl ?_
          obtain ⟨hs_4, h⟩ := chkP_s h
          obtain ⟨hn_5, h⟩ := chkP_s h
          refine vs_callSq C (S := Nat) (fun l => mt_X7_more l D c 12 (by decide) a2_17 n2_17 TA nR 4 tF s2_17 (sg j17) hs_4 hr_2 hn_5) gX7_untie_X7_more rfl rfl rfl yd_X7_more ⟨Nat.le_of_ble_eq_true rfl, Nat.le_of_ble_eq_true rfl⟩ (List.flatten [sO m0 hour ropes broken windX windY oW oB oT oP, [aR c oW nW (fun i => some (WA i))], [aR c oB nB (fun i => some (BA i))], [aR c oT nT (fun i => some (TA (sg i)))], [aR c oP nP (fun i => some (PA i))], rowsW c WA nW 7 wF, rowsW c BA nB 9 bF, rowsW c PA nP 2 pF]) (sg_pick2 [0, 1, 2, 3, 4, 6, 7, 9] [5, 8] rfl rfl (pm_of (N := 10) rfl (by decide +kernel))) rfl [] rfl (Nat.le_of_ble_eq_true rfl) ⟨show (1 + j17 * 1) + 1 ≤ 11 by omega, show (0 + j17 * 12) + 12 ≤ 120 by omega⟩ dX7_untie_39 42 ((1 + j17 * 1) + 1) ((0 + j17 * 12) + 12) rfl ⟨by omega, by omega⟩ (fun q_6 _ => ?_)
          refine vs_app ?_
          refine vv_seg [0, 1, 2, 3, 4, 8, 9, 5, 6, 10, 7] [] [sO m0 hour ropes broken windX windY oW oB oT oP, [aR c oW nW (fun i => some (WA i))], [aR c oB nB (fun i => some (BA i))], [aR c oT nT (fun i => some (TA (sg i)))], [aR c oP nP (fun i => some (PA i))], [aR c a2_17 n2_17 (fun i => some (TA (s2_17 i)))], [aR c q_6 (n2_17 + 1) (fun i => some (TA (uN s2_17 n2_17 (sg j17) i)))], rowsW c WA nW 7 wF, rowsW c BA nB 9 bF, rowsW c TA nR 4 tF, rowsW c PA nP 2 pF] rfl (pm_of (N := 11) rfl (by decide +kernel)) ?_
          refine vv_astore_n C [(2, .ref q_6), (6, .ref (TA (sg j17))), (0, .ref m0), (1, .ref (TA r1)), (3, .ref oT), (4, .int (nI nT)), (5, .int (nI j17))] dX7_untie_42 rfl (by decide) rfl 43 rfl ?_
          refine vv_iinc C (k := 6) [(5, .int (nI (j17 + 1))), (2, .ref q_6), (6, .ref (TA (sg j17))), (0, .ref m0), (1, .ref (TA r1)), (3, .ref oT), (4, .int (nI nT))] dX7_untie_43 rfl nI_inc (by decide) rfl 46 rfl ?_
          refine vv_goto C 17 dX7_untie_46 (by decide) ?_
          refine vv_lv [3, 4, 1, 5, 6, 0] [(0, .ref m0), (1, .ref (TA r1)), (2, .ref q_6), (3, .ref oT), (4, .int (nI nT)), (5, .int (nI (j17 + 1)))] rfl ?_
          refine vv_seg [0, 1, 2, 3, 4, 6, 7, 8, 9, 10] [5] [sO m0 hour ropes broken windX windY oW oB oT oP, [aR c oW nW (fun i => some (WA i))], [aR c oB nB (fun i => some (BA i))], [aR c oT nT (fun i => some (TA (sg i)))], [aR c oP nP (fun i => some (PA i))], [aR c q_6 (n2_17 + 1) (fun i => some (TA (uN s2_17 n2_17 (sg j17) i)))], rowsW c WA nW 7 wF, rowsW c BA nB 9 bF, rowsW c TA nR 4 tF, rowsW c PA nP 2 pF] rfl (pm_of (N := 11) rfl (by decide +kernel)) ?_
          refine vv_widen (k := 1 + (j17 + 1) * 1) (n := 0 + (j17 + 1) * 12) (by omega) (by omega) ?_
          exact ih17 (j17 + 1) q_6 (n2_17 + 1) (uN s2_17 n2_17 (sg j17)) _ (by omega) h kk17
  obtain ⟨r_7, hr_7, h⟩ := bnd_s h
  refine vv_cs (k := 1 + 0 * 1) (n := 0 + 0 * 12) (by omega) (by omega) ?_
  refine L17 nT 0 q_1 0 (fun _ => 0) r_7 (Nat.zero_add _) hr_7 ?_
  intro a2_17e
  refine vv_widen (k := 11) (n := 120) (by omega) (by omega) ?_
  refine vv_aload_n C dX7_untie_49 rfl 0 rfl 50 rfl ?_
  refine vv_aload_n C dX7_untie_50 rfl 1 rfl 51 rfl ?_
  refine vv_put C (q0 := 0) (ci := 7) (k := 7) (ty := (.array (.array .int))) (List.flatten [sO m0 hour ropes broken windX windY oW oB a2_17e oP, [aR c oW nW (fun i => some (WA i))], [aR c oB nB (fun i => some (BA i))], [aR c oT nT (fun i => some (TA (sg i)))], [aR c oP nP (fun i => some (PA i))], [aR c a2_17e r_7.1 (fun i => some (TA (r_7.2 i)))], rowsW c WA nW 7 wF, rowsW c BA nB 9 bF, rowsW c TA nR 4 tF, rowsW c PA nP 2 pF]) tyX7 tyX7_ok nmX7 kinX7_untie_X7 rfl rfl (by decide) kwX7_untie_2 rfl rfl rfl rfl rfl (Nat.le_of_ble_eq_true rfl) rfl dX7_untie_51 54 rfl ?_
  obtain rfl := Option.some.inj h
  refine vv_seg [0, 1, 2, 5, 4, 6, 7, 8, 9] [3] [sO m0 hour ropes broken windX windY oW oB a2_17e oP, [aR c oW nW (fun i => some (WA i))], [aR c oB nB (fun i => some (BA i))], [aR c a2_17e r_7.1 (fun i => some (TA (r_7.2 i)))], [aR c oP nP (fun i => some (PA i))], rowsW c WA nW 7 wF, rowsW c BA nB 9 bF, rowsW c TA nR 4 tF, rowsW c PA nP 2 pF] rfl (pm_of (N := 10) rfl (by decide +kernel)) ?_
  refine vv_widen (k := 11) (n := 120) (by omega) (by omega) ?_
  exact ret a2_17e trivial _ _ dX7_untie_54
