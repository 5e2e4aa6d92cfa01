abbrev rmX7_tie_ : Room := { frames := 2, cells := 44, slots := 416, locals := 49 }
theorem yd_X7_tie_ : yX7_tie_.cls = RX7 ∧ yX7_tie_.cls ≠ "java/lang/invoke/MethodHandle" ∧ yX7_tie_.cls ≠ "java/lang/invoke/VarHandle" ∧ (parseMethodDescriptor yX7_tie_.desc).map (fun d => d.parameters.length) = some 3 := by decide +kernel
theorem kwX7_tie__1 : Cond.methodLink RX7 49 Lib.Math.min.name ∈ wsX7_tie_ := List.mem_of_getElem? (i := 1) rfl
theorem kwX7_tie__2 : Cond.static Lib.Math.min.name ∈ wsX7_tie_ := List.mem_of_getElem? (i := 2) rfl
theorem kwX7_tie__3 : Cond.initialized "java/lang/Math" ∈ wsX7_tie_ := List.mem_of_getElem? (i := 3) rfl
theorem kwX7_tie__4 : Cond.code Lib.Math.min.name Lib.Math.min.code 2 (some .int) ∈ wsX7_tie_ := List.mem_of_getElem? (i := 4) rfl
theorem kwX7_tie__5 : Cond.methodLink RX7 55 Lib.Math.max.name ∈ wsX7_tie_ := List.mem_of_getElem? (i := 5) rfl
theorem kwX7_tie__6 : Cond.static Lib.Math.max.name ∈ wsX7_tie_ := List.mem_of_getElem? (i := 6) rfl
theorem kwX7_tie__7 : Cond.code Lib.Math.max.name Lib.Math.max.code 2 (some .int) ∈ wsX7_tie_ := List.mem_of_getElem? (i := 7) rfl
theorem kwX7_tie__8 : Cond.classLink RX7 13 "[I" ∈ wsX7_tie_ := List.mem_of_getElem? (i := 8) rfl
theorem kwX7_tie__9 : Cond.fieldLink RX7 22 "BarrelRaftLaw$Sim" "ties" "[[I" ∈ wsX7_tie_ := List.mem_of_getElem? (i := 9) rfl
set_option maxRecDepth 20000 in
theorem kinX7_tie__X7 : ∀ w ∈ u_ws RX7 TX7 9, w ∈ wsX7_tie_ := by decide +kernel
theorem kwX7_tie__10 : Cond.arrayClass .int ∈ wsX7_tie_ := List.mem_of_getElem? (i := 10) rfl
def jS_tie__L56 (u3_56 : Int32) (u4_56 : Int32) (u5_56 : Int32) (nT : Nat) (sg : Nat → Nat) (n : Nat) (j56 : Nat) (nR_56 : Nat) (tF_56 : Nat → Nat → Int32) (n6_56 : Nat) (s6_56 : Nat → Nat) (v7_56 : Int32) : Option (Nat × (Nat → Nat → Int32) × Nat × (Nat → Nat) × Int32) := match n with
  | 0 => some (nR_56, tF_56, n6_56, s6_56, v7_56)
  | n + 1 => chkP (sg j56 < nR_56) ((if v7_56 = 0 then jn (fun (x102 : Unit) => chkP (∀ i, i < nT → sg i < nR_56) (chkP (∀ i, i < n6_56 → s6_56 i < nR_56) (chkP (∀ i, i < n6_56 → s6_56 i < nR_56 + 1) (chkP (n6_56 < 12) (chkP (∀ i, i < (n6_56 + 1) → (uN s6_56 n6_56 nR_56) i < nR_56 + 1) (chkP ((n6_56 + 1) < 12) (jS_tie__L56 u3_56 u4_56 u5_56 nT sg n (j56 + 1) (nR_56 + 1) (uF tF_56 nR_56 (wr (wr (wr (wr (fun _ => 0) 0 u4_56) 1 u5_56) 2 u3_56) 3 0)) (n6_56 + 1 + 1) (uN (uN s6_56 n6_56 nR_56) (n6_56 + 1) (sg j56)) 1))))))) (fun k102 => (if u4_56 < rd (tF_56 (sg j56)) 0 then k102 () else (if rd (tF_56 (sg j56)) 0 = u4_56 then (if rd (tF_56 (sg j56)) 1 ≤ u5_56 then chkP (∀ i, i < n6_56 → s6_56 i < nR_56) (chkP (n6_56 < 12) (jS_tie__L56 u3_56 u4_56 u5_56 nT sg n (j56 + 1) nR_56 tF_56 (n6_56 + 1) (uN s6_56 n6_56 (sg j56)) v7_56)) else k102 ()) else chkP (∀ i, i < n6_56 → s6_56 i < nR_56) (chkP (n6_56 < 12) (jS_tie__L56 u3_56 u4_56 u5_56 nT sg n (j56 + 1) nR_56 tF_56 (n6_56 + 1) (uN s6_56 n6_56 (sg j56)) v7_56))))) else chkP (∀ i, i < n6_56 → s6_56 i < nR_56) (chkP (n6_56 < 12) (jS_tie__L56 u3_56 u4_56 u5_56 nT sg n (j56 + 1) nR_56 tF_56 (n6_56 + 1) (uN s6_56 n6_56 (sg j56)) v7_56))))
def jS_tie_ (nT : Nat) (nR : Nat) (sg : Nat → Nat) (tF : Nat → Nat → Int32) (a1 : Int32) (a2 : Int32) (a3 : Int32) : Option (Nat × Nat × (Nat → Nat) × (Nat → Nat → Int32)) := bnd (jS_tie nT nR sg tF a1 a2) (fun r_1 => jn (fun (x19 : Nat × (Nat → Nat)) => chkP (x19.1 ≤ 10) (bnd (jS_tie__L56 a3 (mmin a1 a2) (mmax a1 a2) x19.1 x19.2 x19.1 0 nR tF 0 (fun _ => 0) 0) (fun r_28 => (if r_28.2.2.2.2 = 0 then chkP (∀ i, i < x19.1 → x19.2 i < r_28.1) (chkP (∀ i, i < r_28.2.2.1 → r_28.2.2.2.1 i < r_28.1) (chkP (∀ i, i < r_28.2.2.1 → r_28.2.2.2.1 i < r_28.1 + 1) (chkP (r_28.2.2.1 < 12) (some (r_28.2.2.1 + 1, r_28.1 + 1, uN r_28.2.2.2.1 r_28.2.2.1 r_28.1, uF r_28.2.1 r_28.1 (wr (wr (wr (wr (fun _ => 0) 0 (mmin a1 a2)) 1 (mmax a1 a2)) 2 a3) 3 0)))))) else some (r_28.2.2.1, r_28.1, r_28.2.2.2.1, r_28.2.1))))) (fun k19 => (if r_1 = none then k19 (nT, sg) else bnd (jS_tie nT nR sg tF a1 a2) (fun r_3 => bnd r_3 (fun o_5 => bnd (jS_untie nT nR sg o_5) (fun r_6 => k19 (r_6.1, r_6.2)))))))
set_option maxHeartbeats 40000000 in
set_option maxRecDepth 100000 in
theorem mt_X7_tie_ (l : Launch) (D : va_G) (c : Nat → ClassId) (m0 oW oB oT oP : Nat) (WA BA TA PA : Nat → Nat) (hour : Int32) (ropes : Int32) (broken : Int32) (windX : Int32) (windY : Int32) (nW : Nat) (nB : Nat) (nT : Nat) (nP : Nat) (nR : Nat) (sg : Nat → Nat) (wF : Nat → Nat → Int32) (bF : Nat → Nat → Int32) (tF : Nat → Nat → Int32) (pF : Nat → Nat → Int32) (a1 : Int32) (a2 : Int32) (a3 : Int32) (q0 : Nat × Nat × (Nat → Nat) × (Nat → Nat → Int32)) (h : jS_tie_ nT nR sg tF a1 a2 a3 = some q0) : MJv l yX7_tie_ wsX7_tie_ rmX7_tie_ D c (List.flatten [sO m0 hour ropes broken windX windY oW oB oT oP, [aR c oW nW (fun i => some (WA i))], [aR c oB nB (fun i => some (BA i))], [aR c oT nT (fun i => some (TA (sg i)))], [aR c oP nP (fun i => some (PA i))], rowsW c WA nW 7 wF, rowsW c BA nB 9 bF, rowsW c TA nR 4 tF, rowsW c PA nP 2 pF]) [.ref m0, .int a1, .int a2, .int a3] (fun (_ : (Nat × (Nat → Nat))) => True) (fun u => (List.flatten [sO m0 hour ropes broken windX windY oW oB u.1 oP, [aR c oW nW (fun i => some (WA i))], [aR c oB nB (fun i => some (BA i))], [aR c u.1 q0.1 (fun i => some (u.2 (q0.2.2.1 i)))], [aR c oP nP (fun i => some (PA i))], rowsW c WA nW 7 wF, rowsW c BA nB 9 bF, rowsW c u.2 q0.2.1 4 q0.2.2.2, rowsW c PA nP 2 pF])) 44 416 := by
  refine MJv_of (cc := cX7_tie_) (nL := 12) RX7 rfl (by decide) rfl (Nat.le_of_ble_eq_true rfl) (fun g C ret => ?_)
  unfold jS_tie_ at h
  refine vv_lv [0, 1, 2, 3] [(0, .ref m0), (1, .int a1), (2, .int a2), (3, .int a3)] rfl ?_
  refine vv_aload_n C dX7_tie__0 rfl 0 rfl 1 rfl ?_
  refine vv_iload_n C dX7_tie__1 rfl 1 rfl 2 rfl ?_
  refine vv_iload_n C dX7_tie__2 rfl 2 rfl 3 rfl ?_
  obtain ⟨r_1, hr_1, h⟩ := bnd_s h
  refine vs_callVq C (S := Unit) (fun l => mt_X7_tie l D c m0 oW oB oT oP WA BA TA PA hour ropes broken windX windY nW nB nT nP nR sg wF bF tF pF a1 a2 r_1 hr_1) gX7_tie__X7_tie rfl rfl rfl yd_X7_tie ⟨Nat.le_of_ble_eq_true rfl, Nat.le_of_ble_eq_true rfl⟩ (List.flatten []) (sg_pick2 [] [0, 1, 2, 3, 4, 5, 6, 7, 8] rfl rfl (pm_of (N := 9) rfl (by decide +kernel))) 0 rfl rfl rfl [] rfl (Nat.le_of_ble_eq_true rfl) ⟨show 0 + 0 ≤ 44 by omega, show 0 + 0 ≤ 416 by omega⟩ dX7_tie__3 6 0 0 rfl ⟨by omega, by omega⟩ (fun u_2 _ => ?_)
  refine vs_app ?_
  refine vv_seg [0, 1, 2, 3, 4, 5, 6, 7, 8] [] [sO m0 hour ropes broken windX windY oW oB oT oP, [aR c oW nW (fun i => some (WA i))], [aR c oB nB (fun i => some (BA i))], [aR c oT nT (fun i => some (TA (sg i)))], [aR c oP nP (fun i => some (PA i))], rowsW c WA nW 7 wF, rowsW c BA nB 9 bF, rowsW c TA nR 4 tF, rowsW c PA nP 2 pF] rfl (pm_of (N := 9) rfl (by decide +kernel)) ?_
  obtain ⟨k19, hk19, h⟩ := jn_s h
  have J19 : ∀ (oT_J19 : Nat) (x19 : Nat × (Nat → Nat)), k19 x19 = some q0 → VV g D 12 11 120 (List.flatten [sO m0 hour ropes broken windX windY oW oB oT_J19 oP, [aR c oW nW (fun i => some (WA i))], [aR c oB nB (fun i => some (BA i))], [aR c oT_J19 x19.1 (fun i => some (TA (x19.2 i)))], [aR c oP nP (fun i => some (PA i))], rowsW c WA nW 7 wF, rowsW c BA nB 9 bF, rowsW c TA nR 4 tF, rowsW c PA nP 2 pF]) [(0, .ref m0), (1, .int a1), (2, .int a2), (3, .int a3)] 19 [] := by
    intro oT_J19 x19 h
    replace h := jn_u hk19 h
    refine vv_iload_n C dX7_tie__19 rfl 1 rfl 20 rfl ?_
    refine vv_iload_n C dX7_tie__20 rfl 2 rfl 21 rfl ?_
    refine vv_mmin C kwX7_tie__1 kwX7_tie__2 kwX7_tie__3 kwX7_tie__4 ⟨Nat.le_of_ble_eq_true rfl, Nat.le_of_ble_eq_true rfl⟩ ⟨Nat.le_of_ble_eq_true rfl, Nat.le_of_ble_eq_true rfl⟩ dX7_tie__21 24 rfl ?_
    refine vv_istore C [(4, .int (mmin a1 a2)), (0, .ref m0), (1, .int a1), (2, .int a2), (3, .int a3)] dX7_tie__24 (by decide) rfl 26 rfl ?_
    refine vv_iload_n C dX7_tie__26 rfl 2 rfl 27 rfl ?_
    refine vv_iload_n C dX7_tie__27 rfl 3 rfl 28 rfl ?_
    refine vv_mmax C kwX7_tie__5 kwX7_tie__6 kwX7_tie__3 kwX7_tie__7 ⟨Nat.le_of_ble_eq_true rfl, Nat.le_of_ble_eq_true rfl⟩ ⟨Nat.le_of_ble_eq_true rfl, Nat.le_of_ble_eq_true rfl⟩ dX7_tie__28 31 rfl ?_
    refine vv_istore C [(5, .int (mmax a1 a2)), (4, .int (mmin a1 a2)), (0, .ref m0), (1, .int a1), (2, .int a2), (3, .int a3)] dX7_tie__31 (by decide) rfl 33 rfl ?_
    refine vv_iconst C (v := 0) dX7_tie__33 (by decide) 34 rfl ?_
    refine vv_anewA C (N := 0) kwX7_tie__8 (by decide) (by decide) (by decide) ⟨show 11 + 1 ≤ 44 by omega, show 120 + 0 ≤ 416 by omega⟩ dX7_tie__34 37 12 120 rfl ⟨by omega, by omega⟩ (fun q_8 => ?_)
    refine vs_snoc ?_
    refine vs_out (segs' := [sO m0 hour ropes broken windX windY oW oB oT_J19 oP, [aR c oW nW (fun i => some (WA i))], [aR c oB nB (fun i => some (BA i))], [aR c oT_J19 x19.1 (fun i => some (TA (x19.2 i)))], [aR c oP nP (fun i => some (PA i))], rowsW c WA nW 7 wF, rowsW c BA nB 9 bF, rowsW c TA nR 4 tF, rowsW c PA nP 2 pF, [aR c q_8 0 (fun i => some (TA ((fun _ => 0) i)))]]) 9 rfl (fun i hi => absurd hi (Nat.not_lt_zero i)) rfl ?_
    refine vv_seg [0, 1, 2, 3, 4, 9, 5, 6, 7, 8] [] [sO m0 hour ropes broken windX windY oW oB oT_J19 oP, [aR c oW nW (fun i => some (WA i))], [aR c oB nB (fun i => some (BA i))], [aR c oT_J19 x19.1 (fun i => some (TA (x19.2 i)))], [aR c oP nP (fun i => some (PA i))], [aR c q_8 0 (fun i => some (TA ((fun _ => 0) i)))], rowsW c WA nW 7 wF, rowsW c BA nB 9 bF, rowsW c TA nR 4 tF, rowsW c PA nP 2 pF] rfl (pm_of (N := 10) rfl (by decide +kernel)) ?_
    refine vv_astore C [(6, .ref q_8), (5, .int (mmax a1 a2)), (4, .int (mmin a1 a2)), (0, .ref m0), (1, .int a1), (2, .int a2), (3, .int a3)] dX7_tie__37 (by decide) rfl 39 rfl ?_
    refine vv_iconst C (v := 0) dX7_tie__39 (by decide) 40 rfl ?_
    refine vv_istore C [(7, .int 0), (6, .ref q_8), (5, .int (mmax a1 a2)), (4, .int (mmin a1 a2)), (0, .ref m0), (1, .int a1), (2, .int a2), (3, .int a3)] dX7_tie__40 (by decide) rfl 42 rfl ?_
    refine vv_aload_n C dX7_tie__42 rfl 4 rfl 43 rfl ?_
    refine vv_get C (q0 := 0) (ci := 7) (k := 7) kinX7_tie__X7 rfl rfl (by decide) kwX7_tie__9 rfl rfl dX7_tie__43 46 rfl ?_
    refine vv_astore C [(8, .ref oT_J19), (7, .int 0), (6, .ref q_8), (5, .int (mmax a1 a2)), (4, .int (mmin a1 a2)), (0, .ref m0), (1, .int a1), (2, .int a2), (3, .int a3)] dX7_tie__46 (by decide) rfl 48 rfl ?_
    refine vv_aload C dX7_tie__48 0 rfl 50 rfl ?_
    refine vs_alenR C (q0 := 3) rfl dX7_tie__50 51 rfl ?_
    refine vv_istore C [(9, .int (nI x19.1)), (8, .ref oT_J19), (7, .int 0), (6, .ref q_8), (5, .int (mmax a1 a2)), (4, .int (mmin a1 a2)), (0, .ref m0), (1, .int a1), (2, .int a2), (3, .int a3)] dX7_tie__51 (by decide) rfl 53 rfl ?_
    refine vv_iconst C (v := 0) dX7_tie__53 (by decide) 54 rfl ?_
    refine vv_istore C [(10, .int 0), (9, .int (nI x19.1)), (8, .ref oT_J19), (7, .int 0), (6, .ref q_8), (5, .int (mmax a1 a2)), (4, .int (mmin a1 a2)), (0, .ref m0), (1, .int a1), (2, .int a2), (3, .int a3)] dX7_tie__54 (by decide) rfl 56 rfl ?_
    refine vv_lv [7, 10, 6, 5, 4, 3, 2, 1, 0] [(0, .ref m0), (3, .int a3), (4, .int (mmin a1 a2)), (5, .int (mmax a1 a2)), (6, .ref q_8), (7, .int 0), (8, .ref oT_J19), (9, .int (nI x19.1)), (10, .int 0)] rfl ?_
    obtain ⟨hN56, h⟩ := chkP_s h
    have L56 : ∀ (n j56 : Nat) (TA_56 : Nat → Nat) (a6_56 : Nat) (nR_56 : Nat) (tF_56 : Nat → Nat → Int32) (n6_56 : Nat) (s6_56 : Nat → Nat) (v7_56 : Int32) (q56 : Nat × (Nat → Nat → Int32) × Nat × (Nat → Nat) × Int32), j56 + n = x19.1 → jS_tie__L56 a3 (mmin a1 a2) (mmax a1 a2) x19.1 x19.2 n j56 nR_56 tF_56 n6_56 s6_56 v7_56 = some q56 → (∀ (TA_56e : Nat → Nat) (a6_56e : Nat), VV g D 12 (12 + x19.1 * 3) (120 + x19.1 * 28) (List.flatten [sO m0 hour ropes broken windX windY oW oB oT_J19 oP, [aR c oW nW (fun i => some (WA i))], [aR c oB nB (fun i => some (BA i))], [aR c oT_J19 x19.1 (fun i => some (TA_56e (x19.2 i)))], [aR c oP nP (fun i => some (PA i))], [aR c a6_56e q56.2.2.1 (fun i => some (TA_56e (q56.2.2.2.1 i)))], rowsW c WA nW 7 wF, rowsW c BA nB 9 bF, rowsW c TA_56e q56.1 4 q56.2.1, rowsW c PA nP 2 pF]) [(0, .ref m0), (3, .int a3), (4, .int (mmin a1 a2)), (5, .int (mmax a1 a2)), (6, .ref a6_56e), (7, .int q56.2.2.2.2)] 148 []) → VV g D 12 (12 + j56 * 3) (120 + j56 * 28) (List.flatten [sO m0 hour ropes broken windX windY oW oB oT_J19 oP, [aR c oW nW (fun i => some (WA i))], [aR c oB nB (fun i => some (BA i))], [aR c oT_J19 x19.1 (fun i => some (TA_56 (x19.2 i)))], [aR c oP nP (fun i => some (PA i))], [aR c a6_56 n6_56 (fun i => some (TA_56 (s6_56 i)))], rowsW c WA nW 7 wF, rowsW c BA nB 9 bF, rowsW c TA_56 nR_56 4 tF_56, rowsW c PA nP 2 pF]) [(0, .ref m0), (3, .int a3), (4, .int (mmin a1 a2)), (5, .int (mmax a1 a2)), (6, .ref a6_56), (7, .int v7_56), (8, .ref oT_J19), (9, .int (nI x19.1)), (10, .int (nI j56))] 56 [] := by
      intro n
      induction n with
      | zero =>
        intro j56 TA_56 a6_56 nR_56 tF_56 n6_56 s6_56 v7_56 q56 hj56 h kk56
        rw [jS_tie__L56] at h
        refine vv_iload C dX7_tie__56 8 rfl 58 rfl ?_
        refine vv_iload C dX7_tie__58 7 rfl 60 rfl ?_
        refine vv_icmp_ge C 148 63 dX7_tie__60 (by decide) rfl (fun hc => ?_) (fun hc => ?_)
        · refine vv_lv [0, 1, 2, 3, 4, 5] [(0, .ref m0), (3, .int a3), (4, .int (mmin a1 a2)), (5, .int (mmax a1 a2)), (6, .ref a6_56), (7, .int v7_56)] rfl ?_
          refine vv_widen (k := 12 + x19.1 * 3) (n := 120 + x19.1 * 28) (by omega) (by omega) ?_
          obtain rfl := Option.some.inj h
          exact kk56 TA_56 a6_56
        · exact absurd (nI_le (show x19.1 ≤ j56 by omega) (by omega)) hc
      | succ n ih56 =>
        intro j56 TA_56 a6_56 nR_56 tF_56 n6_56 s6_56 v7_56 q56 hj56 h kk56
        rw [jS_tie__L56] at h
        refine vv_iload C dX7_tie__56 8 rfl 58 rfl ?_
        refine vv_iload C dX7_tie__58 7 rfl 60 rfl ?_
        refine vv_icmp_ge C 148 63 dX7_tie__60 (by decide) rfl (fun hc => ?_) (fun hc => ?_)
        · exact absurd hc (nI_ge (show j56 < x19.1 by omega) (by omega))
        · refine vv_aload C dX7_tie__63 6 rfl 65 rfl ?_
          refine vv_iload C dX7_tie__65 8 rfl 67 rfl ?_
          obtain ⟨hr_9, h⟩ := chkP_s h
          refine vs_aald C (q0 := 3) (k := j56) rfl (nI_in (show j56 < x19.1 by omega) (by omega)) (nI_clamp (show j56 < 2 ^ 31 by omega)) dX7_tie__67 68 rfl ?_
          refine vv_eq (st' := [.ref (TA_56 (x19.2 j56))]) rfl rfl rfl ?_
          refine vv_astore C [(11, .ref (TA_56 (x19.2 j56))), (0, .ref m0), (3, .int a3), (4, .int (mmin a1 a2)), (5, .int (mmax a1 a2)), (6, .ref a6_56), (7, .int v7_56), (8, .ref oT_J19), (9, .int (nI x19.1)), (10, .int (nI j56))] dX7_tie__68 (by decide) rfl 70 rfl ?_
          refine vv_iload C dX7_tie__70 6 rfl 72 rfl ?_
          refine vv_if_ne C 133 75 dX7_tie__72 (by decide) rfl (fun hc => ?_) (fun hc => ?_)
          · replace h := ite_f hc h
            refine vv_aload C dX7_tie__133 5 rfl 135 rfl ?_
            refine vv_aload C dX7_tie__135 0 rfl 137 rfl ?_
            obtain ⟨hs_10, h⟩ := chkP_s h
            obtain ⟨hn_11, h⟩ := chkP_s h
            refine vs_callSq C (S := Nat) (fun l => mt_X7_more l D c 12 (by decide) a6_56 n6_56 TA_56 nR_56 4 tF_56 s6_56 (x19.2 j56) hs_10 hr_9 hn_11) gX7_tie__X7_more rfl rfl rfl yd_X7_more ⟨Nat.le_of_ble_eq_true rfl, Nat.le_of_ble_eq_true rfl⟩ (List.flatten [sO m0 hour ropes broken windX windY oW oB oT_J19 oP, [aR c oW nW (fun i => some (WA i))], [aR c oB nB (fun i => some (BA i))], [aR c oT_J19 x19.1 (fun i => some (TA_56 (x19.2 i)))], [aR c oP nP (fun i => some (PA i))], rowsW c WA nW 7 wF, rowsW c BA nB 9 bF, rowsW c PA nP 2 pF]) (sg_pick2 [0, 1, 2, 3, 4, 6, 7, 9] [5, 8] rfl rfl (pm_of (N := 10) rfl (by decide +kernel))) rfl [] rfl (Nat.le_of_ble_eq_true rfl) ⟨show (12 + j56 * 3) + 1 ≤ 44 by omega, show (120 + j56 * 28) + 12 ≤ 416 by omega⟩ dX7_tie__137 140 ((12 + j56 * 3) + 1) ((120 + j56 * 28) + 12) rfl ⟨by omega, by omega⟩ (fun q_12 _ => ?_)
            refine vs_app ?_
            refine vv_seg [0, 1, 2, 3, 4, 8, 9, 5, 6, 10, 7] [] [sO m0 hour ropes broken windX windY oW oB oT_J19 oP, [aR c oW nW (fun i => some (WA i))], [aR c oB nB (fun i => some (BA i))], [aR c oT_J19 x19.1 (fun i => some (TA_56 (x19.2 i)))], [aR c oP nP (fun i => some (PA i))], [aR c a6_56 n6_56 (fun i => some (TA_56 (s6_56 i)))], [aR c q_12 (n6_56 + 1) (fun i => some (TA_56 (uN s6_56 n6_56 (x19.2 j56) i)))], rowsW c WA nW 7 wF, rowsW c BA nB 9 bF, rowsW c TA_56 nR_56 4 tF_56, rowsW c PA nP 2 pF] rfl (pm_of (N := 11) rfl (by decide +kernel)) ?_
            refine vv_astore C [(6, .ref q_12), (11, .ref (TA_56 (x19.2 j56))), (0, .ref m0), (3, .int a3), (4, .int (mmin a1 a2)), (5, .int (mmax a1 a2)), (7, .int v7_56), (8, .ref oT_J19), (9, .int (nI x19.1)), (10, .int (nI j56))] dX7_tie__140 (by decide) rfl 142 rfl ?_
            refine vv_iinc C (k := 9) [(10, .int (nI (j56 + 1))), (6, .ref q_12), (11, .ref (TA_56 (x19.2 j56))), (0, .ref m0), (3, .int a3), (4, .int (mmin a1 a2)), (5, .int (mmax a1 a2)), (7, .int v7_56), (8, .ref oT_J19), (9, .int (nI x19.1))] dX7_tie__142 rfl nI_inc (by decide) rfl 145 rfl ?_
            refine vv_goto C 56 dX7_tie__145 (by decide) ?_
            refine vv_lv [3, 4, 5, 6, 1, 7, 8, 9, 0] [(0, .ref m0), (3, .int a3), (4, .int (mmin a1 a2)), (5, .int (mmax a1 a2)), (6, .ref q_12), (7, .int v7_56), (8, .ref oT_J19), (9, .int (nI x19.1)), (10, .int (nI (j56 + 1)))] rfl ?_
            refine vv_seg [0, 1, 2, 3, 4, 6, 7, 8, 9, 10] [5] [sO m0 hour ropes broken windX windY oW oB oT_J19 oP, [aR c oW nW (fun i => some (WA i))], [aR c oB nB (fun i => some (BA i))], [aR c oT_J19 x19.1 (fun i => some (TA_56 (x19.2 i)))], [aR c oP nP (fun i => some (PA i))], [aR c q_12 (n6_56 + 1) (fun i => some (TA_56 (uN s6_56 n6_56 (x19.2 j56) i)))], rowsW c WA nW 7 wF, rowsW c BA nB 9 bF, rowsW c TA_56 nR_56 4 tF_56, rowsW c PA nP 2 pF] rfl (pm_of (N := 11) rfl (by decide +kernel)) ?_
            refine vv_widen (k := 12 + (j56 + 1) * 3) (n := 120 + (j56 + 1) * 28) (by omega) (by omega) ?_
            exact ih56 (j56 + 1) TA_56 q_12 nR_56 tF_56 (n6_56 + 1) (uN s6_56 n6_56 (x19.2 j56)) v7_56 _ (by omega) h kk56
          · replace h := ite_t hc h
            refine vv_aload C dX7_tie__75 0 rfl 77 rfl ?_
            refine vv_iconst C (v := 0) dX7_tie__77 (by decide) 78 rfl ?_
            refine vs_iald C (r := x19.2 j56) 8 rfl hr_9 (inB_t (by decide)) dX7_tie__78 79 rfl ?_
            refine vv_iload C dX7_tie__79 3 rfl 81 rfl ?_
            obtain ⟨k102, hk102, h⟩ := jn_s h
            have J102 : ∀  (x102 : Unit), k102 x102 = some q56 → VV g D 12 (12 + j56 * 3) (120 + j56 * 28) (List.flatten [sO m0 hour ropes broken windX windY oW oB oT_J19 oP, [aR c oW nW (fun i => some (WA i))], [aR c oB nB (fun i => some (BA i))], [aR c oT_J19 x19.1 (fun i => some (TA_56 (x19.2 i)))], [aR c oP nP (fun i => some (PA i))], [aR c a6_56 n6_56 (fun i => some (TA_56 (s6_56 i)))], rowsW c WA nW 7 wF, rowsW c BA nB 9 bF, rowsW c TA_56 nR_56 4 tF_56, rowsW c PA nP 2 pF]) [(0, .ref m0), (3, .int a3), (4, .int (mmin a1 a2)), (5, .int (mmax a1 a2)), (6, .ref a6_56), (8, .ref oT_J19), (9, .int (nI x19.1)), (10, .int (nI j56)), (11, .ref (TA_56 (x19.2 j56)))] 102 [] := by
              intro x102 h
              replace h := jn_u hk102 h
              refine vv_aload C dX7_tie__102 4 rfl 104 rfl ?_
              refine vv_iconst C (v := 4) dX7_tie__104 (by decide) 105 rfl ?_
              refine vv_newa C (N := 4) kwX7_tie__10 (by decide) (by decide) (by decide) ⟨show (12 + j56 * 3) + 1 ≤ 44 by omega, show (120 + j56 * 28) + 4 ≤ 416 by omega⟩ dX7_tie__105 107 ((12 + j56 * 3) + 1) ((120 + j56 * 28) + 4) rfl ⟨by omega, by omega⟩ (fun q_19 => ?_)
              refine vs_snoc ?_
              refine vv_seg [0, 1, 2, 3, 4, 5, 10, 6, 7, 8, 9] [] [sO m0 hour ropes broken windX windY oW oB oT_J19 oP, [aR c oW nW (fun i => some (WA i))], [aR c oB nB (fun i => some (BA i))], [aR c oT_J19 x19.1 (fun i => some (TA_56 (x19.2 i)))], [aR c oP nP (fun i => some (PA i))], [aR c a6_56 n6_56 (fun i => some (TA_56 (s6_56 i)))], [aI c q_19 4 (fun _ => 0)], rowsW c WA nW 7 wF, rowsW c BA nB 9 bF, rowsW c TA_56 nR_56 4 tF_56, rowsW c PA nP 2 pF] rfl (pm_of (N := 11) rfl (by decide +kernel)) ?_
              refine vv_dup C dX7_tie__107 rfl 108 rfl ?_
              refine vv_iconst C (v := 0) dX7_tie__108 (by decide) 109 rfl ?_
              refine vv_iload C dX7_tie__109 2 rfl 111 rfl ?_
              refine vv_iast C (q0 := 6) (List.flatten [sO m0 hour ropes broken windX windY oW oB oT_J19 oP, [aR c oW nW (fun i => some (WA i))], [aR c oB nB (fun i => some (BA i))], [aR c oT_J19 x19.1 (fun i => some (TA_56 (x19.2 i)))], [aR c oP nP (fun i => some (PA i))], [aR c a6_56 n6_56 (fun i => some (TA_56 (s6_56 i)))], [aI c q_19 4 (wr (fun _ => 0) 0 (mmin a1 a2))], rowsW c WA nW 7 wF, rowsW c BA nB 9 bF, rowsW c TA_56 nR_56 4 tF_56, rowsW c PA nP 2 pF]) rfl (inB_t (by decide)) rfl dX7_tie__111 112 rfl ?_
              refine vv_dup C dX7_tie__112 rfl 113 rfl ?_
              refine vv_iconst C (v := 1) dX7_tie__113 (by decide) 114 rfl ?_
              refine vv_iload C dX7_tie__114 3 rfl 116 rfl ?_
              refine vv_iast C (q0 := 6) (List.flatten [sO m0 hour ropes broken windX windY oW oB oT_J19 oP, [aR c oW nW (fun i => some (WA i))], [aR c oB nB (fun i => some (BA i))], [aR c oT_J19 x19.1 (fun i => some (TA_56 (x19.2 i)))], [aR c oP nP (fun i => some (PA i))], [aR c a6_56 n6_56 (fun i => some (TA_56 (s6_56 i)))], [aI c q_19 4 (wr (wr (fun _ => 0) 0 (mmin a1 a2)) 1 (mmax a1 a2))], rowsW c WA nW 7 wF, rowsW c BA nB 9 bF, rowsW c TA_56 nR_56 4 tF_56, rowsW c PA nP 2 pF]) rfl (inB_t (by decide)) rfl dX7_tie__116 117 rfl ?_
              refine vv_dup C dX7_tie__117 rfl 118 rfl ?_
              refine vv_iconst C (v := 2) dX7_tie__118 (by decide) 119 rfl ?_
              refine vv_iload_n C dX7_tie__119 rfl 1 rfl 120 rfl ?_
              refine vv_iast C (q0 := 6) (List.flatten [sO m0 hour ropes broken windX windY oW oB oT_J19 oP, [aR c oW nW (fun i => some (WA i))], [aR c oB nB (fun i => some (BA i))], [aR c oT_J19 x19.1 (fun i => some (TA_56 (x19.2 i)))], [aR c oP nP (fun i => some (PA i))], [aR c a6_56 n6_56 (fun i => some (TA_56 (s6_56 i)))], [aI c q_19 4 (wr (wr (wr (fun _ => 0) 0 (mmin a1 a2)) 1 (mmax a1 a2)) 2 a3)], rowsW c WA nW 7 wF, rowsW c BA nB 9 bF, rowsW c TA_56 nR_56 4 tF_56, rowsW c PA nP 2 pF]) rfl (inB_t (by decide)) rfl dX7_tie__120 121 rfl ?_
              refine vv_dup C dX7_tie__121 rfl 122 rfl ?_
              refine vv_iconst C (v := 3) dX7_tie__122 (by decide) 123 rfl ?_
              refine vv_iconst C (v := 0) dX7_tie__123 (by decide) 124 rfl ?_
              refine vv_iast C (q0 := 6) (List.flatten [sO m0 hour ropes broken windX windY oW oB oT_J19 oP, [aR c oW nW (fun i => some (WA i))], [aR c oB nB (fun i => some (BA i))], [aR c oT_J19 x19.1 (fun i => some (TA_56 (x19.2 i)))], [aR c oP nP (fun i => some (PA i))], [aR c a6_56 n6_56 (fun i => some (TA_56 (s6_56 i)))], [aI c q_19 4 (wr (wr (wr (wr (fun _ => 0) 0 (mmin a1 a2)) 1 (mmax a1 a2)) 2 a3) 3 0)], rowsW c WA nW 7 wF, rowsW c BA nB 9 bF, rowsW c TA_56 nR_56 4 tF_56, rowsW c PA nP 2 pF]) rfl (inB_t (by decide)) rfl dX7_tie__124 125 rfl ?_
              refine vs_grow [0, 1, 2, 3, 4, 5, 7, 8, 10] 9 6 [sO m0 hour ropes broken windX windY oW oB oT_J19 oP, [aR c oW nW (fun i => some (WA i))], [aR c oB nB (fun i => some (BA i))], [aR c oT_J19 x19.1 (fun i => some (TA_56 (x19.2 i)))], [aR c oP nP (fun i => some (PA i))], [aR c a6_56 n6_56 (fun i => some (TA_56 (s6_56 i)))], rowsW c WA nW 7 wF, rowsW c BA nB 9 bF, rowsW c PA nP 2 pF] rfl rfl rfl (pm_of (N := 11) rfl (by decide +kernel)) ?_
              obtain ⟨hb_20, h⟩ := chkP_s h
              obtain ⟨hb_21, h⟩ := chkP_s h
              refine vs_out (segs' := [sO m0 hour ropes broken windX windY oW oB oT_J19 oP, [aR c oW nW (fun i => some (WA i))], [aR c oB nB (fun i => some (BA i))], [aR c oT_J19 x19.1 (fun i => some ((uN TA_56 nR_56 q_19) (x19.2 i)))], [aR c oP nP (fun i => some (PA i))], [aR c a6_56 n6_56 (fun i => some (TA_56 (s6_56 i)))], rowsW c WA nW 7 wF, rowsW c BA nB 9 bF, rowsW c PA nP 2 pF, rowsW c (uN TA_56 nR_56 q_19) (nR_56 + 1) 4 (uF tF_56 nR_56 (wr (wr (wr (wr (fun _ => 0) 0 (mmin a1 a2)) 1 (mmax a1 a2)) 2 a3) 3 0))]) 3 rfl (grow_ext hb_20) rfl ?_
              refine vs_out (segs' := [sO m0 hour ropes broken windX windY oW oB oT_J19 oP, [aR c oW nW (fun i => some (WA i))], [aR c oB nB (fun i => some (BA i))], [aR c oT_J19 x19.1 (fun i => some ((uN TA_56 nR_56 q_19) (x19.2 i)))], [aR c oP nP (fun i => some (PA i))], [aR c a6_56 n6_56 (fun i => some ((uN TA_56 nR_56 q_19) (s6_56 i)))], rowsW c WA nW 7 wF, rowsW c BA nB 9 bF, rowsW c PA nP 2 pF, rowsW c (uN TA_56 nR_56 q_19) (nR_56 + 1) 4 (uF tF_56 nR_56 (wr (wr (wr (wr (fun _ => 0) 0 (mmin a1 a2)) 1 (mmax a1 a2)) 2 a3) 3 0))]) 5 rfl (grow_ext hb_21) rfl ?_
              refine vv_eq (lv' := [(0, .ref m0), (3, .int a3), (4, .int (mmin a1 a2)), (5, .int (mmax a1 a2)), (6, .ref a6_56), (8, .ref oT_J19), (9, .int (nI x19.1)), (10, .int (nI j56)), (11, .ref ((uN TA_56 nR_56 q_19) (x19.2 j56)))]) (st' := [.ref ((uN TA_56 nR_56 q_19) nR_56), .ref a6_56]) rfl (by rw [uN_b (Nat.ne_of_lt hr_9)]) (by rw [uN_a]) ?_
              refine vv_seg [0, 1, 2, 3, 4, 5, 6, 7, 9, 8] [] [sO m0 hour ropes broken windX windY oW oB oT_J19 oP, [aR c oW nW (fun i => some (WA i))], [aR c oB nB (fun i => some (BA i))], [aR c oT_J19 x19.1 (fun i => some ((uN TA_56 nR_56 q_19) (x19.2 i)))], [aR c oP nP (fun i => some (PA i))], [aR c a6_56 n6_56 (fun i => some ((uN TA_56 nR_56 q_19) (s6_56 i)))], rowsW c WA nW 7 wF, rowsW c BA nB 9 bF, rowsW c (uN TA_56 nR_56 q_19) (nR_56 + 1) 4 (uF tF_56 nR_56 (wr (wr (wr (wr (fun _ => 0) 0 (mmin a1 a2)) 1 (mmax a1 a2)) 2 a3) 3 0)), rowsW c PA nP 2 pF] rfl (pm_of (N := 10) rfl (by decide +kernel)) ?_
              obtain ⟨hs_22, h⟩ := chkP_s h
              obtain ⟨hn_23, h⟩ := chkP_s h
              refine vs_callSq C (S := Nat) (fun l => mt_X7_more l D c 12 (by decide) a6_56 n6_56 (uN TA_56 nR_56 q_19) (nR_56 + 1) 4 (uF tF_56 nR_56 (wr (wr (wr (wr (fun _ => 0) 0 (mmin a1 a2)) 1 (mmax a1 a2)) 2 a3) 3 0)) s6_56 nR_56 hs_22 (show nR_56 < nR_56 + 1 by omega) hn_23) gX7_tie__X7_more rfl rfl rfl yd_X7_more ⟨Nat.le_of_ble_eq_true rfl, Nat.le_of_ble_eq_true rfl⟩ (List.flatten [sO m0 hour ropes broken windX windY oW oB oT_J19 oP, [aR c oW nW (fun i => some (WA i))], [aR c oB nB (fun i => some (BA i))], [aR c oT_J19 x19.1 (fun i => some ((uN TA_56 nR_56 q_19) (x19.2 i)))], [aR c oP nP (fun i => some (PA i))], rowsW c WA nW 7 wF, rowsW c BA nB 9 bF, rowsW c PA nP 2 pF]) (sg_pick2 [0, 1, 2, 3, 4, 6, 7, 9] [5, 8] rfl rfl (pm_of (N := 10) rfl (by decide +kernel))) rfl [] rfl (Nat.le_of_ble_eq_true rfl) ⟨show ((12 + j56 * 3) + 1) + 1 ≤ 44 by omega, show ((120 + j56 * 28) + 4) + 12 ≤ 416 by omega⟩ dX7_tie__125 128 ((12 + j56 * 3) + 2) ((120 + j56 * 28) + 16) rfl ⟨by omega, by omega⟩ (fun q_24 _ => ?_)
              refine vs_app ?_
              refine vv_seg [0, 1, 2, 3, 4, 8, 9, 5, 6, 10, 7] [] [sO m0 hour ropes broken windX windY oW oB oT_J19 oP, [aR c oW nW (fun i => some (WA i))], [aR c oB nB (fun i => some (BA i))], [aR c oT_J19 x19.1 (fun i => some ((uN TA_56 nR_56 q_19) (x19.2 i)))], [aR c oP nP (fun i => some (PA i))], [aR c a6_56 n6_56 (fun i => some ((uN TA_56 nR_56 q_19) (s6_56 i)))], [aR c q_24 (n6_56 + 1) (fun i => some ((uN TA_56 nR_56 q_19) (uN s6_56 n6_56 nR_56 i)))], rowsW c WA nW 7 wF, rowsW c BA nB 9 bF, rowsW c (uN TA_56 nR_56 q_19) (nR_56 + 1) 4 (uF tF_56 nR_56 (wr (wr (wr (wr (fun _ => 0) 0 (mmin a1 a2)) 1 (mmax a1 a2)) 2 a3) 3 0)), rowsW c PA nP 2 pF] rfl (pm_of (N := 11) rfl (by decide +kernel)) ?_
              refine vv_astore C [(6, .ref q_24), (0, .ref m0), (3, .int a3), (4, .int (mmin a1 a2)), (5, .int (mmax a1 a2)), (8, .ref oT_J19), (9, .int (nI x19.1)), (10, .int (nI j56)), (11, .ref ((uN TA_56 nR_56 q_19) (x19.2 j56)))] dX7_tie__128 (by decide) rfl 130 rfl ?_
              refine vv_iconst C (v := 1) dX7_tie__130 (by decide) 131 rfl ?_
              refine vv_istore C [(7, .int 1), (6, .ref q_24), (0, .ref m0), (3, .int a3), (4, .int (mmin a1 a2)), (5, .int (mmax a1 a2)), (8, .ref oT_J19), (9, .int (nI x19.1)), (10, .int (nI j56)), (11, .ref ((uN TA_56 nR_56 q_19) (x19.2 j56)))] dX7_tie__131 (by decide) rfl 133 rfl ?_
              refine vv_aload C dX7_tie__133 1 rfl 135 rfl ?_
              refine vv_aload C dX7_tie__135 9 rfl 137 rfl ?_
              obtain ⟨hs_25, h⟩ := chkP_s h
              obtain ⟨hn_26, h⟩ := chkP_s h
              refine vs_callSq C (S := Nat) (fun l => mt_X7_more l D c 12 (by decide) q_24 (n6_56 + 1) (uN TA_56 nR_56 q_19) (nR_56 + 1) 4 (uF tF_56 nR_56 (wr (wr (wr (wr (fun _ => 0) 0 (mmin a1 a2)) 1 (mmax a1 a2)) 2 a3) 3 0)) (uN s6_56 n6_56 nR_56) (x19.2 j56) hs_25 (Nat.lt_succ_of_lt hr_9) hn_26) gX7_tie__X7_more rfl rfl rfl yd_X7_more ⟨Nat.le_of_ble_eq_true rfl, Nat.le_of_ble_eq_true rfl⟩ (List.flatten [sO m0 hour ropes broken windX windY oW oB oT_J19 oP, [aR c oW nW (fun i => some (WA i))], [aR c oB nB (fun i => some (BA i))], [aR c oT_J19 x19.1 (fun i => some ((uN TA_56 nR_56 q_19) (x19.2 i)))], [aR c oP nP (fun i => some (PA i))], [aR c a6_56 n6_56 (fun i => some ((uN TA_56 nR_56 q_19) (s6_56 i)))], rowsW c WA nW 7 wF, rowsW c BA nB 9 bF, rowsW c PA nP 2 pF]) (sg_pick2 [0, 1, 2, 3, 4, 5, 7, 8, 10] [6, 9] rfl rfl (pm_of (N := 11) rfl (by decide +kernel))) rfl [] rfl (Nat.le_of_ble_eq_true rfl) ⟨show ((12 + j56 * 3) + 2) + 1 ≤ 44 by omega, show ((120 + j56 * 28) + 16) + 12 ≤ 416 by omega⟩ dX7_tie__137 140 ((12 + j56 * 3) + 3) ((120 + j56 * 28) + 28) rfl ⟨by omega, by omega⟩ (fun q_27 _ => ?_)
              refine vs_app ?_
              refine vv_seg [0, 1, 2, 3, 4, 5, 9, 10, 6, 7, 11, 8] [] [sO m0 hour ropes broken windX windY oW oB oT_J19 oP, [aR c oW nW (fun i => some (WA i))], [aR c oB nB (fun i => some (BA i))], [aR c oT_J19 x19.1 (fun i => some ((uN TA_56 nR_56 q_19) (x19.2 i)))], [aR c oP nP (fun i => some (PA i))], [aR c a6_56 n6_56 (fun i => some ((uN TA_56 nR_56 q_19) (s6_56 i)))], [aR c q_24 (n6_56 + 1) (fun i => some ((uN TA_56 nR_56 q_19) (uN s6_56 n6_56 nR_56 i)))], [aR c q_27 (n6_56 + 1 + 1) (fun i => some ((uN TA_56 nR_56 q_19) (uN (uN s6_56 n6_56 nR_56) (n6_56 + 1) (x19.2 j56) i)))], rowsW c WA nW 7 wF, rowsW c BA nB 9 bF, rowsW c (uN TA_56 nR_56 q_19) (nR_56 + 1) 4 (uF tF_56 nR_56 (wr (wr (wr (wr (fun _ => 0) 0 (mmin a1 a2)) 1 (mmax a1 a2)) 2 a3) 3 0)), rowsW c PA nP 2 pF] rfl (pm_of (N := 12) rfl (by decide +kernel)) ?_
              refine vv_astore C [(6, .ref q_27), (7, .int 1), (0, .ref m0), (3, .int a3), (4, .int (mmin a1 a2)), (5, .int (mmax a1 a2)), (8, .ref oT_J19), (9, .int (nI x19.1)), (10, .int (nI j56)), (11, .ref ((uN TA_56 nR_56 q_19) (x19.2 j56)))] dX7_tie__140 (by decide) rfl 142 rfl ?_
              refine vv_iinc C (k := 8) [(10, .int (nI (j56 + 1))), (6, .ref q_27), (7, .int 1), (0, .ref m0), (3, .int a3), (4, .int (mmin a1 a2)), (5, .int (mmax a1 a2)), (8, .ref oT_J19), (9, .int (nI x19.1)), (11, .ref ((uN TA_56 nR_56 q_19) (x19.2 j56)))] dX7_tie__142 rfl nI_inc (by decide) rfl 145 rfl ?_
              refine vv_goto C 56 dX7_tie__145 (by decide) ?_
              refine vv_lv [3, 4, 5, 6, 1, 2, 7, 8, 0] [(0, .ref m0), (3, .int a3), (4, .int (mmin a1 a2)), (5, .int (mmax a1 a2)), (6, .ref q_27), (7, .int 1), (8, .ref oT_J19), (9, .int (nI x19.1)), (10, .int (nI (j56 + 1)))] rfl ?_
              refine vv_seg [0, 1, 2, 3, 4, 7, 8, 9, 10, 11] [5, 6] [sO m0 hour ropes broken windX windY oW oB oT_J19 oP, [aR c oW nW (fun i => some (WA i))], [aR c oB nB (fun i => some (BA i))], [aR c oT_J19 x19.1 (fun i => some ((uN TA_56 nR_56 q_19) (x19.2 i)))], [aR c oP nP (fun i => some (PA i))], [aR c q_27 (n6_56 + 1 + 1) (fun i => some ((uN TA_56 nR_56 q_19) (uN (uN s6_56 n6_56 nR_56) (n6_56 + 1) (x19.2 j56) i)))], rowsW c WA nW 7 wF, rowsW c BA nB 9 bF, rowsW c (uN TA_56 nR_56 q_19) (nR_56 + 1) 4 (uF tF_56 nR_56 (wr (wr (wr (wr (fun _ => 0) 0 (mmin a1 a2)) 1 (mmax a1 a2)) 2 a3) 3 0)), rowsW c PA nP 2 pF] rfl (pm_of (N := 12) rfl (by decide +kernel)) ?_
              refine vv_widen (k := 12 + (j56 + 1) * 3) (n := 120 + (j56 + 1) * 28) (by omega) (by omega) ?_
              exact ih56 (j56 + 1) (uN TA_56 nR_56 q_19) q_27 (nR_56 + 1) (uF tF_56 nR_56 (wr (wr (wr (wr (fun _ => 0) 0 (mmin a1 a2)) 1 (mmax a1 a2)) 2 a3) 3 0)) (n6_56 + 1 + 1) (uN (uN s6_56 n6_56 nR_56) (n6_56 + 1) (x19.2 j56)) 1 _ (by omega) h kk56
            refine vv_icmp_gt C 102 84 dX7_tie__81 (by decide) rfl (fun hc => ?_) (fun hc => ?_)
            · replace h := ite_t hc h
              refine vv_lv [1, 2, 3, 4, 5, 7, 8, 9, 0] [(0, .ref m0), (3, .int a3), (4, .int (mmin a1 a2)), (5, .int (mmax a1 a2)), (6, .ref a6_56), (8, .ref oT_J19), (9, .int (nI x19.1)), (10, .int (nI j56)), (11, .ref (TA_56 (x19.2 j56)))] rfl ?_
              exact J102 () h
            · replace h := ite_f hc h
              refine vv_aload C dX7_tie__84 0 rfl 86 rfl ?_
              refine vv_iconst C (v := 0) dX7_tie__86 (by decide) 87 rfl ?_
              refine vs_iald C (r := x19.2 j56) 8 rfl hr_9 (inB_t (by decide)) dX7_tie__87 88 rfl ?_
              refine vv_iload C dX7_tie__88 3 rfl 90 rfl ?_
              refine vv_icmp_ne C 133 93 dX7_tie__90 (by decide) rfl (fun hc => ?_) (fun hc => ?_)
              · replace h := ite_f hc h
                refine vv_aload C dX7_tie__133 5 rfl 135 rfl ?_
                refine vv_aload C dX7_tie__135 0 rfl 137 rfl ?_
                obtain ⟨hs_13, h⟩ := chkP_s h
                obtain ⟨hn_14, h⟩ := chkP_s h
                refine vs_callSq C (S := Nat) (fun l => mt_X7_more l D c 12 (by decide) a6_56 n6_56 TA_56 nR_56 4 tF_56 s6_56 (x19.2 j56) hs_13 hr_9 hn_14) gX7_tie__X7_more rfl rfl rfl yd_X7_more ⟨Nat.le_of_ble_eq_true rfl, Nat.le_of_ble_eq_true rfl⟩ (List.flatten [sO m0 hour ropes broken windX windY oW oB oT_J19 oP, [aR c oW nW (fun i => some (WA i))], [aR c oB nB (fun i => some (BA i))], [aR c oT_J19 x19.1 (fun i => some (TA_56 (x19.2 i)))], [aR c oP nP (fun i => some (PA i))], rowsW c WA nW 7 wF, rowsW c BA nB 9 bF, rowsW c PA nP 2 pF]) (sg_pick2 [0, 1, 2, 3, 4, 6, 7, 9] [5, 8] rfl rfl (pm_of (N := 10) rfl (by decide +kernel))) rfl [] rfl (Nat.le_of_ble_eq_true rfl) ⟨show (12 + j56 * 3) + 1 ≤ 44 by omega, show (120 + j56 * 28) + 12 ≤ 416 by omega⟩ dX7_tie__137 140 ((12 + j56 * 3) + 1) ((120 + j56 * 28) + 12) rfl ⟨by omega, by omega⟩ (fun q_15 _ => ?_)
                refine vs_app ?_
                refine vv_seg [0, 1, 2, 3, 4, 8, 9, 5, 6, 10, 7] [] [sO m0 hour ropes broken windX windY oW oB oT_J19 oP, [aR c oW nW (fun i => some (WA i))], [aR c oB nB (fun i => some (BA i))], [aR c oT_J19 x19.1 (fun i => some (TA_56 (x19.2 i)))], [aR c oP nP (fun i => some (PA i))], [aR c a6_56 n6_56 (fun i => some (TA_56 (s6_56 i)))], [aR c q_15 (n6_56 + 1) (fun i => some (TA_56 (uN s6_56 n6_56 (x19.2 j56) i)))], rowsW c WA nW 7 wF, rowsW c BA nB 9 bF, rowsW c TA_56 nR_56 4 tF_56, rowsW c PA nP 2 pF] rfl (pm_of (N := 11) rfl (by decide +kernel)) ?_
                refine vv_astore C [(6, .ref q_15), (11, .ref (TA_56 (x19.2 j56))), (0, .ref m0), (3, .int a3), (4, .int (mmin a1 a2)), (5, .int (mmax a1 a2)), (7, .int v7_56), (8, .ref oT_J19), (9, .int (nI x19.1)), (10, .int (nI j56))] dX7_tie__140 (by decide) rfl 142 rfl ?_
                refine vv_iinc C (k := 9) [(10, .int (nI (j56 + 1))), (6, .ref q_15), (11, .ref (TA_56 (x19.2 j56))), (0, .ref m0), (3, .int a3), (4, .int (mmin a1 a2)), (5, .int (mmax a1 a2)), (7, .int v7_56), (8, .ref oT_J19), (9, .int (nI x19.1))] dX7_tie__142 rfl nI_inc (by decide) rfl 145 rfl ?_
                refine vv_goto C 56 dX7_tie__145 (by decide) ?_
                refine vv_lv [3, 4, 5, 6, 1, 7, 8, 9, 0] [(0, .ref m0), (3, .int a3), (4, .int (mmin a1 a2)), (5, .int (mmax a1 a2)), (6, .ref q_15), (7, .int v7_56), (8, .ref oT_J19), (9, .int (nI x19.1)), (10, .int (nI (j56 + 1)))] rfl ?_
                refine vv_seg [0, 1, 2, 3, 4, 6, 7, 8, 9, 10] [5] [sO m0 hour ropes broken windX windY oW oB oT_J19 oP, [aR c oW nW (fun i => some (WA i))], [aR c oB nB (fun i => some (BA i))], [aR c oT_J19 x19.1 (fun i => some (TA_56 (x19.2 i)))], [aR c oP nP (fun i => some (PA i))], [aR c q_15 (n6_56 + 1) (fun i => some (TA_56 (uN s6_56 n6_56 (x19.2 j56) i)))], rowsW c WA nW 7 wF, rowsW c BA nB 9 bF, rowsW c TA_56 nR_56 4 tF_56, rowsW c PA nP 2 pF] rfl (pm_of (N := 11) rfl (by decide +kernel)) ?_
                refine vv_widen (k := 12 + (j56 + 1) * 3) (n := 120 + (j56 + 1) * 28) (by omega) (by omega) ?_
                exact ih56 (j56 + 1) TA_56 q_15 nR_56 tF_56 (n6_56 + 1) (uN s6_56 n6_56 (x19.2 j56)) v7_56 _ (by omega) h kk56
              · replace h := ite_t hc h
                refine vv_aload C dX7_tie__93 0 rfl 95 rfl ?_
                refine vv_iconst C (v := 1) dX7_tie__95 (by decide) 96 rfl ?_
                refine vs_iald C (r := x19.2 j56) 8 rfl hr_9 (inB_t (by decide)) dX7_tie__96 97 rfl ?_
                refine vv_iload C dX7_tie__97 4 rfl 99 rfl ?_
                refine vv_icmp_le C 133 102 dX7_tie__99 (by decide) rfl (fun hc => ?_) (fun hc => ?_)
                · replace h := ite_t hc h
                  refine vv_aload C dX7_tie__133 5 rfl 135 rfl ?_
                  refine vv_aload C dX7_tie__135 0 rfl 137 rfl ?_
                  obtain ⟨hs_16, h⟩ := chkP_s h
                  obtain ⟨hn_17, h⟩ := chkP_s h
                  refine vs_callSq C (S := Nat) (fun l => mt_X7_more l D c 12 (by decide) a6_56 n6_56 TA_56 nR_56 4 tF_56 s6_56 (x19.2 j56) hs_16 hr_9 hn_17) gX7_tie__X7_more rfl rfl rfl yd_X7_more ⟨Nat.le_of_ble_eq_true rfl, Nat.le_of_ble_eq_true rfl⟩ (List.flatten [sO m0 hour ropes broken windX windY oW oB oT_J19 oP, [aR c oW nW (fun i => some (WA i))], [aR c oB nB (fun i => some (BA i))], [aR c oT_J19 x19.1 (fun i => some (TA_56 (x19.2 i)))], [aR c oP nP (fun i => some (PA i))], rowsW c WA nW 7 wF, rowsW c BA nB 9 bF, rowsW c PA nP 2 pF]) (sg_pick2 [0, 1, 2, 3, 4, 6, 7, 9] [5, 8] rfl rfl (pm_of (N := 10) rfl (by decide +kernel))) rfl [] rfl (Nat.le_of_ble_eq_true rfl) ⟨show (12 + j56 * 3) + 1 ≤ 44 by omega, show (120 + j56 * 28) + 12 ≤ 416 by omega⟩ dX7_tie__137 140 ((12 + j56 * 3) + 1) ((120 + j56 * 28) + 12) rfl ⟨by omega, by omega⟩ (fun q_18 _ => ?_)
                  refine vs_app ?_
                  refine vv_seg [0, 1, 2, 3, 4, 8, 9, 5, 6, 10, 7] [] [sO m0 hour ropes broken windX windY oW oB oT_J19 oP, [aR c oW nW (fun i => some (WA i))], [aR c oB nB (fun i => some (BA i))], [aR c oT_J19 x19.1 (fun i => some (TA_56 (x19.2 i)))], [aR c oP nP (fun i => some (PA i))], [aR c a6_56 n6_56 (fun i => some (TA_56 (s6_56 i)))], [aR c q_18 (n6_56 + 1) (fun i => some (TA_56 (uN s6_56 n6_56 (x19.2 j56) i)))], rowsW c WA nW 7 wF, rowsW c BA nB 9 bF, rowsW c TA_56 nR_56 4 tF_56, rowsW c PA nP 2 pF] rfl (pm_of (N := 11) rfl (by decide +kernel)) ?_
                  refine vv_astore C [(6, .ref q_18), (11, .ref (TA_56 (x19.2 j56))), (0, .ref m0), (3, .int a3), (4, .int (mmin a1 a2)), (5, .int (mmax a1 a2)), (7, .int v7_56), (8, .ref oT_J19), (9, .int (nI x19.1)), (10, .int (nI j56))] dX7_tie__140 (by decide) rfl 142 rfl ?_
                  refine vv_iinc C (k := 9) [(10, .int (nI (j56 + 1))), (6, .ref q_18), (11, .ref (TA_56 (x19.2 j56))), (0, .ref m0), (3, .int a3), (4, .int (mmin a1 a2)), (5, .int (mmax a1 a2)), (7, .int v7_56), (8, .ref oT_J19), (9, .int (nI x19.1))] dX7_tie__142 rfl nI_inc (by decide) rfl 145 rfl ?_
                  refine vv_goto C 56 dX7_tie__145 (by decide) ?_
                  refine vv_lv [3, 4, 5, 6, 1, 7, 8, 9, 0] [(0, .ref m0), (3, .int a3), (4, .int (mmin a1 a2)), (5, .int (mmax a1 a2)), (6, .ref q_18), (7, .int v7_56), (8, .ref oT_J19), (9, .int (nI x19.1)), (10, .int (nI (j56 + 1)))] rfl ?_
                  refine vv_seg [0, 1, 2, 3, 4, 6, 7, 8, 9, 10] [5] [sO m0 hour ropes broken windX windY oW oB oT_J19 oP, [aR c oW nW (fun i => some (WA i))], [aR c oB nB (fun i => some (BA i))], [aR c oT_J19 x19.1 (fun i => some (TA_56 (x19.2 i)))], [aR c oP nP (fun i => some (PA i))], [aR c q_18 (n6_56 + 1) (fun i => some (TA_56 (uN s6_56 n6_56 (x19.2 j56) i)))], rowsW c WA nW 7 wF, rowsW c BA nB 9 bF, rowsW c TA_56 nR_56 4 tF_56, rowsW c PA nP 2 pF] rfl (pm_of (N := 11) rfl (by decide +kernel)) ?_
                  refine vv_widen (k := 12 + (j56 + 1) * 3) (n := 120 + (j56 + 1) * 28) (by omega) (by omega) ?_
                  exact ih56 (j56 + 1) TA_56 q_18 nR_56 tF_56 (n6_56 + 1) (uN s6_56 n6_56 (x19.2 j56)) v7_56 _ (by omega) h kk56
                · replace h := ite_f hc h
                  refine vv_lv [1, 2, 3, 4, 5, 7, 8, 9, 0] [(0, .ref m0), (3, .int a3), (4, .int (mmin a1 a2)), (5, .int (mmax a1 a2)), (6, .ref a6_56), (8, .ref oT_J19), (9, .int (nI x19.1)), (10, .int (nI j56)), (11, .ref (TA_56 (x19.2 j56)))] rfl ?_
                  exact J102 () h
    obtain ⟨r_28, hr_28, h⟩ := bnd_s h
    refine vv_cs (k := 12 + 0 * 3) (n := 120 + 0 * 28) (by omega) (by omega) ?_
    refine L56 x19.1 0 TA q_8 nR tF 0 (fun _ => 0) 0 r_28 (Nat.zero_add _) hr_28 ?_
    intro TA_56e a6_56e
    refine vv_widen (k := 42) (n := 400) (by omega) (by omega) ?_
    refine vv_aload_n C dX7_tie__148 rfl 0 rfl 149 rfl ?_
    refine vv_iload C dX7_tie__149 5 rfl 151 rfl ?_
    refine vv_if_eq C 159 154 dX7_tie__151 (by decide) rfl (fun hc => ?_) (fun hc => ?_)
    · replace h := ite_t hc h
      refine vv_aload C dX7_tie__159 4 rfl 161 rfl ?_
      refine vv_iconst C (v := 4) dX7_tie__161 (by decide) 162 rfl ?_
      refine vv_newa C (N := 4) kwX7_tie__10 (by decide) (by decide) (by decide) ⟨show 42 + 1 ≤ 44 by omega, show 400 + 4 ≤ 416 by omega⟩ dX7_tie__162 164 43 404 rfl ⟨by omega, by omega⟩ (fun q_29 => ?_)
      refine vs_snoc ?_
      refine vv_seg [0, 1, 2, 3, 4, 5, 10, 6, 7, 8, 9] [] [sO m0 hour ropes broken windX windY oW oB oT_J19 oP, [aR c oW nW (fun i => some (WA i))], [aR c oB nB (fun i => some (BA i))], [aR c oT_J19 x19.1 (fun i => some (TA_56e (x19.2 i)))], [aR c oP nP (fun i => some (PA i))], [aR c a6_56e r_28.2.2.1 (fun i => some (TA_56e (r_28.2.2.2.1 i)))], [aI c q_29 4 (fun _ => 0)], rowsW c WA nW 7 wF, rowsW c BA nB 9 bF, rowsW c TA_56e r_28.1 4 r_28.2.1, rowsW c PA nP 2 pF] rfl (pm_of (N := 11) rfl (by decide +kernel)) ?_
      refine vv_dup C dX7_tie__164 rfl 165 rfl ?_
      refine vv_iconst C (v := 0) dX7_tie__165 (by decide) 166 rfl ?_
      refine vv_iload C dX7_tie__166 2 rfl 168 rfl ?_
      refine vv_iast C (q0 := 6) (List.flatten [sO m0 hour ropes broken windX windY oW oB oT_J19 oP, [aR c oW nW (fun i => some (WA i))], [aR c oB nB (fun i => some (BA i))], [aR c oT_J19 x19.1 (fun i => some (TA_56e (x19.2 i)))], [aR c oP nP (fun i => some (PA i))], [aR c a6_56e r_28.2.2.1 (fun i => some (TA_56e (r_28.2.2.2.1 i)))], [aI c q_29 4 (wr (fun _ => 0) 0 (mmin a1 a2))], rowsW c WA nW 7 wF, rowsW c BA nB 9 bF, rowsW c TA_56e r_28.1 4 r_28.2.1, rowsW c PA nP 2 pF]) rfl (inB_t (by decide)) rfl dX7_tie__168 169 rfl ?_
      refine vv_dup C dX7_tie__169 rfl 170 rfl ?_
      refine vv_iconst C (v := 1) dX7_tie__170 (by decide) 171 rfl ?_
      refine vv_iload C dX7_tie__171 3 rfl 173 rfl ?_
      refine vv_iast C (q0 := 6) (List.flatten [sO m0 hour ropes broken windX windY oW oB oT_J19 oP, [aR c oW nW (fun i => some (WA i))], [aR c oB nB (fun i => some (BA i))], [aR c oT_J19 x19.1 (fun i => some (TA_56e (x19.2 i)))], [aR c oP nP (fun i => some (PA i))], [aR c a6_56e r_28.2.2.1 (fun i => some (TA_56e (r_28.2.2.2.1 i)))], [aI c q_29 4 (wr (wr (fun _ => 0) 0 (mmin a1 a2)) 1 (mmax a1 a2))], rowsW c WA nW 7 wF, rowsW c BA nB 9 bF, rowsW c TA_56e r_28.1 4 r_28.2.1, rowsW c PA nP 2 pF]) rfl (inB_t (by decide)) rfl dX7_tie__173 174 rfl ?_
      refine vv_dup C dX7_tie__174 rfl 175 rfl ?_
      refine vv_iconst C (v := 2) dX7_tie__175 (by decide) 176 rfl ?_
      refine vv_iload_n C dX7_tie__176 rfl 1 rfl 177 rfl ?_
      refine vv_iast C (q0 := 6) (List.flatten [sO m0 hour ropes broken windX windY oW oB oT_J19 oP, [aR c oW nW (fun i => some (WA i))], [aR c oB nB (fun i => some (BA i))], [aR c oT_J19 x19.1 (fun i => some (TA_56e (x19.2 i)))], [aR c oP nP (fun i => some (PA i))], [aR c a6_56e r_28.2.2.1 (fun i => some (TA_56e (r_28.2.2.2.1 i)))], [aI c q_29 4 (wr (wr (wr (fun _ => 0) 0 (mmin a1 a2)) 1 (mmax a1 a2)) 2 a3)], rowsW c WA nW 7 wF, rowsW c BA nB 9 bF, rowsW c TA_56e r_28.1 4 r_28.2.1, rowsW c PA nP 2 pF]) rfl (inB_t (by decide)) rfl dX7_tie__177 178 rfl ?_
      refine vv_dup C dX7_tie__178 rfl 179 rfl ?_
      refine vv_iconst C (v := 3) dX7_tie__179 (by decide) 180 rfl ?_
      refine vv_iconst C (v := 0) dX7_tie__180 (by decide) 181 rfl ?_
      refine vv_iast C (q0 := 6) (List.flatten [sO m0 hour ropes broken windX windY oW oB oT_J19 oP, [aR c oW nW (fun i => some (WA i))], [aR c oB nB (fun i => some (BA i))], [aR c oT_J19 x19.1 (fun i => some (TA_56e (x19.2 i)))], [aR c oP nP (fun i => some (PA i))], [aR c a6_56e r_28.2.2.1 (fun i => some (TA_56e (r_28.2.2.2.1 i)))], [aI c q_29 4 (wr (wr (wr (wr (fun _ => 0) 0 (mmin a1 a2)) 1 (mmax a1 a2)) 2 a3) 3 0)], rowsW c WA nW 7 wF, rowsW c BA nB 9 bF, rowsW c TA_56e r_28.1 4 r_28.2.1, rowsW c PA nP 2 pF]) rfl (inB_t (by decide)) rfl dX7_tie__181 182 rfl ?_
      refine vs_grow [0, 1, 2, 3, 4, 5, 7, 8, 10] 9 6 [sO m0 hour ropes broken windX windY oW oB oT_J19 oP, [aR c oW nW (fun i => some (WA i))], [aR c oB nB (fun i => some (BA i))], [aR c oT_J19 x19.1 (fun i => some (TA_56e (x19.2 i)))], [aR c oP nP (fun i => some (PA i))], [aR c a6_56e r_28.2.2.1 (fun i => some (TA_56e (r_28.2.2.2.1 i)))], rowsW c WA nW 7 wF, rowsW c BA nB 9 bF, rowsW c PA nP 2 pF] rfl rfl rfl (pm_of (N := 11) rfl (by decide +kernel)) ?_
      obtain ⟨hb_30, h⟩ := chkP_s h
      obtain ⟨hb_31, h⟩ := chkP_s h
      refine vs_out (segs' := [sO m0 hour ropes broken windX windY oW oB oT_J19 oP, [aR c oW nW (fun i => some (WA i))], [aR c oB nB (fun i => some (BA i))], [aR c oT_J19 x19.1 (fun i => some ((uN TA_56e r_28.1 q_29) (x19.2 i)))], [aR c oP nP (fun i => some (PA i))], [aR c a6_56e r_28.2.2.1 (fun i => some (TA_56e (r_28.2.2.2.1 i)))], rowsW c WA nW 7 wF, rowsW c BA nB 9 bF, rowsW c PA nP 2 pF, rowsW c (uN TA_56e r_28.1 q_29) (r_28.1 + 1) 4 (uF r_28.2.1 r_28.1 (wr (wr (wr (wr (fun _ => 0) 0 (mmin a1 a2)) 1 (mmax a1 a2)) 2 a3) 3 0))]) 3 rfl (grow_ext hb_30) rfl ?_
      refine vs_out (segs' := [sO m0 hour ropes broken windX windY oW oB oT_J19 oP, [aR c oW nW (fun i => some (WA i))], [aR c oB nB (fun i => some (BA i))], [aR c oT_J19 x19.1 (fun i => some ((uN TA_56e r_28.1 q_29) (x19.2 i)))], [aR c oP nP (fun i => some (PA i))], [aR c a6_56e r_28.2.2.1 (fun i => some ((uN TA_56e r_28.1 q_29) (r_28.2.2.2.1 i)))], rowsW c WA nW 7 wF, rowsW c BA nB 9 bF, rowsW c PA nP 2 pF, rowsW c (uN TA_56e r_28.1 q_29) (r_28.1 + 1) 4 (uF r_28.2.1 r_28.1 (wr (wr (wr (wr (fun _ => 0) 0 (mmin a1 a2)) 1 (mmax a1 a2)) 2 a3) 3 0))]) 5 rfl (grow_ext hb_31) rfl ?_
      refine vv_eq (lv' := [(0, .ref m0), (3, .int a3), (4, .int (mmin a1 a2)), (5, .int (mmax a1 a2)), (6, .ref a6_56e), (7, .int r_28.2.2.2.2)]) (st' := [.ref ((uN TA_56e r_28.1 q_29) r_28.1), .ref a6_56e, .ref m0]) rfl rfl (by rw [uN_a]) ?_
      refine vv_seg [0, 1, 2, 3, 4, 5, 6, 7, 9, 8] [] [sO m0 hour ropes broken windX windY oW oB oT_J19 oP, [aR c oW nW (fun i => some (WA i))], [aR c oB nB (fun i => some (BA i))], [aR c oT_J19 x19.1 (fun i => some ((uN TA_56e r_28.1 q_29) (x19.2 i)))], [aR c oP nP (fun i => some (PA i))], [aR c a6_56e r_28.2.2.1 (fun i => some ((uN TA_56e r_28.1 q_29) (r_28.2.2.2.1 i)))], rowsW c WA nW 7 wF, rowsW c BA nB 9 bF, rowsW c (uN TA_56e r_28.1 q_29) (r_28.1 + 1) 4 (uF r_28.2.1 r_28.1 (wr (wr (wr (wr (fun _ => 0) 0 (mmin a1 a2)) 1 (mmax a1 a2)) 2 a3) 3 0)), rowsW c PA nP 2 pF] rfl (pm_of (N := 10) rfl (by decide +kernel)) ?_
      obtain ⟨hs_32, h⟩ := chkP_s h
      obtain ⟨hn_33, h⟩ := chkP_s h
      refine vs_callSq C (S := Nat) (fun l => mt_X7_more l D c 12 (by decide) a6_56e r_28.2.2.1 (uN TA_56e r_28.1 q_29) (r_28.1 + 1) 4 (uF r_28.2.1 r_28.1 (wr (wr (wr (wr (fun _ => 0) 0 (mmin a1 a2)) 1 (mmax a1 a2)) 2 a3) 3 0)) r_28.2.2.2.1 r_28.1 hs_32 (show r_28.1 < r_28.1 + 1 by omega) hn_33) gX7_tie__X7_more rfl rfl rfl yd_X7_more ⟨Nat.le_of_ble_eq_true rfl, Nat.le_of_ble_eq_true rfl⟩ (List.flatten [sO m0 hour ropes broken windX windY oW oB oT_J19 oP, [aR c oW nW (fun i => some (WA i))], [aR c oB nB (fun i => some (BA i))], [aR c oT_J19 x19.1 (fun i => some ((uN TA_56e r_28.1 q_29) (x19.2 i)))], [aR c oP nP (fun i => some (PA i))], rowsW c WA nW 7 wF, rowsW c BA nB 9 bF, rowsW c PA nP 2 pF]) (sg_pick2 [0, 1, 2, 3, 4, 6, 7, 9] [5, 8] rfl rfl (pm_of (N := 10) rfl (by decide +kernel))) rfl [.ref m0] rfl (Nat.le_of_ble_eq_true rfl) ⟨show 43 + 1 ≤ 44 by omega, show 404 + 12 ≤ 416 by omega⟩ dX7_tie__182 185 44 416 rfl ⟨by omega, by omega⟩ (fun q_34 _ => ?_)
      refine vs_app ?_
      refine vv_seg [0, 1, 2, 3, 4, 8, 9, 5, 6, 10, 7] [] [sO m0 hour ropes broken windX windY oW oB oT_J19 oP, [aR c oW nW (fun i => some (WA i))], [aR c oB nB (fun i => some (BA i))], [aR c oT_J19 x19.1 (fun i => some ((uN TA_56e r_28.1 q_29) (x19.2 i)))], [aR c oP nP (fun i => some (PA i))], [aR c a6_56e r_28.2.2.1 (fun i => some ((uN TA_56e r_28.1 q_29) (r_28.2.2.2.1 i)))], [aR c q_34 (r_28.2.2.1 + 1) (fun i => some ((uN TA_56e r_28.1 q_29) (uN r_28.2.2.2.1 r_28.2.2.1 r_28.1 i)))], rowsW c WA nW 7 wF, rowsW c BA nB 9 bF, rowsW c (uN TA_56e r_28.1 q_29) (r_28.1 + 1) 4 (uF r_28.2.1 r_28.1 (wr (wr (wr (wr (fun _ => 0) 0 (mmin a1 a2)) 1 (mmax a1 a2)) 2 a3) 3 0)), rowsW c PA nP 2 pF] rfl (pm_of (N := 11) rfl (by decide +kernel)) ?_
      refine vv_put C (q0 := 0) (ci := 7) (k := 7) (ty := (.array (.array .int))) (List.flatten [sO m0 hour ropes broken windX windY oW oB q_34 oP, [aR c oW nW (fun i => some (WA i))], [aR c oB nB (fun i => some (BA i))], [aR c oT_J19 x19.1 (fun i => some ((uN TA_56e r_28.1 q_29) (x19.2 i)))], [aR c oP nP (fun i => some (PA i))], [aR c a6_56e r_28.2.2.1 (fun i => some ((uN TA_56e r_28.1 q_29) (r_28.2.2.2.1 i)))], [aR c q_34 (r_28.2.2.1 + 1) (fun i => some ((uN TA_56e r_28.1 q_29) (uN r_28.2.2.2.1 r_28.2.2.1 r_28.1 i)))], rowsW c WA nW 7 wF, rowsW c BA nB 9 bF, rowsW c (uN TA_56e r_28.1 q_29) (r_28.1 + 1) 4 (uF r_28.2.1 r_28.1 (wr (wr (wr (wr (fun _ => 0) 0 (mmin a1 a2)) 1 (mmax a1 a2)) 2 a3) 3 0)), rowsW c PA nP 2 pF]) tyX7 tyX7_ok nmX7 kinX7_tie__X7 rfl rfl (by decide) kwX7_tie__9 rfl rfl rfl rfl rfl (Nat.le_of_ble_eq_true rfl) rfl dX7_tie__185 188 rfl ?_
      obtain rfl := Option.some.inj h
      refine vv_seg [0, 1, 2, 6, 4, 7, 8, 9, 10] [3, 5] [sO m0 hour ropes broken windX windY oW oB q_34 oP, [aR c oW nW (fun i => some (WA i))], [aR c oB nB (fun i => some (BA i))], [aR c q_34 (r_28.2.2.1 + 1) (fun i => some ((uN TA_56e r_28.1 q_29) (uN r_28.2.2.2.1 r_28.2.2.1 r_28.1 i)))], [aR c oP nP (fun i => some (PA i))], rowsW c WA nW 7 wF, rowsW c BA nB 9 bF, rowsW c (uN TA_56e r_28.1 q_29) (r_28.1 + 1) 4 (uF r_28.2.1 r_28.1 (wr (wr (wr (wr (fun _ => 0) 0 (mmin a1 a2)) 1 (mmax a1 a2)) 2 a3) 3 0)), rowsW c PA nP 2 pF] rfl (pm_of (N := 11) rfl (by decide +kernel)) ?_
      refine vv_widen (k := 44) (n := 416) (by omega) (by omega) ?_
      exact ret (q_34, (uN TA_56e r_28.1 q_29)) trivial _ _ dX7_tie__188
    · replace h := ite_f hc h
      refine vv_aload C dX7_tie__154 4 rfl 156 rfl ?_
      refine vv_goto C 185 dX7_tie__156 (by decide) ?_
      refine vv_put C (q0 := 0) (ci := 7) (k := 7) (ty := (.array (.array .int))) (List.flatten [sO m0 hour ropes broken windX windY oW oB a6_56e oP, [aR c oW nW (fun i => some (WA i))], [aR c oB nB (fun i => some (BA i))], [aR c oT_J19 x19.1 (fun i => some (TA_56e (x19.2 i)))], [aR c oP nP (fun i => some (PA i))], [aR c a6_56e r_28.2.2.1 (fun i => some (TA_56e (r_28.2.2.2.1 i)))], rowsW c WA nW 7 wF, rowsW c BA nB 9 bF, rowsW c TA_56e r_28.1 4 r_28.2.1, rowsW c PA nP 2 pF]) tyX7 tyX7_ok nmX7 kinX7_tie__X7 rfl rfl (by decide) kwX7_tie__9 rfl rfl rfl rfl rfl (Nat.le_of_ble_eq_true rfl) rfl dX7_tie__185 188 rfl ?_
      obtain rfl := Option.some.inj h
      refine vv_seg [0, 1, 2, 5, 4, 6, 7, 8, 9] [3] [sO m0 hour ropes broken windX windY oW oB a6_56e oP, [aR c oW nW (fun i => some (WA i))], [aR c oB nB (fun i => some (BA i))], [aR c a6_56e r_28.2.2.1 (fun i => some (TA_56e (r_28.2.2.2.1 i)))], [aR c oP nP (fun i => some (PA i))], rowsW c WA nW 7 wF, rowsW c BA nB 9 bF, rowsW c TA_56e r_28.1 4 r_28.2.1, rowsW c PA nP 2 pF] rfl (pm_of (N := 10) rfl (by decide +kernel)) ?_
      refine vv_widen (k := 44) (n := 416) (by omega) (by omega) ?_
      exact ret (a6_56e, TA_56e) trivial _ _ dX7_tie__188
  refine vs_ifnull C (A := TA) (o := r_1) 19 9 dX7_tie__6 (by decide) rfl (fun hc => ?_) (fun hc => ?_)
  · replace h := ite_t hc h
    refine vv_widen (k := 11) (n := 120) (by omega) (by omega) ?_
    exact J19 oT (nT, sg) h
  · replace h := ite_f hc h
    refine vv_aload_n C dX7_tie__9 rfl 0 rfl 10 rfl ?_
    refine vv_aload_n C dX7_tie__10 rfl 0 rfl 11 rfl ?_
    refine vv_iload_n C dX7_tie__11 rfl 1 rfl 12 rfl ?_
    refine vv_iload_n C dX7_tie__12 rfl 2 rfl 13 rfl ?_
    obtain ⟨r_3, hr_3, h⟩ := bnd_s h
    refine vs_callVq C (S := Unit) (fun l => mt_X7_tie l D c m0 oW oB oT oP WA BA TA PA hour ropes broken windX windY nW nB nT nP nR sg wF bF tF pF a1 a2 r_3 hr_3) gX7_tie__X7_tie rfl rfl rfl yd_X7_tie ⟨Nat.le_of_ble_eq_true rfl, Nat.le_of_ble_eq_true rfl⟩ (List.flatten []) (sg_pick2 [] [0, 1, 2, 3, 4, 5, 6, 7, 8] rfl rfl (pm_of (N := 9) rfl (by decide +kernel))) 0 rfl rfl rfl [.ref m0] rfl (Nat.le_of_ble_eq_true rfl) ⟨show 0 + 0 ≤ 44 by omega, show 0 + 0 ≤ 416 by omega⟩ dX7_tie__13 16 0 0 rfl ⟨by omega, by omega⟩ (fun u_4 _ => ?_)
    refine vs_app ?_
    refine vv_seg [0, 1, 2, 3, 4, 5, 6, 7, 8] [] [sO m0 hour ropes broken windX windY oW oB oT oP, [aR c oW nW (fun i => some (WA i))], [aR c oB nB (fun i => some (BA i))], [aR c oT nT (fun i => some (TA (sg i)))], [aR c oP nP (fun i => some (PA i))], rowsW c WA nW 7 wF, rowsW c BA nB 9 bF, rowsW c TA nR 4 tF, rowsW c PA nP 2 pF] rfl (pm_of (N := 9) rfl (by decide +kernel)) ?_
    obtain ⟨o_5, ho_5, h⟩ := bnd_s h
    refine vv_eq (st' := [.ref (TA o_5), .ref m0]) rfl rfl (by rw [ho_5]; rfl) ?_
    obtain ⟨r_6, hr_6, h⟩ := bnd_s h
    refine vs_callVv C (S := Nat) (fun l => mt_X7_untie l D c m0 oW oB oT oP WA BA TA PA hour ropes broken windX windY nW nB nT nP nR sg wF bF tF pF o_5 r_6 hr_6) gX7_tie__X7_untie rfl rfl rfl yd_X7_untie ⟨Nat.le_of_ble_eq_true rfl, Nat.le_of_ble_eq_true rfl⟩ (List.flatten []) (sg_pick2 [] [0, 1, 2, 3, 4, 5, 6, 7, 8] rfl rfl (pm_of (N := 9) rfl (by decide +kernel))) 0 rfl rfl rfl [] rfl (Nat.le_of_ble_eq_true rfl) ⟨show 0 + 11 ≤ 44 by omega, show 0 + 120 ≤ 416 by omega⟩ dX7_tie__16 19 11 120 rfl ⟨by omega, by omega⟩ (fun u_7 _ => ?_)
    refine vs_app ?_
    refine vv_seg [0, 1, 2, 3, 4, 5, 6, 7, 8] [] [sO m0 hour ropes broken windX windY oW oB u_7 oP, [aR c oW nW (fun i => some (WA i))], [aR c oB nB (fun i => some (BA i))], [aR c u_7 r_6.1 (fun i => some (TA (r_6.2 i)))], [aR c oP nP (fun i => some (PA i))], rowsW c WA nW 7 wF, rowsW c BA nB 9 bF, rowsW c TA nR 4 tF, rowsW c PA nP 2 pF] rfl (pm_of (N := 9) rfl (by decide +kernel)) ?_
    exact J19 u_7 (r_6.1, r_6.2) h
abbrev rmX7_end : Room := { frames := 1, cells := 11, slots := 120, locals := 23 }
theorem yd_X7_end : yX7_end.cls = RX7 ∧ yX7_end.cls ≠ "java/lang/invoke/MethodHandle" ∧ yX7_end.cls ≠ "java/lang/invoke/VarHandle" ∧ (parseMethodDescriptor yX7_end.desc).map (fun d => d.parameters.length) = some 2 := by decide +kernel
theorem kwX7_end_1 : Cond.fieldLink RX7 19 "BarrelRaftLaw$Sim" "barrels" "[[I" ∈ wsX7_end := List.mem_of_getElem? (i := 1) rfl
set_option maxRecDepth 20000 in
theorem kinX7_end_X7 : ∀ w ∈ u_ws RX7 TX7 9, w ∈ wsX7_end := by decide +kernel
theorem kwX7_end_2 : Cond.fieldLink RX7 25 "BarrelRaftLaw$Sim" "people" "[[I" ∈ wsX7_end := List.mem_of_getElem? (i := 2) rfl
theorem kwX7_end_3 : Cond.classLink RX7 13 "[I" ∈ wsX7_end := List.mem_of_getElem? (i := 3) rfl
theorem kwX7_end_4 : Cond.fieldLink RX7 22 "BarrelRaftLaw$Sim" "ties" "[[I" ∈ wsX7_end := List.mem_of_getElem? (i := 4) rfl
def jS_end_L55 (u2_55 : Int32) (u3_55 : Int32) (n : Nat) (j55 : Nat) (pF_55 : Nat → Nat → Int32) : Option ((Nat → Nat → Int32)) := match n with
  | 0 => some pF_55
  | n + 1 => (if rd (pF_55 j55) 0 = u3_55 then jS_end_L55 u2_55 u3_55 n (j55 + 1) (uF (uF pF_55 j55 (wr (pF_55 j55) 0 (-1))) j55 (wr ((uF pF_55 j55 (wr (pF_55 j55) 0 (-1))) j55) 1 u2_55)) else jS_end_L55 u2_55 u3_55 n (j55 + 1) pF_55)
def jS_end_L2 (u2_2 : Int32) (fis : Nat → Int32) (nB : Nat) (nP : Nat) (n : Nat) (j2 : Nat) (bF_2 : Nat → Nat → Int32) (pF_2 : Nat → Nat → Int32) : Option ((Nat → Nat → Int32) × (Nat → Nat → Int32)) := match n with
  | 0 => some (bF_2, pF_2)
  | n + 1 => (if rd fis (nI j2) = 0 then jS_end_L2 u2_2 fis nB nP n (j2 + 1) bF_2 pF_2 else chk nB (nI j2) (jn (fun (x41 : (Nat → Nat → Int32)) => chkP (nP ≤ 8) (bnd (jS_end_L55 u2_2 (nI j2) nP 0 pF_2) (fun r_4 => jS_end_L2 u2_2 fis nB nP n (j2 + 1) x41 r_4))) (fun k41 => (if u2_2 = 1 then chk nB (nI j2) (k41 (uF (uF bF_2 (((nI j2)).toNatClampNeg) (wr (bF_2 (((nI j2)).toNatClampNeg)) 6 u2_2)) (((nI j2)).toNatClampNeg) (wr ((uF bF_2 (((nI j2)).toNatClampNeg) (wr (bF_2 (((nI j2)).toNatClampNeg)) 6 u2_2)) (((nI j2)).toNatClampNeg)) 5 0))) else k41 (uF bF_2 (((nI j2)).toNatClampNeg) (wr (bF_2 (((nI j2)).toNatClampNeg)) 6 u2_2))))))
def jS_end_L121 (sg : Nat → Nat) (fis : Nat → Int32) (nis : Nat) (nR : Nat) (tF : Nat → Nat → Int32) (n : Nat) (j121 : Nat) (n3_121 : Nat) (s3_121 : Nat → Nat) : Option (Nat × (Nat → Nat)) := match n with
  | 0 => some (n3_121, s3_121)
  | n + 1 => chkP (sg j121 < nR) (chk nis (rd (tF (sg j121)) 0) ((if rd fis (rd (tF (sg j121)) 0) = 0 then chkP (∀ i, i < n3_121 → s3_121 i < nR) (chkP (n3_121 < 12) (jS_end_L121 sg fis nis nR tF n (j121 + 1) (n3_121 + 1) (uN s3_121 n3_121 (sg j121)))) else jS_end_L121 sg fis nis nR tF n (j121 + 1) n3_121 s3_121)))
def jS_end (nB : Nat) (nT : Nat) (nP : Nat) (nR : Nat) (sg : Nat → Nat) (bF : Nat → Nat → Int32) (tF : Nat → Nat → Int32) (pF : Nat → Nat → Int32) (isN : Nat) (isF : Nat → Int32) (a1 : Int32) : Option (Nat × (Nat → Nat) × (Nat → Nat → Int32) × (Nat → Nat → Int32)) := chkP (isN ≤ 24) (bnd (jS_end_L2 a1 isF nB nP isN 0 bF pF) (fun r_5 => chkP (nT ≤ 10) (bnd (jS_end_L121 sg isF isN nR tF nT 0 0 (fun _ => 0)) (fun r_11 => some (r_11.1, r_11.2, r_5.1, r_5.2)))))
set_option maxHeartbeats 40000000 in
set_option maxRecDepth 100000 in
theorem mt_X7_end (l : Launch) (D : va_G) (c : Nat → ClassId) (m0 oW oB oT oP : Nat) (WA BA TA PA : Nat → Nat) (hour : Int32) (ropes : Int32) (broken : Int32) (windX : Int32) (windY : Int32) (nW : Nat) (nB : Nat) (nT : Nat) (nP : Nat) (nR : Nat) (sg : Nat → Nat) (wF : Nat → Nat → Int32) (bF : Nat → Nat → Int32) (tF : Nat → Nat → Int32) (pF : Nat → Nat → Int32) (isA isN : Nat) (isF : Nat → Int32) (a1 : Int32) (q0 : Nat × (Nat → Nat) × (Nat → Nat → Int32) × (Nat → Nat → Int32)) (h : jS_end nB nT nP nR sg bF tF pF isN isF a1 = some q0) : MJv l yX7_end wsX7_end rmX7_end D c (List.flatten [sO m0 hour ropes broken windX windY oW oB oT oP, [aR c oW nW (fun i => some (WA i))], [aR c oB nB (fun i => some (BA i))], [aR c oT nT (fun i => some (TA (sg i)))], [aR c oP nP (fun i => some (PA i))], [aZ c isA isN isF], rowsW c WA nW 7 wF, rowsW c BA nB 9 bF, rowsW c TA nR 4 tF, rowsW c PA nP 2 pF]) [.ref m0, .ref isA, .int a1] (fun (_ : Nat) => True) (fun u => (List.flatten [sO m0 hour ropes broken windX windY oW oB u oP, [aR c oW nW (fun i => some (WA i))], [aR c oB nB (fun i => some (BA i))], [aR c u q0.1 (fun i => some (TA (q0.2.1 i)))], [aR c oP nP (fun i => some (PA i))], [aZ c isA isN isF], rowsW c WA nW 7 wF, rowsW c BA nB 9 q0.2.2.1, rowsW c TA nR 4 tF, rowsW c PA nP 2 q0.2.2.2])) 11 120 := by
  refine MJv_of (cc := cX7_end) (nL := 8) RX7 rfl (by decide) rfl (Nat.le_of_ble_eq_true rfl) (fun g C ret => ?_)
  unfold jS_end at h
  refine vv_lv [0, 1, 2] [(0, .ref m0), (1, .ref isA), (2, .int a1)] rfl ?_
  refine vv_iconst C (v := 0) dX7_end_0 (by decide) 1 rfl ?_
  refine vv_istore_n C [(3, .int 0), (0, .ref m0), (1, .ref isA), (2, .int a1)] dX7_end_1 rfl (by decide) rfl 2 rfl ?_
  refine vv_lv [1, 2, 3, 0] [(0, .ref m0), (1, .ref isA), (2, .int a1), (3, .int 0)] rfl ?_
  obtain ⟨hN2, h⟩ := chkP_s h
  have L2 : ∀ (n j2 : Nat) (bF_2 : Nat → Nat → Int32) (pF_2 : Nat → Nat → Int32) (q2 : (Nat → Nat → Int32) × (Nat → Nat → Int32)), j2 + n = isN → jS_end_L2 a1 isF nB nP n j2 bF_2 pF_2 = some q2 → (VV g D 8 0 0 (List.flatten [sO m0 hour ropes broken windX windY oW oB oT oP, [aR c oW nW (fun i => some (WA i))], [aR c oB nB (fun i => some (BA i))], [aR c oT nT (fun i => some (TA (sg i)))], [aR c oP nP (fun i => some (PA i))], [aZ c isA isN isF], rowsW c WA nW 7 wF, rowsW c BA nB 9 q2.1, rowsW c TA nR 4 tF, rowsW c PA nP 2 q2.2]) [(0, .ref m0), (1, .ref isA)] 102 []) → VV g D 8 0 0 (List.flatten [sO m0 hour ropes broken windX windY oW oB oT oP, [aR c oW nW (fun i => some (WA i))], [aR c oB nB (fun i => some (BA i))], [aR c oT nT (fun i => some (TA (sg i)))], [aR c oP nP (fun i => some (PA i))], [aZ c isA isN isF], rowsW c WA nW 7 wF, rowsW c BA nB 9 bF_2, rowsW c TA nR 4 tF, rowsW c PA nP 2 pF_2]) [(0, .ref m0), (1, .ref isA), (2, .int a1), (3, .int (nI j2))] 2 [] := by
    intro n
    induction n with
    | zero =>
      intro j2 bF_2 pF_2 q2 hj2 h kk2
      rw [jS_end_L2] at h
      refine vv_iload_n C dX7_end_2 rfl 3 rfl 3 rfl ?_
      refine vv_aload_n C dX7_end_3 rfl 1 rfl 4 rfl ?_
      refine vs_alenZ C (q0 := 5) rfl dX7_end_4 5 rfl ?_
      refine vv_icmp_ge C 102 8 dX7_end_5 (by decide) rfl (fun hc => ?_) (fun hc => ?_)
      · refine vv_lv [0, 1] [(0, .ref m0), (1, .ref isA)] rfl ?_
        obtain rfl := Option.some.inj h
        exact kk2 
      · exact absurd (nI_le (show isN ≤ j2 by omega) (by omega)) hc
    | succ n ih2 =>
      intro j2 bF_2 pF_2 q2 hj2 h kk2
      rw [jS_end_L2] at h
      refine vv_iload_n C dX7_end_2 rfl 3 rfl 3 rfl ?_
      refine vv_aload_n C dX7_end_3 rfl 1 rfl 4 rfl ?_
      refine vs_alenZ C (q0 := 5) rfl dX7_end_4 5 rfl ?_
      refine vv_icmp_ge C 102 8 dX7_end_5 (by decide) rfl (fun hc => ?_) (fun hc => ?_)
      · exact absurd hc (nI_ge (show j2 < isN by omega) (by omega))
      · refine vv_aload_n C dX7_end_8 rfl 1 rfl 9 rfl ?_
        refine vv_iload_n C dX7_end_9 rfl 3 rfl 10 rfl ?_
        refine vv_zald C (q0 := 5) rfl (nI_in (show j2 < isN by omega) (by omega)) dX7_end_10 11 rfl ?_
        refine vv_if_ne C 17 14 dX7_end_11 (by decide) rfl (fun hc => ?_) (fun hc => ?_)
        · replace h := ite_f hc h
          refine vv_aload_n C dX7_end_17 rfl 0 rfl 18 rfl ?_
          refine vv_get C (q0 := 0) (ci := 7) (k := 6) kinX7_end_X7 rfl rfl (by decide) kwX7_end_1 rfl rfl dX7_end_18 21 rfl ?_
          refine vv_iload_n C dX7_end_21 rfl 3 rfl 22 rfl ?_
          obtain ⟨hi, h⟩ := chk_s h
          have hr_1 := in_lt hi
          refine vs_aald C (q0 := 2) (k := ((nI j2)).toNatClampNeg) rfl hi rfl dX7_end_22 23 rfl ?_
          refine vv_eq (st' := [.ref (BA (((nI j2)).toNatClampNeg))]) rfl rfl rfl ?_
          refine vv_bipush C (v := 6) dX7_end_23 (by decide) 25 rfl ?_
          refine vv_iload_n C dX7_end_25 rfl 2 rfl 26 rfl ?_
          refine vs_iast C (r := ((nI j2)).toNatClampNeg) [sO m0 hour ropes broken windX windY oW oB oT oP, [aR c oW nW (fun i => some (WA i))], [aR c oB nB (fun i => some (BA i))], [aR c oT nT (fun i => some (TA (sg i)))], [aR c oP nP (fun i => some (PA i))], [aZ c isA isN isF], rowsW c WA nW 7 wF, rowsW c BA nB 9 (uF bF_2 (((nI j2)).toNatClampNeg) (wr (bF_2 (((nI j2)).toNatClampNeg)) 6 a1)), rowsW c TA nR 4 tF, rowsW c PA nP 2 pF_2] 7 rfl hr_1 (inB_t (by decide)) rfl dX7_end_26 27 rfl ?_
          refine vv_iload_n C dX7_end_27 rfl 2 rfl 28 rfl ?_
          refine vv_iconst C (v := 1) dX7_end_28 (by decide) 29 rfl ?_
          obtain ⟨k41, hk41, h⟩ := jn_s h
          have J41 : ∀  (x41 : (Nat → Nat → Int32)), k41 x41 = some q2 → VV g D 8 0 0 (List.flatten [sO m0 hour ropes broken windX windY oW oB oT oP, [aR c oW nW (fun i => some (WA i))], [aR c oB nB (fun i => some (BA i))], [aR c oT nT (fun i => some (TA (sg i)))], [aR c oP nP (fun i => some (PA i))], [aZ c isA isN isF], rowsW c WA nW 7 wF, rowsW c BA nB 9 x41, rowsW c TA nR 4 tF, rowsW c PA nP 2 pF_2]) [(0, .ref m0), (1, .ref isA), (2, .int a1), (3, .int (nI j2))] 41 [] := by
            intro x41 h
            replace h := jn_u hk41 h
            refine vv_aload_n C dX7_end_41 rfl 0 rfl 42 rfl ?_
            refine vv_get C (q0 := 0) (ci := 7) (k := 8) kinX7_end_X7 rfl rfl (by decide) kwX7_end_2 rfl rfl dX7_end_42 45 rfl ?_
            refine vv_astore C [(4, .ref oP), (0, .ref m0), (1, .ref isA), (2, .int a1), (3, .int (nI j2))] dX7_end_45 (by decide) rfl 47 rfl ?_
            refine vv_aload C dX7_end_47 0 rfl 49 rfl ?_
            refine vs_alenR C (q0 := 4) rfl dX7_end_49 50 rfl ?_
            refine vv_istore C [(5, .int (nI nP)), (4, .ref oP), (0, .ref m0), (1, .ref isA), (2, .int a1), (3, .int (nI j2))] dX7_end_50 (by decide) rfl 52 rfl ?_
            refine vv_iconst C (v := 0) dX7_end_52 (by decide) 53 rfl ?_
            refine vv_istore C [(6, .int 0), (5, .int (nI nP)), (4, .ref oP), (0, .ref m0), (1, .ref isA), (2, .int a1), (3, .int (nI j2))] dX7_end_53 (by decide) rfl 55 rfl ?_
            refine vv_lv [3, 4, 5, 6, 2, 1, 0] [(0, .ref m0), (1, .ref isA), (2, .int a1), (3, .int (nI j2)), (4, .ref oP), (5, .int (nI nP)), (6, .int 0)] rfl ?_
            obtain ⟨hN55, h⟩ := chkP_s h
            have L55 : ∀ (n j55 : Nat) (pF_55 : Nat → Nat → Int32) (q55 : (Nat → Nat → Int32)), j55 + n = nP → jS_end_L55 a1 (nI j2) n j55 pF_55 = some q55 → (VV g D 8 0 0 (List.flatten [sO m0 hour ropes broken windX windY oW oB oT oP, [aR c oW nW (fun i => some (WA i))], [aR c oB nB (fun i => some (BA i))], [aR c oT nT (fun i => some (TA (sg i)))], [aR c oP nP (fun i => some (PA i))], [aZ c isA isN isF], rowsW c WA nW 7 wF, rowsW c BA nB 9 x41, rowsW c TA nR 4 tF, rowsW c PA nP 2 q55]) [(0, .ref m0), (1, .ref isA), (2, .int a1), (3, .int (nI j2))] 96 []) → VV g D 8 0 0 (List.flatten [sO m0 hour ropes broken windX windY oW oB oT oP, [aR c oW nW (fun i => some (WA i))], [aR c oB nB (fun i => some (BA i))], [aR c oT nT (fun i => some (TA (sg i)))], [aR c oP nP (fun i => some (PA i))], [aZ c isA isN isF], rowsW c WA nW 7 wF, rowsW c BA nB 9 x41, rowsW c TA nR 4 tF, rowsW c PA nP 2 pF_55]) [(0, .ref m0), (1, .ref isA), (2, .int a1), (3, .int (nI j2)), (4, .ref oP), (5, .int (nI nP)), (6, .int (nI j55))] 55 [] := by
              intro n
              induction n with
              | zero =>
                intro j55 pF_55 q55 hj55 h kk55
                rw [jS_end_L55] at h
                refine vv_iload C dX7_end_55 6 rfl 57 rfl ?_
                refine vv_iload C dX7_end_57 5 rfl 59 rfl ?_
                refine vv_icmp_ge C 96 62 dX7_end_59 (by decide) rfl (fun hc => ?_) (fun hc => ?_)
                · refine vv_lv [0, 1, 2, 3] [(0, .ref m0), (1, .ref isA), (2, .int a1), (3, .int (nI j2))] rfl ?_
                  obtain rfl := Option.some.inj h
                  exact kk55 
                · exact absurd (nI_le (show nP ≤ j55 by omega) (by omega)) hc
              | succ n ih55 =>
                intro j55 pF_55 q55 hj55 h kk55
                rw [jS_end_L55] at h
                refine vv_iload C dX7_end_55 6 rfl 57 rfl ?_
                refine vv_iload C dX7_end_57 5 rfl 59 rfl ?_
                refine vv_icmp_ge C 96 62 dX7_end_59 (by decide) rfl (fun hc => ?_) (fun hc => ?_)
                · exact absurd hc (nI_ge (show j55 < nP by omega) (by omega))
                · refine vv_aload C dX7_end_62 4 rfl 64 rfl ?_
                  refine vv_iload C dX7_end_64 6 rfl 66 rfl ?_
                  refine vs_aald C (q0 := 4) (k := j55) rfl (nI_in (show j55 < nP by omega) (by omega)) (nI_clamp (show j55 < 2 ^ 31 by omega)) dX7_end_66 67 rfl ?_
                  refine vv_eq (st' := [.ref (PA j55)]) rfl rfl rfl ?_
                  refine vv_astore C [(7, .ref (PA j55)), (0, .ref m0), (1, .ref isA), (2, .int a1), (3, .int (nI j2)), (4, .ref oP), (5, .int (nI nP)), (6, .int (nI j55))] dX7_end_67 (by decide) rfl 69 rfl ?_
                  refine vv_aload C dX7_end_69 0 rfl 71 rfl ?_
                  refine vv_iconst C (v := 0) dX7_end_71 (by decide) 72 rfl ?_
                  refine vs_iald C (r := j55) 9 rfl (show j55 < nP by omega) (inB_t (by decide)) dX7_end_72 73 rfl ?_
                  refine vv_iload_n C dX7_end_73 rfl 4 rfl 74 rfl ?_
                  refine vv_icmp_eq C 80 77 dX7_end_74 (by decide) rfl (fun hc => ?_) (fun hc => ?_)
                  · replace h := ite_t hc h
                    refine vv_aload C dX7_end_80 0 rfl 82 rfl ?_
                    refine vv_iconst C (v := 0) dX7_end_82 (by decide) 83 rfl ?_
                    refine vv_iconst C (v := (-1)) dX7_end_83 (by decide) 84 rfl ?_
                    refine vs_iast C (r := j55) [sO m0 hour ropes broken windX windY oW oB oT oP, [aR c oW nW (fun i => some (WA i))], [aR c oB nB (fun i => some (BA i))], [aR c oT nT (fun i => some (TA (sg i)))], [aR c oP nP (fun i => some (PA i))], [aZ c isA isN isF], rowsW c WA nW 7 wF, rowsW c BA nB 9 x41, rowsW c TA nR 4 tF, rowsW c PA nP 2 (uF pF_55 j55 (wr (pF_55 j55) 0 (-1)))] 9 rfl (show j55 < nP by omega) (inB_t (by decide)) rfl dX7_end_84 85 rfl ?_
                    refine vv_aload C dX7_end_85 0 rfl 87 rfl ?_
                    refine vv_iconst C (v := 1) dX7_end_87 (by decide) 88 rfl ?_
                    refine vv_iload_n C dX7_end_88 rfl 3 rfl 89 rfl ?_
                    refine vs_iast C (r := j55) [sO m0 hour ropes broken windX windY oW oB oT oP, [aR c oW nW (fun i => some (WA i))], [aR c oB nB (fun i => some (BA i))], [aR c oT nT (fun i => some (TA (sg i)))], [aR c oP nP (fun i => some (PA i))], [aZ c isA isN isF], rowsW c WA nW 7 wF, rowsW c BA nB 9 x41, rowsW c TA nR 4 tF, rowsW c PA nP 2 (uF (uF pF_55 j55 (wr (pF_55 j55) 0 (-1))) j55 (wr ((uF pF_55 j55 (wr (pF_55 j55) 0 (-1))) j55) 1 a1))] 9 rfl (show j55 < nP by omega) (inB_t (by decide)) rfl dX7_end_89 90 rfl ?_
                    refine vv_iinc C (k := 7) [(6, .int (nI (j55 + 1))), (7, .ref (PA j55)), (0, .ref m0), (1, .ref isA), (2, .int a1), (3, .int (nI j2)), (4, .ref oP), (5, .int (nI nP))] dX7_end_90 rfl nI_inc (by decide) rfl 93 rfl ?_
                    refine vv_goto C 55 dX7_end_93 (by decide) ?_
                    refine vv_lv [2, 3, 4, 5, 6, 7, 0] [(0, .ref m0), (1, .ref isA), (2, .int a1), (3, .int (nI j2)), (4, .ref oP), (5, .int (nI nP)), (6, .int (nI (j55 + 1)))] rfl ?_
                    exact ih55 (j55 + 1) (uF (uF pF_55 j55 (wr (pF_55 j55) 0 (-1))) j55 (wr ((uF pF_55 j55 (wr (pF_55 j55) 0 (-1))) j55) 1 a1)) _ (by omega) h kk55
                  · replace h := ite_f hc h
                    refine vv_goto C 90 dX7_end_77 (by decide) ?_
                    refine vv_iinc C (k := 7) [(6, .int (nI (j55 + 1))), (7, .ref (PA j55)), (0, .ref m0), (1, .ref isA), (2, .int a1), (3, .int (nI j2)), (4, .ref oP), (5, .int (nI nP))] dX7_end_90 rfl nI_inc (by decide) rfl 93 rfl ?_
                    refine vv_goto C 55 dX7_end_93 (by decide) ?_
                    refine vv_lv [2, 3, 4, 5, 6, 7, 0] [(0, .ref m0), (1, .ref isA), (2, .int a1), (3, .int (nI j2)), (4, .ref oP), (5, .int (nI nP)), (6, .int (nI (j55 + 1)))] rfl ?_
                    exact ih55 (j55 + 1) pF_55 _ (by omega) h kk55
            obtain ⟨r_4, hr_4, h⟩ := bnd_s h
            refine L55 nP 0 pF_2 r_4 (Nat.zero_add _) hr_4 ?_
            refine vv_iinc C (k := 3) [(3, .int (nI (j2 + 1))), (0, .ref m0), (1, .ref isA), (2, .int a1)] dX7_end_96 rfl nI_inc (by decide) rfl 99 rfl ?_
            refine vv_goto C 2 dX7_end_99 (by decide) ?_
            refine vv_lv [1, 2, 3, 0] [(0, .ref m0), (1, .ref isA), (2, .int a1), (3, .int (nI (j2 + 1)))] rfl ?_
            exact ih2 (j2 + 1) x41 r_4 _ (by omega) h kk2
          refine vv_icmp_ne C 41 32 dX7_end_29 (by decide) rfl (fun hc => ?_) (fun hc => ?_)
          · replace h := ite_f hc h
            exact J41 (uF bF_2 (((nI j2)).toNatClampNeg) (wr (bF_2 (((nI j2)).toNatClampNeg)) 6 a1)) h
          · replace h := ite_t hc h
            refine vv_aload_n C dX7_end_32 rfl 0 rfl 33 rfl ?_
            refine vv_get C (q0 := 0) (ci := 7) (k := 6) kinX7_end_X7 rfl rfl (by decide) kwX7_end_1 rfl rfl dX7_end_33 36 rfl ?_
            refine vv_iload_n C dX7_end_36 rfl 3 rfl 37 rfl ?_
            obtain ⟨hi, h⟩ := chk_s h
            have hr_2 := in_lt hi
            refine vs_aald C (q0 := 2) (k := ((nI j2)).toNatClampNeg) rfl hi rfl dX7_end_37 38 rfl ?_
            refine vv_eq (st' := [.ref (BA (((nI j2)).toNatClampNeg))]) rfl rfl rfl ?_
            refine vv_iconst C (v := 5) dX7_end_38 (by decide) 39 rfl ?_
            refine vv_iconst C (v := 0) dX7_end_39 (by decide) 40 rfl ?_
            refine vs_iast C (r := ((nI j2)).toNatClampNeg) [sO m0 hour ropes broken windX windY oW oB oT oP, [aR c oW nW (fun i => some (WA i))], [aR c oB nB (fun i => some (BA i))], [aR c oT nT (fun i => some (TA (sg i)))], [aR c oP nP (fun i => some (PA i))], [aZ c isA isN isF], rowsW c WA nW 7 wF, rowsW c BA nB 9 (uF (uF bF_2 (((nI j2)).toNatClampNeg) (wr (bF_2 (((nI j2)).toNatClampNeg)) 6 a1)) (((nI j2)).toNatClampNeg) (wr ((uF bF_2 (((nI j2)).toNatClampNeg) (wr (bF_2 (((nI j2)).toNatClampNeg)) 6 a1)) (((nI j2)).toNatClampNeg)) 5 0)), rowsW c TA nR 4 tF, rowsW c PA nP 2 pF_2] 7 rfl hr_2 (inB_t (by decide)) rfl dX7_end_40 41 rfl ?_
            exact J41 (uF (uF bF_2 (((nI j2)).toNatClampNeg) (wr (bF_2 (((nI j2)).toNatClampNeg)) 6 a1)) (((nI j2)).toNatClampNeg) (wr ((uF bF_2 (((nI j2)).toNatClampNeg) (wr (bF_2 (((nI j2)).toNatClampNeg)) 6 a1)) (((nI j2)).toNatClampNeg)) 5 0)) h
        · replace h := ite_t hc h
          refine vv_goto C 96 dX7_end_14 (by decide) ?_
          refine vv_iinc C (k := 3) [(3, .int (nI (j2 + 1))), (0, .ref m0), (1, .ref isA), (2, .int a1)] dX7_end_96 rfl nI_inc (by decide) rfl 99 rfl ?_
          refine vv_goto C 2 dX7_end_99 (by decide) ?_
          refine vv_lv [1, 2, 3, 0] [(0, .ref m0), (1, .ref isA), (2, .int a1), (3, .int (nI (j2 + 1)))] rfl ?_
          exact ih2 (j2 + 1) bF_2 pF_2 _ (by omega) h kk2
  obtain ⟨r_5, hr_5, h⟩ := bnd_s h
  refine L2 isN 0 bF pF r_5 (Nat.zero_add _) hr_5 ?_
  refine vv_iconst C (v := 0) dX7_end_102 (by decide) 103 rfl ?_
  refine vv_anewA C (N := 0) kwX7_end_3 (by decide) (by decide) (by decide) ⟨show 0 + 1 ≤ 11 by omega, show 0 + 0 ≤ 120 by omega⟩ dX7_end_103 106 1 0 rfl ⟨by omega, by omega⟩ (fun q_6 => ?_)
  refine vs_snoc ?_
  refine vs_out (segs' := [sO m0 hour ropes broken windX windY oW oB oT oP, [aR c oW nW (fun i => some (WA i))], [aR c oB nB (fun i => some (BA i))], [aR c oT nT (fun i => some (TA (sg i)))], [aR c oP nP (fun i => some (PA i))], [aZ c isA isN isF], rowsW c WA nW 7 wF, rowsW c BA nB 9 r_5.1, rowsW c TA nR 4 tF, rowsW c PA nP 2 r_5.2, [aR c q_6 0 (fun i => some (TA ((fun _ => 0) i)))]]) 10 rfl (fun i hi => absurd hi (Nat.not_lt_zero i)) rfl ?_
  refine vv_seg [0, 1, 2, 3, 4, 5, 10, 6, 7, 8, 9] [] [sO m0 hour ropes broken windX windY oW oB oT oP, [aR c oW nW (fun i => some (WA i))], [aR c oB nB (fun i => some (BA i))], [aR c oT nT (fun i => some (TA (sg i)))], [aR c oP nP (fun i => some (PA i))], [aZ c isA isN isF], [aR c q_6 0 (fun i => some (TA ((fun _ => 0) i)))], rowsW c WA nW 7 wF, rowsW c BA nB 9 r_5.1, rowsW c TA nR 4 tF, rowsW c PA nP 2 r_5.2] rfl (pm_of (N := 11) rfl (by decide +kernel)) ?_
  refine vv_astore_n C [(3, .ref q_6), (0, .ref m0), (1, .ref isA)] dX7_end_106 rfl (by decide) rfl 107 rfl ?_
  refine vv_aload_n C dX7_end_107 rfl 1 rfl 108 rfl ?_
  refine vv_get C (q0 := 0) (ci := 7) (k := 7) kinX7_end_X7 rfl rfl (by decide) kwX7_end_4 rfl rfl dX7_end_108 111 rfl ?_
  refine vv_astore C [(4, .ref oT), (3, .ref q_6), (0, .ref m0), (1, .ref isA)] dX7_end_111 (by decide) rfl 113 rfl ?_
  refine vv_aload C dX7_end_113 0 rfl 115 rfl ?_
  refine vs_alenR C (q0 := 3) rfl dX7_end_115 116 rfl ?_
  refine vv_istore C [(5, .int (nI nT)), (4, .ref oT), (3, .ref q_6), (0, .ref m0), (1, .ref isA)] dX7_end_116 (by decide) rfl 118 rfl ?_
  refine vv_iconst C (v := 0) dX7_end_118 (by decide) 119 rfl ?_
  refine vv_istore C [(6, .int 0), (5, .int (nI nT)), (4, .ref oT), (3, .ref q_6), (0, .ref m0), (1, .ref isA)] dX7_end_119 (by decide) rfl 121 rfl ?_
  refine vv_lv [4, 5, 3, 2, 1, 0] [(0, .ref m0), (1, .ref isA), (3, .ref q_6), (4, .ref oT), (5, .int (nI nT)), (6, .int 0)] rfl ?_
  obtain ⟨hN121, h⟩ := chkP_s h
  have L121 : ∀ (n j121 : Nat) (a3_121 : Nat) (n3_121 : Nat) (s3_121 : Nat → Nat) (q121 : Nat × (Nat → Nat)), j121 + n = nT → jS_end_L121 sg isF isN nR tF n j121 n3_121 s3_121 = some q121 → (∀ (a3_121e : Nat), VV g D 8 (1 + nT * 1) (0 + nT * 12) (List.flatten [sO m0 hour ropes broken windX windY oW oB oT oP, [aR c oW nW (fun i => some (WA i))], [aR c oB nB (fun i => some (BA i))], [aR c oT nT (fun i => some (TA (sg i)))], [aR c oP nP (fun i => some (PA i))], [aZ c isA isN isF], [aR c a3_121e q121.1 (fun i => some (TA (q121.2 i)))], rowsW c WA nW 7 wF, rowsW c BA nB 9 r_5.1, rowsW c TA nR 4 tF, rowsW c PA nP 2 r_5.2]) [(0, .ref m0), (3, .ref a3_121e)] 157 []) → VV g D 8 (1 + j121 * 1) (0 + j121 * 12) (List.flatten [sO m0 hour ropes broken windX windY oW oB oT oP, [aR c oW nW (fun i => some (WA i))], [aR c oB nB (fun i => some (BA i))], [aR c oT nT (fun i => some (TA (sg i)))], [aR c oP nP (fun i => some (PA i))], [aZ c isA isN isF], [aR c a3_121 n3_121 (fun i => some (TA (s3_121 i)))], rowsW c WA nW 7 wF, rowsW c BA nB 9 r_5.1, rowsW c TA nR 4 tF, rowsW c PA nP 2 r_5.2]) [(0, .ref m0), (1, .ref isA), (3, .ref a3_121), (4, .ref oT), (5, .int (nI nT)), (6, .int (nI j121))] 121 [] := by
    intro n
    induction n with
    | zero =>
      intro j121 a3_121 n3_121 s3_121 q121 hj121 h kk121
      rw [jS_end_L121] at h
      refine vv_iload C dX7_end_121 5 rfl 123 rfl ?_
      refine vv_iload C dX7_end_123 4 rfl 125 rfl ?_
      refine vv_icmp_ge C 157 128 dX7_end_125 (by decide) rfl (fun hc => ?_) (fun hc => ?_)
      · refine vv_lv [0, 2] [(0, .ref m0), (3, .ref a3_121)] rfl ?_
        refine vv_widen (k := 1 + nT * 1) (n := 0 + nT * 12) (by omega) (by omega) ?_
        obtain rfl := Option.some.inj h
        exact kk121 a3_121
      · exact absurd (nI_le (show nT ≤ j121 by omega) (by omega)) hc
    | succ n ih121 =>
      intro j121 a3_121 n3_121 s3_121 q121 hj121 h kk121
      rw [jS_end_L121] at h
      refine vv_iload C dX7_end_121 5 rfl 123 rfl ?_
      refine vv_iload C dX7_end_123 4 rfl 125 rfl ?_
      refine vv_icmp_ge C 157 128 dX7_end_125 (by decide) rfl (fun hc => ?_) (fun hc => ?_)
      · exact absurd hc (nI_ge (show j121 < nT by omega) (by omega))
      · refine vv_aload C dX7_end_128 3 rfl 130 rfl ?_
        refine vv_iload C dX7_end_130 5 rfl 132 rfl ?_
        obtain ⟨hr_7, h⟩ := chkP_s h
        refine vs_aald C (q0 := 3) (k := j121) rfl (nI_in (show j121 < nT by omega) (by omega)) (nI_clamp (show j121 < 2 ^ 31 by omega)) dX7_end_132 133 rfl ?_
        refine vv_eq (st' := [.ref (TA (sg j121))]) rfl rfl rfl ?_
        refine vv_astore C [(7, .ref (TA (sg j121))), (0, .ref m0), (1, .ref isA), (3, .ref a3_121), (4, .ref oT), (5, .int (nI nT)), (6, .int (nI j121))] dX7_end_133 (by decide) rfl 135 rfl ?_
        refine vv_aload_n C dX7_end_135 rfl 2 rfl 136 rfl ?_
        refine vv_aload C dX7_end_136 0 rfl 138 rfl ?_
        refine vv_iconst C (v := 0) dX7_end_138 (by decide) 139 rfl ?_
        refine vs_iald C (r := sg j121) 9 rfl hr_7 (inB_t (by decide)) dX7_end_139 140 rfl ?_
        obtain ⟨hi, h⟩ := chk_s h
        refine vv_zald C (q0 := 5) rfl hi dX7_end_140 141 rfl ?_
        refine vv_if_ne C 151 144 dX7_end_141 (by decide) rfl (fun hc => ?_) (fun hc => ?_)
        · replace h := ite_f hc h
          refine vv_iinc C (k := 6) [(6, .int (nI (j121 + 1))), (7, .ref (TA (sg j121))), (0, .ref m0), (1, .ref isA), (3, .ref a3_121), (4, .ref oT), (5, .int (nI nT))] dX7_end_151 rfl nI_inc (by decide) rfl 154 rfl ?_
          refine vv_goto C 121 dX7_end_154 (by decide) ?_
          refine vv_lv [2, 3, 4, 5, 6, 0] [(0, .ref m0), (1, .ref isA), (3, .ref a3_121), (4, .ref oT), (5, .int (nI nT)), (6, .int (nI (j121 + 1)))] rfl ?_
          refine vv_widen (k := 1 + (j121 + 1) * 1) (n := 0 + (j121 + 1) * 12) (by omega) (by omega) ?_
          exact ih121 (j121 + 1) a3_121 n3_121 s3_121 _ (by omega) h kk121
        · replace h := ite_t hc h
          refine vv_aload_n C dX7_end_144 rfl 3 rfl 145 rfl ?_
          refine vv_aload C dX7_end_145 0 rfl 147 rfl ?_
          obtain ⟨hs_8, h⟩ := chkP_s h
          obtain ⟨hn_9, h⟩ := chkP_s h
          refine vs_callSq C (S := Nat) (fun l => mt_X7_more l D c 12 (by decide) a3_121 n3_121 TA nR 4 tF s3_121 (sg j121) hs_8 hr_7 hn_9) gX7_end_X7_more rfl rfl rfl yd_X7_more ⟨Nat.le_of_ble_eq_true rfl, Nat.le_of_ble_eq_true rfl⟩ (List.flatten [sO m0 hour ropes broken windX windY oW oB oT oP, [aR c oW nW (fun i => some (WA i))], [aR c oB nB (fun i => some (BA i))], [aR c oT nT (fun i => some (TA (sg i)))], [aR c oP nP (fun i => some (PA i))], [aZ c isA isN isF], rowsW c WA nW 7 wF, rowsW c BA nB 9 r_5.1, rowsW c PA nP 2 r_5.2]) (sg_pick2 [0, 1, 2, 3, 4, 5, 7, 8, 10] [6, 9] rfl rfl (pm_of (N := 11) rfl (by decide +kernel))) rfl [] rfl (Nat.le_of_ble_eq_true rfl) ⟨show (1 + j121 * 1) + 1 ≤ 11 by omega, show (0 + j121 * 12) + 12 ≤ 120 by omega⟩ dX7_end_147 150 ((1 + j121 * 1) + 1) ((0 + j121 * 12) + 12) rfl ⟨by omega, by omega⟩ (fun q_10 _ => ?_)
          refine vs_app ?_
          refine vv_seg [0, 1, 2, 3, 4, 5, 9, 10, 6, 7, 11, 8] [] [sO m0 hour ropes broken windX windY oW oB oT oP, [aR c oW nW (fun i => some (WA i))], [aR c oB nB (fun i => some (BA i))], [aR c oT nT (fun i => some (TA (sg i)))], [aR c oP nP (fun i => some (PA i))], [aZ c isA isN isF], [aR c a3_121 n3_121 (fun i => some (TA (s3_121 i)))], [aR c q_10 (n3_121 + 1) (fun i => some (TA (uN s3_121 n3_121 (sg j121) i)))], rowsW c WA nW 7 wF, rowsW c BA nB 9 r_5.1, rowsW c TA nR 4 tF, rowsW c PA nP 2 r_5.2] rfl (pm_of (N := 12) rfl (by decide +kernel)) ?_
          refine vv_astore_n C [(3, .ref q_10), (7, .ref (TA (sg j121))), (0, .ref m0), (1, .ref isA), (4, .ref oT), (5, .int (nI nT)), (6, .int (nI j121))] dX7_end_150 rfl (by decide) rfl 151 rfl ?_
          refine vv_iinc C (k := 6) [(6, .int (nI (j121 + 1))), (3, .ref q_10), (7, .ref (TA (sg j121))), (0, .ref m0), (1, .ref isA), (4, .ref oT), (5, .int (nI nT))] dX7_end_151 rfl nI_inc (by decide) rfl 154 rfl ?_
          refine vv_goto C 121 dX7_end_154 (by decide) ?_
          refine vv_lv [3, 4, 1, 5, 6, 0] [(0, .ref m0), (1, .ref isA), (3, .ref q_10), (4, .ref oT), (5, .int (nI nT)), (6, .int (nI (j121 + 1)))] rfl ?_
          refine vv_seg [0, 1, 2, 3, 4, 5, 7, 8, 9, 10, 11] [6] [sO m0 hour ropes broken windX windY oW oB oT oP, [aR c oW nW (fun i => some (WA i))], [aR c oB nB (fun i => some (BA i))], [aR c oT nT (fun i => some (TA (sg i)))], [aR c oP nP (fun i => some (PA i))], [aZ c isA isN isF], [aR c q_10 (n3_121 + 1) (fun i => some (TA (uN s3_121 n3_121 (sg j121) i)))], rowsW c WA nW 7 wF, rowsW c BA nB 9 r_5.1, rowsW c TA nR 4 tF, rowsW c PA nP 2 r_5.2] rfl (pm_of (N := 12) rfl (by decide +kernel)) ?_
          refine vv_widen (k := 1 + (j121 + 1) * 1) (n := 0 + (j121 + 1) * 12) (by omega) (by omega) ?_
          exact ih121 (j121 + 1) q_10 (n3_121 + 1) (uN s3_121 n3_121 (sg j121)) _ (by omega) h kk121
  obtain ⟨r_11, hr_11, h⟩ := bnd_s h
  refine vv_cs (k := 1 + 0 * 1) (n := 0 + 0 * 12) (by omega) (by omega) ?_
  refine L121 nT 0 q_6 0 (fun _ => 0) r_11 (Nat.zero_add _) hr_11 ?_
  intro a3_121e
  refine vv_widen (k := 11) (n := 120) (by omega) (by omega) ?_
  refine vv_aload_n C dX7_end_157 rfl 0 rfl 158 rfl ?_
  refine vv_aload_n C dX7_end_158 rfl 1 rfl 159 rfl ?_
  refine vv_put C (q0 := 0) (ci := 7) (k := 7) (ty := (.array (.array .int))) (List.flatten [sO m0 hour ropes broken windX windY oW oB a3_121e oP, [aR c oW nW (fun i => some (WA i))], [aR c oB nB (fun i => some (BA i))], [aR c oT nT (fun i => some (TA (sg i)))], [aR c oP nP (fun i => some (PA i))], [aZ c isA isN isF], [aR c a3_121e r_11.1 (fun i => some (TA (r_11.2 i)))], rowsW c WA nW 7 wF, rowsW c BA nB 9 r_5.1, rowsW c TA nR 4 tF, rowsW c PA nP 2 r_5.2]) tyX7 tyX7_ok nmX7 kinX7_end_X7 rfl rfl (by decide) kwX7_end_4 rfl rfl rfl rfl rfl (Nat.le_of_ble_eq_true rfl) rfl dX7_end_159 162 rfl ?_
  obtain rfl := Option.some.inj h
  refine vv_seg [0, 1, 2, 6, 4, 5, 7, 8, 9, 10] [3] [sO m0 hour ropes broken windX windY oW oB a3_121e oP, [aR c oW nW (fun i => some (WA i))], [aR c oB nB (fun i => some (BA i))], [aR c a3_121e r_11.1 (fun i => some (TA (r_11.2 i)))], [aR c oP nP (fun i => some (PA i))], [aZ c isA isN isF], rowsW c WA nW 7 wF, rowsW c BA nB 9 r_5.1, rowsW c TA nR 4 tF, rowsW c PA nP 2 r_5.2] rfl (pm_of (N := 11) rfl (by decide +kernel)) ?_
  refine vv_widen (k := 11) (n := 120) (by omega) (by omega) ?_
  exact ret a3_121e trivial _ _ dX7_end_162
