theorem uN_id {n : Nat} {i : Nat} : uN (fun i => i) n n i = i := by
  unfold uN
  by_cases h : i = n
  · rw [if_pos h, h]
  · rw [if_neg h]
theorem nI_cl {x : Int32} (h : ¬ x < 0) : nI x.toNatClampNeg = x := by
  obtain ⟨j, hj, rfl⟩ := nI_of h
  rw [nI_clamp hj]
/-! the law's own raft is made -/
abbrev rmX7_init : Room := { frames := 1, cells := 4, slots := 0, locals := 20 }
theorem yd_X7_init : yX7_init.cls ≠ "java/lang/invoke/MethodHandle" ∧ yX7_init.cls ≠ "java/lang/invoke/VarHandle" ∧ (parseMethodDescriptor yX7_init.desc).map (fun d => d.parameters.length) = some 0 := by decide +kernel
theorem kwX7_init_1 : Cond.methodLink RX7 1 objectInit ∈ wsX7_init := List.mem_of_getElem? (i := 1) rfl
theorem kwX7_init_2 : Cond.instanceMethod objectInit ∈ wsX7_init := List.mem_of_getElem? (i := 2) rfl
theorem kwX7_init_3 : Cond.code objectInit ⟨#[0xb1]⟩ 1 none ∈ wsX7_init := List.mem_of_getElem? (i := 3) rfl
theorem kwX7_init_4 : Cond.fieldLink RX7 7 "BarrelRaftLaw$Sim" "ropes" "I" ∈ wsX7_init := List.mem_of_getElem? (i := 4) rfl
theorem kwX7_init_5 : Cond.classLink RX7 13 "[I" ∈ wsX7_init := List.mem_of_getElem? (i := 5) rfl
theorem kwX7_init_6 : Cond.fieldLink RX7 15 "BarrelRaftLaw$Sim" "waters" "[[I" ∈ wsX7_init := List.mem_of_getElem? (i := 6) rfl
theorem kwX7_init_7 : Cond.fieldLink RX7 19 "BarrelRaftLaw$Sim" "barrels" "[[I" ∈ wsX7_init := List.mem_of_getElem? (i := 7) rfl
theorem kwX7_init_8 : Cond.fieldLink RX7 22 "BarrelRaftLaw$Sim" "ties" "[[I" ∈ wsX7_init := List.mem_of_getElem? (i := 8) rfl
theorem kwX7_init_9 : Cond.fieldLink RX7 25 "BarrelRaftLaw$Sim" "people" "[[I" ∈ wsX7_init := List.mem_of_getElem? (i := 9) rfl
set_option maxRecDepth 20000 in
theorem kinX7_init_X7 : ∀ w ∈ u_ws RX7 TX7 9, w ∈ wsX7_init := by decide +kernel
set_option maxHeartbeats 4000000 in
set_option maxRecDepth 100000 in
theorem mt_X7_init (l : Launch) (D : va_G) (c : Nat → ClassId) (a : Nat) : MJv l yX7_init wsX7_init rmX7_init D c [(a, .inr (7, [.int 0, .int 0, .int 0, .int 0, .int 0, .null, .null, .null, .null]))] [.ref a] (fun (_ : Nat × Nat × Nat × Nat) => True) (fun u => List.flatten [sO a 0 10 0 0 0 u.1 u.2.1 u.2.2.1 u.2.2.2, [aR c u.1 0 (fun _ => none)], [aR c u.2.1 0 (fun _ => none)], [aR c u.2.2.1 0 (fun _ => none)], [aR c u.2.2.2 0 (fun _ => none)]]) 4 0 := by
  refine MJv_ofI (cc := cX7_init) (nL := 1) RX7 rfl rfl (by decide) rfl (Nat.le_of_ble_eq_true rfl) (fun g C CI ret => ?_)
  refine vv_lv [0] [(0, .ref a)] rfl ?_
  refine vv_eq (ws' := List.flatten [[(a, .inr (7, [.int 0, .int 0, .int 0, .int 0, .int 0, .null, .null, .null, .null]))]]) rfl rfl rfl ?_
  refine vv_aload_n C dX7_init_0 rfl 0 rfl 1 rfl ?_
  refine vv_objInit C kwX7_init_1 kwX7_init_2 kwX7_init_3 ⟨Nat.le_of_ble_eq_true rfl, Nat.le_of_ble_eq_true rfl⟩ dX7_init_1 4 rfl ?_
  refine vv_aload_n C dX7_init_4 rfl 0 rfl 5 rfl ?_
  refine vv_bipush C (v := 10) dX7_init_5 (by decide) 7 rfl ?_
  refine vv_put C (q0 := 0) (ci := 7) (k := 1) (ty := .int) (List.flatten [[(a, .inr (7, [.int 0, .int 10, .int 0, .int 0, .int 0, .null, .null, .null, .null]))]]) tyX7 tyX7_ok nmX7 kinX7_init_X7 rfl rfl (by decide) kwX7_init_4 rfl rfl rfl rfl rfl (Nat.le_of_ble_eq_true rfl) rfl dX7_init_7 10 rfl ?_
  refine vv_aload_n C dX7_init_10 rfl 0 rfl 11 rfl ?_
  refine vv_iconst C (v := 0) dX7_init_11 (by decide) 12 rfl ?_
  refine vv_anewA C (N := 0) kwX7_init_5 (by decide) (by decide) (by decide) ⟨Nat.le_of_ble_eq_true rfl, Nat.le_of_ble_eq_true rfl⟩ dX7_init_12 15 1 0 rfl ⟨rfl, rfl⟩ (fun q0 => ?_)
  refine vs_snoc ?_
  refine vv_put C (q0 := 0) (ci := 7) (k := 5) (ty := .array (.array .int)) (List.flatten [[(a, .inr (7, [.int 0, .int 10, .int 0, .int 0, .int 0, .ref q0, .null, .null, .null]))], [aR c q0 0 (fun _ => none)]]) tyX7 tyX7_ok nmX7 kinX7_init_X7 rfl rfl (by decide) kwX7_init_6 rfl rfl rfl rfl rfl (Nat.le_of_ble_eq_true rfl) rfl dX7_init_15 18 rfl ?_
  refine vv_aload_n C dX7_init_18 rfl 0 rfl 19 rfl ?_
  refine vv_iconst C (v := 0) dX7_init_19 (by decide) 20 rfl ?_
  refine vv_anewA C (N := 0) kwX7_init_5 (by decide) (by decide) (by decide) ⟨Nat.le_of_ble_eq_true rfl, Nat.le_of_ble_eq_true rfl⟩ dX7_init_20 23 2 0 rfl ⟨rfl, rfl⟩ (fun q1 => ?_)
  refine vs_snoc ?_
  refine vv_put C (q0 := 0) (ci := 7) (k := 6) (ty := .array (.array .int)) (List.flatten [[(a, .inr (7, [.int 0, .int 10, .int 0, .int 0, .int 0, .ref q0, .ref q1, .null, .null]))], [aR c q0 0 (fun _ => none)], [aR c q1 0 (fun _ => none)]]) tyX7 tyX7_ok nmX7 kinX7_init_X7 rfl rfl (by decide) kwX7_init_7 rfl rfl rfl rfl rfl (Nat.le_of_ble_eq_true rfl) rfl dX7_init_23 26 rfl ?_
  refine vv_aload_n C dX7_init_26 rfl 0 rfl 27 rfl ?_
  refine vv_iconst C (v := 0) dX7_init_27 (by decide) 28 rfl ?_
  refine vv_anewA C (N := 0) kwX7_init_5 (by decide) (by decide) (by decide) ⟨Nat.le_of_ble_eq_true rfl, Nat.le_of_ble_eq_true rfl⟩ dX7_init_28 31 3 0 rfl ⟨rfl, rfl⟩ (fun q2 => ?_)
  refine vs_snoc ?_
  refine vv_put C (q0 := 0) (ci := 7) (k := 7) (ty := .array (.array .int)) (List.flatten [[(a, .inr (7, [.int 0, .int 10, .int 0, .int 0, .int 0, .ref q0, .ref q1, .ref q2, .null]))], [aR c q0 0 (fun _ => none)], [aR c q1 0 (fun _ => none)], [aR c q2 0 (fun _ => none)]]) tyX7 tyX7_ok nmX7 kinX7_init_X7 rfl rfl (by decide) kwX7_init_8 rfl rfl rfl rfl rfl (Nat.le_of_ble_eq_true rfl) rfl dX7_init_31 34 rfl ?_
  refine vv_aload_n C dX7_init_34 rfl 0 rfl 35 rfl ?_
  refine vv_iconst C (v := 0) dX7_init_35 (by decide) 36 rfl ?_
  refine vv_anewA C (N := 0) kwX7_init_5 (by decide) (by decide) (by decide) ⟨Nat.le_of_ble_eq_true rfl, Nat.le_of_ble_eq_true rfl⟩ dX7_init_36 39 4 0 rfl ⟨rfl, rfl⟩ (fun q3 => ?_)
  refine vs_snoc ?_
  refine vv_put C (q0 := 0) (ci := 7) (k := 8) (ty := .array (.array .int)) (List.flatten [[(a, .inr (7, [.int 0, .int 10, .int 0, .int 0, .int 0, .ref q0, .ref q1, .ref q2, .ref q3]))], [aR c q0 0 (fun _ => none)], [aR c q1 0 (fun _ => none)], [aR c q2 0 (fun _ => none)], [aR c q3 0 (fun _ => none)]]) tyX7 tyX7_ok nmX7 kinX7_init_X7 rfl rfl (by decide) kwX7_init_9 rfl rfl rfl rfl rfl (Nat.le_of_ble_eq_true rfl) rfl dX7_init_39 42 rfl ?_
  exact ret (q0, q1, q2, q3) trivial _ _ dX7_init_42
