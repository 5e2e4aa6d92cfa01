abbrev wJ7_fill_53178 (c : Nat → ClassId) (A : Nat → Nat) (An : Nat) (A_f : Nat → Int32) : va_W := [aI c (A 0) An A_f]
abbrev rmJ7_fill_53178 : Room := { frames := 0, cells := 0, slots := 0, locals := 0 }
theorem yd_J7_fill_53178 : yJ7_fill_53178.cls ≠ "java/lang/invoke/MethodHandle" ∧ yJ7_fill_53178.cls ≠ "java/lang/invoke/VarHandle" ∧ (parseMethodDescriptor yJ7_fill_53178.desc).map (fun d => d.parameters.length) = some 2 := by decide +kernel
def jJ7_fill_53178_L5 (An : Nat) (u1 : Int32) (u3 : Int32) (n : Nat) (A_f_5 : Nat → Int32) (v2_5 : Int32) : Option ((Nat → Int32)) :=
  match n with
  | 0 => none
  | n + 1 => (if u3 ≤ v2_5 then some A_f_5 else chk An v2_5 (jJ7_fill_53178_L5 An u1 u3 n (wr A_f_5 v2_5 u1) (v2_5 + 1)))
def jJ7_fill_53178 (An : Nat) (A_f : Nat → Int32) (a1 : Int32) : Option ((Nat → Int32)) :=
  bnd (jJ7_fill_53178_L5 An a1 (nI An) FU A_f 0) (fun r1 => some r1)
set_option maxHeartbeats 4000000 in
set_option maxRecDepth 100000 in
theorem mt_J7_fill_53178 (l : Launch) (D : va_G) (c : Nat → ClassId) (A : Nat → Nat) (An : Nat) (A_f : Nat → Int32) (a1 : Int32) (q0 : (Nat → Int32)) (h : jJ7_fill_53178 An A_f a1 = some q0) : DTv l yJ7_fill_53178 wsJ7_fill_53178 rmJ7_fill_53178 D c (wJ7_fill_53178 c A An A_f) [.ref (A 0), .int a1] (wJ7_fill_53178 c A An q0) 0 0 := by
  refine DTv_of (cc := cJ7_fill_53178) (nL := 4) RJ7 rfl (by decide) rfl (Nat.le_of_ble_eq_true rfl) (fun g C ret => ?_)
  unfold jJ7_fill_53178 at h
  refine vv_lv [0, 1] [(0, .ref (A 0)), (1, .int a1)] rfl ?_
  refine vv_iconst C (v := 0) dJ7_fill_53178_0 (by decide) 1 rfl ?_
  refine vv_istore_n C [(2, .int 0), (0, .ref (A 0)), (1, .int a1)] dJ7_fill_53178_1 rfl (by decide) rfl 2 rfl ?_
  refine vv_aload_n C dJ7_fill_53178_2 rfl 1 rfl 3 rfl ?_
  refine vv_alen C (q0 := 0) rfl dJ7_fill_53178_3 4 rfl ?_
  refine vv_istore_n C [(3, .int (nI An)), (2, .int 0), (0, .ref (A 0)), (1, .int a1)] dJ7_fill_53178_4 rfl (by decide) rfl 5 rfl ?_
  refine vv_lv [2, 3, 1, 0] [(0, .ref (A 0)), (1, .int a1), (2, .int 0), (3, .int (nI An))] rfl ?_
  have L5 : ∀ (n : Nat) (A_f_5 : Nat → Int32) (v2_5 : Int32) (q5 : (Nat → Int32)), jJ7_fill_53178_L5 An a1 (nI An) n A_f_5 v2_5 = some q5 → (VV g D 4 0 0 (wJ7_fill_53178 c A An q5) [] 20 []) → VV g D 4 0 0 (wJ7_fill_53178 c A An A_f_5) [(0, .ref (A 0)), (1, .int a1), (2, .int v2_5), (3, .int (nI An))] 5 [] := by
    intro n
    induction n with
    | zero =>
      intro A_f_5 v2_5 q5 h _
      rw [jJ7_fill_53178_L5] at h
      cases h
    | succ n ih5 =>
      intro A_f_5 v2_5 q5 h kk5
      rw [jJ7_fill_53178_L5] at h
      refine vv_iload_n C dJ7_fill_53178_5 rfl 2 rfl 6 rfl ?_
      refine vv_iload_n C dJ7_fill_53178_6 rfl 3 rfl 7 rfl ?_
      refine vv_icmp_ge C 20 10 dJ7_fill_53178_7 (by decide) rfl (fun hc => ?_) (fun hc => ?_)
      · replace h := ite_t hc h
        refine vv_lv [] [] rfl ?_
        obtain rfl := Option.some.inj h
        exact kk5
      · replace h := ite_f hc h
        refine vv_aload_n C dJ7_fill_53178_10 rfl 0 rfl 11 rfl ?_
        refine vv_iload_n C dJ7_fill_53178_11 rfl 2 rfl 12 rfl ?_
        refine vv_iload_n C dJ7_fill_53178_12 rfl 1 rfl 13 rfl ?_
        obtain ⟨hi, h⟩ := chk_s h
        refine vv_iast C (q0 := 0) (wJ7_fill_53178 c A An (wr A_f_5 v2_5 a1)) rfl hi rfl dJ7_fill_53178_13 14 rfl ?_
        refine vv_iinc C (k := 2) [(2, .int (v2_5 + 1)), (0, .ref (A 0)), (1, .int a1), (3, .int (nI An))] dJ7_fill_53178_14 rfl rfl (by decide) rfl 17 rfl ?_
        refine vv_goto C 5 dJ7_fill_53178_17 (by decide) ?_
        refine vv_lv [1, 2, 0, 3] [(0, .ref (A 0)), (1, .int a1), (2, .int (v2_5 + 1)), (3, .int (nI An))] rfl ?_
        exact ih5 (wr A_f_5 v2_5 a1) (v2_5 + 1) _ h kk5
  obtain ⟨r1, hr1, h⟩ := bnd_s h
  refine L5 FU A_f 0 r1 hr1 ?_
  obtain rfl := Option.some.inj h
  exact ret _ _ dJ7_fill_53178_20
