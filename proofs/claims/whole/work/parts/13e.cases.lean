set_option maxHeartbeats 4000000 in
set_option maxRecDepth 100000 in
theorem law_digest {g : CtxT} {D : va_G} {c : Nat → ClassId} {b L : Nat} {xs : Nat → Int32} (C : CX g D c cL_law RL wsL_law 9 room_1) (XS : SXc b L xs g) (XW : WXL g) (X W R B K Q T TB TK TQ Y : Nat → Nat) (m0 : Nat) (M : Nat → Nat) (o : Nat) (S : Nat → Nat → Int32) (f : Nat → Int64) (v4 : Int32) (hin : ∀ j : Nat, j < 8 → vp_in (v4 + nI j) L) (hR : Rel S) (cells slots : Nat) (hroom : cells + 67 ≤ 601024 ∧ slots + 14262 ≤ 7293034)
    (K1 : ∀ (S' : Nat → Nat → Int32) (f' : Nat → Int64) (M' : Nat → Nat) (a b' : Nat), Rel S' → Cost S S' a b' → VV g D 9 (cells + a) (slots + b') (wLaw c X W R B K Q T TB TK TQ Y m0 M' o S' f') [(0, .ref b), (1, .ref (X 0)), (2, .ref m0), (3, .ref o), (4, .int v4)] 1623 []) : VV g D 9 cells slots (wLaw c X W R B K Q T TB TK TQ Y m0 M o S f) [(0, .ref b), (1, .ref (X 0)), (2, .ref m0), (3, .ref o), (4, .int v4)] 1609 [] := by
  obtain ⟨q, q', hA, hB, hret, hRel⟩ := sim_digest S hR
  refine vv_aload_n C dL_law_1609 rfl 1 rfl 1610 rfl ?_
  refine vv_callVl C (fun l => mt_X6_digest l D c X W R B K Q T Y (S 0 0) (S 10 0) (S 11 0) (S 23 0) (S 12) (S 13) (S 14) (S 15) (S 16) (S 17) (S 18) (S 19) (S 20) (S 21) (S 22) (S 26 0) (S 24) (S 25) (S 31 0) (S 27) (S 28) (S 29) (S 30) q hA) gL_law_X6_digest rfl rfl rfl yd_X6_digest ⟨Nat.le_of_ble_eq_true rfl, Nat.le_of_ble_eq_true rfl⟩ [0, 6, 9, 10, 11, 12, 13, 14, 15, 16, 17, 18, 19, 20, 21, 22, 23, 24, 25, 26, 27, 28] rfl (by decide) 0 rfl rfl (wLaw c X W R B K Q T TB TK TQ Y m0 M o S f) [(true, 0), (false, 1), (false, 2), (false, 3), (false, 4), (false, 5), (true, 1), (false, 7), (false, 8), (true, 2), (true, 3), (true, 4), (true, 5), (true, 6), (true, 7), (true, 8), (true, 9), (true, 10), (true, 11), (true, 12), (true, 13), (true, 14), (true, 15), (true, 16), (true, 17), (true, 18), (true, 19), (true, 20), (true, 21), (false, 29), (false, 30), (false, 31), (false, 32), (false, 33), (false, 34), (false, 35), (false, 36), (false, 37), (false, 38), (false, 39), (false, 40), (false, 41), (false, 42), (false, 43), (false, 44), (false, 45), (false, 46), (false, 47), (false, 48), (false, 49), (false, 50), (false, 51), (false, 52), (false, 53), (false, 54), (false, 55), (false, 56), (false, 57), (false, 58), (false, 59), (false, 60), (false, 61), (false, 62), (false, 63), (false, 64), (false, 65), (false, 66), (false, 67), (false, 68), (false, 69), (false, 70)] rfl (by decide) rfl rfl [] rfl (Nat.le_of_ble_eq_true rfl) ⟨show cells + 0 ≤ 601024 by omega, show slots + 0 ≤ 7293034 by omega⟩ dL_law_1610 1613 cells slots rfl ⟨rfl, rfl⟩ ?_
  refine vv_aload_n C dL_law_1613 rfl 2 rfl 1614 rfl ?_
  refine vv_callVl C (fun l => mt_X7_digest l D c (mA m0 M) (S 60 0) (S 61 0) (S 63 0) (S 64 0) (S 65 0) (S 67 0) (S 66) (S 68) (S 69) (S 70) (S 71) (S 72) (S 73) q' hB) gL_law_X7_digest rfl rfl rfl yd_X7_digest ⟨Nat.le_of_ble_eq_true rfl, Nat.le_of_ble_eq_true rfl⟩ [57, 59, 60, 61, 62, 63, 64, 65] rfl (by decide) 0 rfl rfl (wLaw c X W R B K Q T TB TK TQ Y m0 M o (up (up S 60 (fun _ => q'.2.1)) 73 q'.2.2) f) [(false, 0), (false, 1), (false, 2), (false, 3), (false, 4), (false, 5), (false, 6), (false, 7), (false, 8), (false, 9), (false, 10), (false, 11), (false, 12), (false, 13), (false, 14), (false, 15), (false, 16), (false, 17), (false, 18), (false, 19), (false, 20), (false, 21), (false, 22), (false, 23), (false, 24), (false, 25), (false, 26), (false, 27), (false, 28), (false, 29), (false, 30), (false, 31), (false, 32), (false, 33), (false, 34), (false, 35), (false, 36), (false, 37), (false, 38), (false, 39), (false, 40), (false, 41), (false, 42), (false, 43), (false, 44), (false, 45), (false, 46), (false, 47), (false, 48), (false, 49), (false, 50), (false, 51), (false, 52), (false, 53), (false, 54), (false, 55), (false, 56), (true, 0), (false, 58), (true, 1), (true, 2), (true, 3), (true, 4), (true, 5), (true, 6), (true, 7), (false, 66), (false, 67), (false, 68), (false, 69), (false, 70)] rfl (by decide) rfl rfl [.long q] rfl (Nat.le_of_ble_eq_true rfl) ⟨show cells + 0 ≤ 601024 by omega, show slots + 0 ≤ 7293034 by omega⟩ dL_law_1614 1617 cells slots rfl ⟨rfl, rfl⟩ ?_
  refine vv_lcmp C dL_law_1617 1618 rfl ?_
  refine vv_if_eq C 1623 1621 dL_law_1618 (by decide) rfl (fun _ => ?_) (fun hc => absurd (by rw [hret]; exact lcmp_self _) hc)
  exact K1 _ _ _ 0 0 hRel ⟨by omega, by omega, Or.inl (by omega)⟩
theorem fp_cmp_self (a : Int) : compare a a = Ordering.eq := by
  simp [compare, compareOfLessAndEq]
theorem fp_self {x : FP.Core.Datum} (h : x ≠ .nan) : FP.Core.order x x = some .eq := by
  cases x with
  | nan => exact absurd rfl h
  | inf => exact congrArg some (fp_cmp_self _)
  | fin s c q => exact congrArg some (fp_cmp_self _)
theorem nan64 {b : UInt64} (h : isNaN64 b = true) : FP.Core.decode FP.Core.b64 b.toNat = .nan := by
  have h1 : 0x7ff0000000000000 < b.toNat % 2 ^ 63 := by
    have := h
    simp only [isNaN64, decide_eq_true_eq, gt_iff_lt, UInt64.lt_iff_toNat_lt, UInt64.toNat_and] at this
    rw [← Nat.and_two_pow_sub_one_eq_mod]
    exact this
  unfold FP.Core.decode
  have e1 : FP.Core.fieldE FP.Core.b64 b.toNat = FP.Core.b64.exps - 1 := by
    show b.toNat / 2 ^ 52 % 2048 = 2047
    omega
  have e2 : ¬ FP.Core.fieldT FP.Core.b64 b.toNat = 0 := by
    show ¬ b.toNat % 2 ^ 52 = 0
    omega
  rw [if_pos e1, if_neg e2]
theorem nan_cmp {r : UInt64} (h : FP.Core.decode FP.Core.b64 r.toNat = .nan) : ¬ Op.cmpValue (FP.dcmp r r) CmpOp.l = 0 := by
  have e : FP.dcmp r r = none := by
    show FP.Core.order (FP.Core.decode FP.Core.b64 r.toNat) (FP.Core.decode FP.Core.b64 r.toNat) = none
    rw [h]
    rfl
  rw [e]
  decide
theorem num_cmp {r : UInt64} (h : FP.Core.decode FP.Core.b64 r.toNat ≠ .nan) : Op.cmpValue (FP.dcmp r r) CmpOp.l = 0 := by
  have e : FP.dcmp r r = some .eq := fp_self h
  rw [e]
  decide
theorem spare_nan {q q1 : Int32 × Int32} {r1 r2 : UInt64} (h1 : SPR q r1) (h2 : SPR q1 r2) (hz : q.2 = 0 ↔ q1.2 = 0) (hq : ¬ q.2 = 0 → q1 = q) (hc : ¬ Op.cmpValue (FP.dcmp r1 r2) CmpOp.l = 0) : ¬ Op.cmpValue (FP.dcmp r1 r1) CmpOp.l = 0 ∧ ¬ Op.cmpValue (FP.dcmp r2 r2) CmpOp.l = 0 := by
  obtain ⟨a0, a1⟩ := h1
  obtain ⟨b0, b1⟩ := h2
  by_cases z : q.2 = 0
  · have e1 := a0 z
    have e2 := b0 (hz.mp z)
    rw [e1, e2] at hc
    exact absurd (num_cmp (by decide +kernel)) hc
  · have e := hq z
    have d1 := a1 z
    have d2 := b1 (by rw [e]; exact z)
    rw [e] at d2
    simp only [alike64, Bool.or_eq_true, decide_eq_true_eq, Bool.and_eq_true] at d1 d2
    rcases d1 with e1 | ⟨n1, n1'⟩
    · rcases d2 with e2 | ⟨n2, n2'⟩
      · by_cases v : FP.Core.decode FP.Core.b64 (FP.ddiv (FP.i2d q.1) (FP.i2d q.2)).toNat = .nan
        · rw [e1, e2]; exact ⟨nan_cmp v, nan_cmp v⟩
        · rw [e1, e2] at hc; exact absurd (num_cmp v) hc
      · rw [e1]; exact ⟨nan_cmp (nan64 n2'), nan_cmp (nan64 n2)⟩
    · rcases d2 with e2 | ⟨n2, n2'⟩
      · rw [e2]; exact ⟨nan_cmp (nan64 n1), nan_cmp (nan64 n1')⟩
      · exact ⟨nan_cmp (nan64 n1), nan_cmp (nan64 n2)⟩
def gL (p : Program) (l : Launch) (e : Env) (s : State) (m : MethodId) (below : List Frame) (meth : Method) (c0 : Code) (b : Nat) (d : Drawn) : CtxT := (p, l, e, room_1, s.setDrawn d, m, #[Value.ref b], below, meth, c0, (fun q => s.heap.size ≤ q), s.heap, lw_Z below #[Value.ref b] s)
section VVD
variable {p : Program} {l : Launch} {e : Env} {s : State} {m : MethodId} {below : List Frame} {meth : Method} {c0 : Code} {b : Nat} {d0 : Drawn} {D : va_G} {c : Nat → ClassId} {cc : ByteArray} {own : String} {Ts : List Cond} {nL cells slots pc : Nat} {ws : va_W} {lv : List (Nat × Value)} {st : List Value}
theorem vv_callD {y : MethodName} {wy wy' : List Cond} {rmy : Room} {wc w' : va_W} {maxL n index b1 ci N : Nat} {ret : Option FieldType} {bytes : ByteArray} {Cn : String} {T : u_T} {As : List Value} {fs : List Value} {q : Int32 × Int32} (hd0 : s.drawn.sameBut d0 lw_cs) (C : CX (gL p l e s m below meth c0 b d0) D c cc own Ts nL room_1) (M : ∀ l, MDd l y wy rmy D c wc (.ref b1 :: As) q w' 0 0) (hG : GoodIn Ts (wsV own index Cn y wy)) (hwy : wy = Cond.code y bytes maxL ret :: wy') (hrc : rmy.cells = 0) (hrs : rmy.slots = 0)
    (hyd : y.cls = Cn ∧ y.cls ≠ "java/lang/invoke/MethodHandle" ∧ y.cls ≠ "java/lang/invoke/VarHandle" ∧ (parseMethodDescriptor y.desc).map (fun d => d.parameters.length) = some n) (hR : rmy.frames + 1 ≤ room_1.frames ∧ 8 + (maxL + 11) + rmy.locals ≤ room_1.locals)
    (isC : List Nat) (hC : isC.map (fun i => ws[i]?) = wc.map some) (hnd : va_nd isC = true) (k0 : Nat) (hk0 : wc[k0]? = some (b1, .inr (ci, fs))) (hci : vwCl[ci]? = some (Cn, T, N)) (ws1 : va_W) (src : List (Bool × Nat)) (hsrc : src.map (srcf ws w') = ws1.map some) (hok : src.all (fun o => o.1 || !(isC.contains o.2)) = true) (hadr : ws1.map Prod.fst = ws.map Prod.fst) (hAs : As.length = n) (rest : List Value) (hst : st = As.reverse ++ .ref b1 :: rest) (hcat : (rest.map fun v => v.category).sum ≤ 8)
    (hf : cells + 0 ≤ room_1.cells ∧ slots + 0 ≤ room_1.slots) (hd : decode cc pc = .ok (.invokevirtual index, 3)) (pc' : Nat) (hp : pc + 3 = pc') (kk : ∀ (r : UInt64) (d1 : Drawn), SPR q r → s.drawn.sameBut d1 lw_cs → VV (gL p l e s m below meth c0 b d1) D nL cells slots ws1 lv pc' (.double r :: rest)) : VV (gL p l e s m below meth c0 b d0) D nL cells slots ws lv pc st := by
  obtain ⟨hx, hb, hml, hown, hts, hK, hA, hlk, -, hNW⟩ := C
  subst hp; subst hst
  intro H locs ls hP hD hS hl
  have hF := va_free hD hS hA isC hC
  refine va_calldD hd0 (va_runV_D (As := As) (rest := rest) ⟨hx, hb, hml, hown, hts⟩ (M l H.size) (cwV n hts hG hwy hrc hrs hyd hR) ⟨CPre_blind, va_recv hK (hP.sub isC (fm_of_map hC)) hci hk0, fun U hU hW => ⟨rfl, by rw [hU], by rw [hU]; exact hP.sub isC (fm_of_map hC), va_K.moved hW.alike hK, (hD.sub isC hnd hC).weaken (fun _ _ _ _ => trivial), hNW.warm hW⟩⟩ rfl hAs hl.1 rfl (lv_room hcat) hd hf) hS (fun q _ h => hF q h) hF (fun r u t H1 locs1 ht hvm hw hB hz1 hk1 hS1 d1 hd1 => ?_)
  obtain ⟨hP1, hK1, hD1⟩ := hB
  rw [ht] at hP1
  obtain ⟨hP2, hD2⟩ := va_put_back hP hD isC hC hk1 src hsrc hok hadr hP1
  exact kk r d1 hw hd1 H1 locs1 ls hP2 hD2 hS1 hl
end VVD
set_option maxHeartbeats 4000000 in
set_option maxRecDepth 100000 in
theorem law_spare {p : Program} {l : Launch} {e : Env} {s : State} {m : MethodId} {below : List Frame} {meth : Method} {c0 : Code} {d0 : Drawn} {D : va_G} {c : Nat → ClassId} {b : Nat} (hd0 : s.drawn.sameBut d0 lw_cs) (CA : ∀ d, CX (gL p l e s m below meth c0 b d) D c cL_law RL wsL_law 9 room_1) (X W R B K Q T TB TK TQ Y : Nat → Nat) (m0 : Nat) (M : Nat → Nat) (o : Nat) (S : Nat → Nat → Int32) (f : Nat → Int64) (v4 : Int32) (hR : Rel S) (cells slots : Nat) (hroom : cells + 67 ≤ 601024 ∧ slots + 14262 ≤ 7293034)
    (K1 : ∀ (d : Drawn) (S' : Nat → Nat → Int32), s.drawn.sameBut d lw_cs → Rel S' → Cost S S' 0 0 → VV (gL p l e s m below meth c0 b d) D 9 cells slots (wLaw c X W R B K Q T TB TK TQ Y m0 M o S' f) [(0, .ref b), (1, .ref (X 0)), (2, .ref m0), (3, .ref o), (4, .int v4)] 1623 []) : VV (gL p l e s m below meth c0 b d0) D 9 cells slots (wLaw c X W R B K Q T TB TK TQ Y m0 M o S f) [(0, .ref b), (1, .ref (X 0)), (2, .ref m0), (3, .ref o), (4, .int v4)] 1568 [] := by
  obtain ⟨q, q', hA, hB, hz, hq, hRel⟩ := sim_spare S hR
  have C := CA d0
  refine vv_aload_n C dL_law_1568 rfl 1 rfl 1569 rfl ?_
  refine vv_callD hd0 C (fun l => mt_X6_spare l D c X W R B K Q T Y (S 0 0) (S 10 0) (S 11 0) (S 23 0) (S 14) (S 16) (S 17) (S 18) (S 19) q hA) gL_law_X6_spare rfl rfl rfl yd_X6_spare ⟨Nat.le_of_ble_eq_true rfl, Nat.le_of_ble_eq_true rfl⟩ [0, 6, 9, 12, 14, 15, 16, 17] rfl (by decide) 0 rfl rfl (wLaw c X W R B K Q T TB TK TQ Y m0 M o S f) [(true, 0), (false, 1), (false, 2), (false, 3), (false, 4), (false, 5), (true, 1), (false, 7), (false, 8), (true, 2), (false, 10), (false, 11), (true, 3), (false, 13), (true, 4), (true, 5), (true, 6), (true, 7), (false, 18), (false, 19), (false, 20), (false, 21), (false, 22), (false, 23), (false, 24), (false, 25), (false, 26), (false, 27), (false, 28), (false, 29), (false, 30), (false, 31), (false, 32), (false, 33), (false, 34), (false, 35), (false, 36), (false, 37), (false, 38), (false, 39), (false, 40), (false, 41), (false, 42), (false, 43), (false, 44), (false, 45), (false, 46), (false, 47), (false, 48), (false, 49), (false, 50), (false, 51), (false, 52), (false, 53), (false, 54), (false, 55), (false, 56), (false, 57), (false, 58), (false, 59), (false, 60), (false, 61), (false, 62), (false, 63), (false, 64), (false, 65), (false, 66), (false, 67), (false, 68), (false, 69), (false, 70)] rfl (by decide) rfl rfl [] rfl (Nat.le_of_ble_eq_true rfl) ⟨show cells + 0 ≤ 601024 by omega, show slots + 0 ≤ 7293034 by omega⟩ dL_law_1569 1572 rfl (fun r1 d1 hs1 hd1 => ?_)
  have C := CA d1
  refine vv_dstore C [(5, .double r1), (0, .ref b), (1, .ref (X 0)), (2, .ref m0), (3, .ref o), (4, .int v4)] dL_law_1572 (by decide) rfl 1574 rfl ?_
  refine vv_aload_n C dL_law_1574 rfl 3 rfl 1575 rfl ?_
  refine vv_callD hd1 C (fun l => mt_X7_spare l D c (mA m0 M) (S 60 0) (S 61 0) (S 63 0) (S 64 0) (S 65 0) (S 67 0) (S 66) (S 68) (S 71) q' hB) gL_law_X7_spare rfl rfl rfl yd_X7_spare ⟨Nat.le_of_ble_eq_true rfl, Nat.le_of_ble_eq_true rfl⟩ [57, 59, 60, 63] rfl (by decide) 0 rfl rfl (wLaw c X W R B K Q T TB TK TQ Y m0 M o (up S 60 (fun _ => q'.2)) f) [(false, 0), (false, 1), (false, 2), (false, 3), (false, 4), (false, 5), (false, 6), (false, 7), (false, 8), (false, 9), (false, 10), (false, 11), (false, 12), (false, 13), (false, 14), (false, 15), (false, 16), (false, 17), (false, 18), (false, 19), (false, 20), (false, 21), (false, 22), (false, 23), (false, 24), (false, 25), (false, 26), (false, 27), (false, 28), (false, 29), (false, 30), (false, 31), (false, 32), (false, 33), (false, 34), (false, 35), (false, 36), (false, 37), (false, 38), (false, 39), (false, 40), (false, 41), (false, 42), (false, 43), (false, 44), (false, 45), (false, 46), (false, 47), (false, 48), (false, 49), (false, 50), (false, 51), (false, 52), (false, 53), (false, 54), (false, 55), (false, 56), (true, 0), (false, 58), (true, 1), (true, 2), (false, 61), (false, 62), (true, 3), (false, 64), (false, 65), (false, 66), (false, 67), (false, 68), (false, 69), (false, 70)] rfl (by decide) rfl rfl [] rfl (Nat.le_of_ble_eq_true rfl) ⟨show cells + 0 ≤ 601024 by omega, show slots + 0 ≤ 7293034 by omega⟩ dL_law_1575 1578 rfl (fun r2 d2 hs2 hd2 => ?_)
  have C := CA d2
  refine vv_dstore C [(7, .double r2), (5, .double r1), (0, .ref b), (1, .ref (X 0)), (2, .ref m0), (3, .ref o), (4, .int v4)] dL_law_1578 (by decide) rfl 1580 rfl ?_
  refine vv_dload C dL_law_1580 1 rfl 1582 rfl ?_
  refine vv_dload C dL_law_1582 0 rfl 1584 rfl ?_
  refine vv_dcmp C dL_law_1584 1585 rfl ?_
  have K2 : VV (gL p l e s m below meth c0 b d2) D 9 cells slots (wLaw c X W R B K Q T TB TK TQ Y m0 M o (up S 60 (fun _ => q'.2)) f) [(7, .double r2), (5, .double r1), (0, .ref b), (1, .ref (X 0)), (2, .ref m0), (3, .ref o), (4, .int v4)] 1606 [] := by
    refine vv_goto C 1623 dL_law_1606 (by decide) ?_
    refine vv_lv [2, 3, 4, 5, 6] [(0, .ref b), (1, .ref (X 0)), (2, .ref m0), (3, .ref o), (4, .int v4)] rfl ?_
    exact K1 d2 _ hd2 hRel ⟨by omega, by omega, Or.inl (by omega)⟩
  refine vv_if_eq C 1606 1588 dL_law_1585 (by decide) rfl (fun _ => K2) (fun hc => ?_)
  obtain ⟨n1, n2⟩ := spare_nan hs1 hs2 hz hq hc
  refine vv_dload C dL_law_1588 1 rfl 1590 rfl ?_
  refine vv_dload C dL_law_1590 1 rfl 1592 rfl ?_
  refine vv_dcmp C dL_law_1592 1593 rfl ?_
  refine vv_if_eq C 1604 1596 dL_law_1593 (by decide) rfl (fun h => absurd h n1) (fun _ => ?_)
  refine vv_dload C dL_law_1596 0 rfl 1598 rfl ?_
  refine vv_dload C dL_law_1598 0 rfl 1600 rfl ?_
  refine vv_dcmp C dL_law_1600 1601 rfl ?_
  exact vv_if_ne C 1606 1604 dL_law_1601 (by decide) rfl (fun _ => K2) (fun h => absurd h n2)
