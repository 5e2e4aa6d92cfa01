/-! the law from its entry -/
theorem kwL0_0 : Cond.classLink RL 8 RX6 ∈ wsL_law := List.mem_of_getElem? (i := 0) rfl
theorem kwL0_1 : Cond.instantiable RX6 5 ∈ wsL_law := List.mem_of_getElem? (i := 1) rfl
theorem kwL0_2 : Cond.initialized RX6 ∈ wsL_law := List.mem_of_getElem? (i := 2) rfl
theorem kwL0_3 : Cond.classLink RL 81 RX7 ∈ wsL_law := List.mem_of_getElem? (i := 3) rfl
theorem kwL0_4 : Cond.instantiable RX7 18 ∈ wsL_law := List.mem_of_getElem? (i := 4) rfl
theorem kwL0_5 : Cond.initialized RX7 ∈ wsL_law := List.mem_of_getElem? (i := 5) rfl
theorem kwL0_6 : Cond.arrayClass .long ∈ wsL_law := List.mem_of_getElem? (i := 6) rfl
theorem kwL0_7 : Cond.methodLink RL 80 yX6_init ∈ wsL_law := List.mem_of_getElem? (i := 7) rfl
theorem kwL0_8 : Cond.instanceMethod yX6_init ∈ wsL_law := List.mem_of_getElem? (i := 8) rfl
theorem kwL0_9 : Cond.methodLink RL 83 yX7_init ∈ wsL_law := List.mem_of_getElem? (i := 90) rfl
theorem kwL0_10 : Cond.instanceMethod yX7_init ∈ wsL_law := List.mem_of_getElem? (i := 91) rfl
theorem st_trace {l : Launch} (h : l.flags = flags0) : l.stackTraces = false := by
  unfold Launch.stackTraces
  rw [h]
  decide +kernel
theorem st_cls {args : Array Value} {s : State} (hts : ∀ w ∈ lw_tbl, w.before args s = true) : ∃ c : Nat → ClassId, (∀ (k : Nat) (q : ClassId × FieldType), (tyL c)[k]? = some q → ArrOfT s q.1 q.2 ∧ va_RA s q.1 q.2) ∧ ∃ k : Class, s.vm.classes[c 3]? = some k ∧ k.kind = .array (c 0) (.array .int) := by
  obtain ⟨cI, kI, pI, i1, i2, i3⟩ := Cond.arrayClass_spec (hts (.arrayClass .int) (by decide +kernel))
  obtain ⟨cZ, kZ, pZ, z1, z2, z3⟩ := Cond.arrayClass_spec (hts (.arrayClass .boolean) (by decide +kernel))
  obtain ⟨cJ, kJ, pJ, j1, j2, j3⟩ := Cond.arrayClass_spec (hts (.arrayClass .long) (by decide +kernel))
  obtain ⟨cA, cR, kR, r1, -, r2, r3, r4⟩ := arrayOverA_spec (hts (.arrayOver (.array .int)) (by decide +kernel))
  have e : cA = cI := Option.some.inj (r1.symm.trans i1)
  refine ⟨fun k => match k with | 0 => cI | 1 => cZ | 2 => cJ | _ => cR, fun k q hq => ?_, kR, r2, by rw [e] at r3; exact r3⟩
  match k, hq with
  | 0, hq => cases hq; exact ⟨fun N z => ⟨(fun k h => by cases h), kI, i2, pI, i3⟩, i1⟩
  | 1, hq => cases hq; exact ⟨fun N z => ⟨(fun k h => by cases h), kZ, z2, pZ, z3⟩, z1⟩
  | 2, hq => cases hq; exact ⟨fun N z => ⟨(fun k h => by cases h), kJ, j2, pJ, j3⟩, j1⟩
  | 3, hq => cases hq; exact ⟨fun N z => ⟨(fun k h => by cases h), kR, r2, cA, r3⟩, r4⟩
  | k + 4, hq => simp at hq
theorem st_D {args : Array Value} {s : State} (hts : ∀ w ∈ lw_tbl, w.before args s = true) : ∃ (dC : Nat → ClassId) (dI : Nat → Nat → Nat), ∀ (k : Nat) (q : vw_C), vwCl[k]? = some q → u_Kn s q.1 q.2.1 q.2.2 (dC k) (dI k) := by
  obtain ⟨c0, i0, h0⟩ := u_known (C := RX0) (T := TX0) (N := 12) (n := 12) hts inX0 (hts (.instantiable RX0 12) (by decide +kernel))
  obtain ⟨c1, i1, h1⟩ := u_known (C := RX1) (T := TX1) (N := 3) (n := 3) hts inX1 (hts (.instantiable RX1 3) (by decide +kernel))
  obtain ⟨c2, i2, h2⟩ := u_known (C := RX2) (T := TX2) (N := 5) (n := 5) hts inX2 (hts (.instantiable RX2 5) (by decide +kernel))
  obtain ⟨c3, i3, h3⟩ := u_known (C := RX3) (T := TX3) (N := 7) (n := 7) hts inX3 (hts (.instantiable RX3 7) (by decide +kernel))
  obtain ⟨c4, i4, h4⟩ := u_known (C := RX4) (T := TX4) (N := 7) (n := 7) hts inX4 (hts (.instantiable RX4 7) (by decide +kernel))
  obtain ⟨c5, i5, h5⟩ := u_known (C := RX5) (T := TX5) (N := 4) (n := 4) hts inX5 (hts (.instantiable RX5 4) (by decide +kernel))
  obtain ⟨c6, i6, h6⟩ := u_known (C := RX6) (T := TX6) (N := 5) (n := 5) hts inX6 (hts (.instantiable RX6 5) (by decide +kernel))
  obtain ⟨c7, i7, h7⟩ := u_known (C := RX7) (T := TX7) (N := 18) (n := 18) hts inX7 (hts (.instantiable RX7 18) (by decide +kernel))
  refine ⟨fun k => match k with | 0 => c0 | 1 => c1 | 2 => c2 | 3 => c3 | 4 => c4 | 5 => c5 | 6 => c6 | _ => c7, fun k => match k with | 0 => i0 | 1 => i1 | 2 => i2 | 3 => i3 | 4 => i4 | 5 => i5 | 6 => i6 | _ => i7, fun k q hq => ?_⟩
  match k, hq with
  | 0, hq => cases hq; exact h0
  | 1, hq => cases hq; exact h1
  | 2, hq => cases hq; exact h2
  | 3, hq => cases hq; exact h3
  | 4, hq => cases hq; exact h4
  | 5, hq => cases hq; exact h5
  | 6, hq => cases hq; exact h6
  | 7, hq => cases hq; exact h7
  | k + 8, hq => simp at hq
theorem st_NW {args : Array Value} {s : State} {c : Nat → ClassId} (hts : ∀ w ∈ lw_tbl, w.before args s = true) (hrow : ∃ k : Class, s.vm.classes[c 3]? = some k ∧ k.kind = .array (c 0) (.array .int)) : NW c s :=
  ⟨va_Nw.of (A := args) rfl (hts _ (by decide +kernel)), va_Nw.of (A := args) rfl (hts _ (by decide +kernel)), va_Nw.of (A := args) rfl (hts _ (by decide +kernel)), va_Nw.of (A := args) rfl (hts _ (by decide +kernel)), va_Nw.of (A := args) rfl (hts _ (by decide +kernel)), va_Nw.of (A := args) rfl (hts _ (by decide +kernel)), va_Nw.of (A := args) rfl (hts _ (by decide +kernel)), over_moved (Vm.Alike.refl _) (hts (.arrayOver (.array .int)) (by decide +kernel)), hrow⟩
theorem st_strs : ∀ q ∈ strs, Cond.stringRef RX6 q.1 q.2 ∈ lw_tbl := by decide +kernel
theorem st_strx : ∀ q ∈ strs, Cond.exactly (.string RX6 q.1) "java/lang/String" ∈ flatC (Jvm.Cond.and given_1 narrow_1) := by decide +kernel
theorem st_ncs : ∀ i ∈ [1, 2, 3], ∀ j ∈ [1, 2, 3], i ≠ j → Cond.not (.castable (exN i) (exN j)) ∈ flatC (Jvm.Cond.and given_1 narrow_1) := by decide +kernel
theorem st_NX {args : Array Value} {s : State} (hts : ∀ w ∈ lw_tbl, w.before args s = true) (hgv : (Jvm.Cond.and given_1 narrow_1).before args s = true) : NX s := by
  refine ⟨⟨va_Nw.of (A := args) rfl (hts _ (by decide +kernel)), va_Nw.of (A := args) rfl (hts _ (by decide +kernel)), va_Nw.of (A := args) rfl (hts _ (by decide +kernel))⟩, va_Nw.of (A := args) rfl (hts _ (by decide +kernel)), va_Nw.of (A := args) rfl (hts _ (by decide +kernel)), va_Nw.of (A := args) rfl (hts _ (by decide +kernel)), fun q hq => ?_⟩
  obtain ⟨a, _, _, _, h1, _⟩ := Cond.exactly_spec (flat_of_before _ hgv _ (st_strx q hq))
  exact ⟨a, vk_R.of (A := args) (hts _ (st_strs q hq)) h1⟩
theorem st_NC {args : Array Value} {s : State} (hgv : (Jvm.Cond.and given_1 narrow_1).before args s = true) : NC s := fun i hi j hj hn => va_Nc.of (args := args) (flat_of_before _ hgv _ (st_ncs i hi j hj hn))
theorem st_XF {args : Array Value} {s : State} (hts : ∀ w ∈ lw_tbl, w.before args s = true) (hgv : (Jvm.Cond.and given_1 narrow_1).before args s = true) : XF (fun q => s.heap.size ≤ q) s s.heap :=
  ⟨vx_Zqof (args := args) (hts _ (by decide +kernel)) (hts _ (by decide +kernel)) (flat_of_before _ hgv _ (by decide +kernel)) (fun a ha => Nat.not_le.mpr ha), vx_Zqof (args := args) (hts _ (by decide +kernel)) (hts _ (by decide +kernel)) (flat_of_before _ hgv _ (by decide +kernel)) (fun a ha => Nat.not_le.mpr ha)⟩
section VVStart
variable {g : CtxT} {D : va_G} {c : Nat → ClassId} {cc : ByteArray} {own : String} {Ts : List Cond} {nL cells slots pc : Nat} {rm : Room} {ws : va_W} {lv : List (Nat × Value)} {st : List Value}
theorem vv_newl (C : CX g D c cc own Ts nL rm) {n : Int32} {N : Nat} (hw : Cond.arrayClass .long ∈ Ts) (hn : ¬ n < 0) (hN : n.toNatClampNeg = N) (hb8 : N * componentBytes .long ≤ 536870912) (hcs : cells + 1 ≤ rm.cells ∧ slots + N ≤ rm.slots) (hd : decode cc pc = .ok (.newarray .long, 2)) (pc' cells' slots' : Nat) (hp : pc + 2 = pc') (he : cells + 1 = cells' ∧ slots + N = slots')
    (kk : ∀ q : Nat, VV g D nL cells' slots' (ws ++ [aL c q N (fun _ => 0)]) lv pc' (.ref q :: st)) : VV g D nL cells slots ws lv pc (.int n :: st) := by
  obtain ⟨rfl, rfl⟩ := he
  obtain ⟨p, l, e, R, s, m, args, below, meth, c0, A, H0, Q⟩ := g
  obtain ⟨hx, hb, hml, hown, hts, hK, hA, hlk, rfl, hNW⟩ := C
  subst hp
  intro H locs ls hP hD hS hl
  refine va_newa (atype := .long) (ty := .long) (a0 := (N, .inr (.inl (fun _ => 0)))) hx hb (hts _ hw) rfl hK hP hD hS hA (fun cA => rfl) hn hN hb8 hcs.1 hcs.2 hd (fun q cA H1 hK1 hP1 hD1 hS1 => ?_)
  have e1 := (hK1.2 4 (cA, .long) rfl).2
  have e2 := (hK.2 2 (c 2, .long) rfl).2
  have e3 : cA = c 2 := Option.some.inj (Eq.trans (Eq.symm e1) e2)
  subst e3
  exact kk q H1 locs ls hP1 hD1 hS1 hl
end VVStart
/-- what stands in the cells at the start -/
def S0 (f4 : Nat → Int32) : Nat → Nat → Int32
  | 0 => fun _ => 10
  | 4 => f4
  | 72 => wr (wr (wr (fun _ => 0) 0 0) 1 10) 2 0
  | _ => fun _ => 0

set_option maxHeartbeats 4000000 in
set_option maxRecDepth 100000 in
theorem law_entry {p : Program} {l : Launch} {e : Env} {s : State} {m : MethodId} {below : List Frame} {meth : Method} {c0 : Code} {D : va_G} {c : Nat → ClassId} {b : Nat} {d : Drawn} (f4 : Nat → Int32) (hf4 : jJ7_fill_53178 600 (fun _ => 0) (-1) = some f4) (C : CX (gL p l e s m below meth c0 b d) D c cL_law RL wsL_law 9 room_1)
    (kk : ∀ (X W R B K Q T TB TK TQ Y : Nat → Nat) (m0 : Nat) (M : Nat → Nat) (o : Nat), VV (gL p l e s m below meth c0 b d) D 9 71 3964 (wLaw c X W R B K Q T TB TK TQ Y m0 M o (S0 f4) (fun _ => 0)) [(0, .ref b), (1, .ref (X 0)), (2, .ref m0), (3, .ref o), (4, .int (nI (8 * 0)))] 23 []) : VV (gL p l e s m below meth c0 b d) D 9 0 0 [] [(0, .ref b)] 0 [] := by
  refine vv_new C (ci := 6) [.null, .null, .null, .null, .int 0] inlX6 tyX6 tyX6_ok kwL0_0 kwL0_1 kwL0_2 rfl (fun j hj => by rcases (show j = 0 ∨ j = 1 ∨ j = 2 ∨ j = 3 ∨ j = 4 by omega) with rfl | rfl | rfl | rfl | rfl <;> rfl) ⟨by decide, by decide⟩ dL_law_0 3 1 5 rfl ⟨rfl, rfl⟩ (fun q0 => ?_)
  refine vv_dup C dL_law_3 rfl 4 rfl ?_
  refine vv_callI C (fun l => mt_X6_init l D c q0 f4 hf4) gL_law_X6_init rfl rfl rfl kwL0_7 kwL0_2 kwL0_8 rfl yd_X6_init ⟨Nat.le_of_ble_eq_true rfl, Nat.le_of_ble_eq_true rfl⟩ [0] [] [] rfl (by decide) rfl (by decide) (by decide) [.ref q0] rfl (Nat.le_of_ble_eq_true rfl) ⟨by decide, by decide⟩ dL_law_4 7 57 1854 rfl ⟨rfl, rfl⟩ (fun u6 _ => ?_)
  refine vv_astore_n C [(1, .ref q0), (0, .ref b)] dL_law_7 rfl (by decide) rfl 8 rfl ?_
  refine vv_new C (ci := 7) [.int 0, .int 0, .null, .int 0, .int 0, .int 0, .null, .int 0, .null, .null, .null, .null, .null, .null, .null, .null, .null, .null] inlX7 tyX7 tyX7_ok kwL0_3 kwL0_4 kwL0_5 rfl (fun j hj => by rcases (show j = 0 ∨ j = 1 ∨ j = 2 ∨ j = 3 ∨ j = 4 ∨ j = 5 ∨ j = 6 ∨ j = 7 ∨ j = 8 ∨ j = 9 ∨ j = 10 ∨ j = 11 ∨ j = 12 ∨ j = 13 ∨ j = 14 ∨ j = 15 ∨ j = 16 ∨ j = 17 by omega) with rfl | rfl | rfl | rfl | rfl | rfl | rfl | rfl | rfl | rfl | rfl | rfl | rfl | rfl | rfl | rfl | rfl | rfl <;> rfl) ⟨by decide, by decide⟩ dL_law_8 11 58 1872 rfl ⟨rfl, rfl⟩ (fun q8 => ?_)
  refine vv_dup C dL_law_11 rfl 12 rfl ?_
  refine vv_callI C (fun l => mt_X7_init l D c q8) gL_law_X7_init rfl rfl rfl kwL0_9 kwL0_5 kwL0_10 rfl yd_X7_init ⟨Nat.le_of_ble_eq_true rfl, Nat.le_of_ble_eq_true rfl⟩ [57] [0, 1, 2, 3, 4, 5, 6, 7, 8, 9, 10, 11, 12, 13, 14, 15, 16, 17, 18, 19, 20, 21, 22, 23, 24, 25, 26, 27, 28, 29, 30, 31, 32, 33, 34, 35, 36, 37, 38, 39, 40, 41, 42, 43, 44, 45, 46, 47, 48, 49, 50, 51, 52, 53, 54, 55, 56] [(((mA q0 u6.1) 0), .inr (6, [.ref (u6.2.1 0), .ref (u6.2.2.1 0), .ref (u6.2.2.2.2.2.2.1 0), .ref (u6.2.2.2.2.2.2.2.2.2.2 0), .int 10])), ((u6.2.1 0), .inr (4, [.ref (u6.2.1 1), .ref (u6.2.1 2), .ref (u6.2.1 3), .ref (u6.2.1 4), .int 0, .int 0, .int 0])), aI c (u6.2.1 1) 8 (fun _ => 0), aI c (u6.2.1 2) 8 (fun _ => 0), aI c (u6.2.1 3) 8 (fun _ => 0), aI c (u6.2.1 4) 600 f4, ((u6.2.2.1 0), .inr (3, [.ref (u6.2.2.2.1 0), .ref (u6.2.2.2.2.1 0), .ref (u6.2.2.2.2.2.1 0), .ref (u6.2.2.1 1), .ref (u6.2.2.1 2), .int 0, .int 0])), aI c (u6.2.2.1 1) 24 (fun _ => 0), aI c (u6.2.2.1 2) 24 (fun _ => 0), ((u6.2.2.2.1 0), .inr (0, [.ref (u6.2.2.2.1 1), .ref (u6.2.2.2.1 2), .ref (u6.2.2.2.1 3), .ref (u6.2.2.2.1 4), .ref (u6.2.2.2.1 5), .ref (u6.2.2.2.1 6), .ref (u6.2.2.2.1 7), .ref (u6.2.2.2.1 8), .ref (u6.2.2.2.1 9), .ref (u6.2.2.2.1 10), .ref (u6.2.2.2.1 11), .int 0])), aI c (u6.2.2.2.1 1) 24 (fun _ => 0), aI c (u6.2.2.2.1 2) 24 (fun _ => 0), aI c (u6.2.2.2.1 3) 24 (fun _ => 0), aI c (u6.2.2.2.1 4) 24 (fun _ => 0), aI c (u6.2.2.2.1 5) 24 (fun _ => 0), aI c (u6.2.2.2.1 6) 24 (fun _ => 0), aI c (u6.2.2.2.1 7) 24 (fun _ => 0), aI c (u6.2.2.2.1 8) 24 (fun _ => 0), aI c (u6.2.2.2.1 9) 24 (fun _ => 0), aI c (u6.2.2.2.1 10) 24 (fun _ => 0), aI c (u6.2.2.2.1 11) 24 (fun _ => 0), ((u6.2.2.2.2.1 0), .inr (1, [.ref (u6.2.2.2.2.1 1), .ref (u6.2.2.2.2.1 2), .int 0])), aI c (u6.2.2.2.2.1 1) 8 (fun _ => 0), aI c (u6.2.2.2.2.1 2) 8 (fun _ => 0), ((u6.2.2.2.2.2.1 0), .inr (2, [.ref (u6.2.2.2.2.2.1 1), .ref (u6.2.2.2.2.2.1 2), .ref (u6.2.2.2.2.2.1 3), .ref (u6.2.2.2.2.2.1 4), .int 0])), aI c (u6.2.2.2.2.2.1 1) 48 (fun _ => 0), aI c (u6.2.2.2.2.2.1 2) 48 (fun _ => 0), aI c (u6.2.2.2.2.2.1 3) 48 (fun _ => 0), aI c (u6.2.2.2.2.2.1 4) 48 (fun _ => 0), ((u6.2.2.2.2.2.2.1 0), .inr (3, [.ref (u6.2.2.2.2.2.2.2.1 0), .ref (u6.2.2.2.2.2.2.2.2.1 0), .ref (u6.2.2.2.2.2.2.2.2.2.1 0), .ref (u6.2.2.2.2.2.2.1 1), .ref (u6.2.2.2.2.2.2.1 2), .int 0, .int 0])), aI c (u6.2.2.2.2.2.2.1 1) 24 (fun _ => 0), aI c (u6.2.2.2.2.2.2.1 2) 24 (fun _ => 0), ((u6.2.2.2.2.2.2.2.1 0), .inr (0, [.ref (u6.2.2.2.2.2.2.2.1 1), .ref (u6.2.2.2.2.2.2.2.1 2), .ref (u6.2.2.2.2.2.2.2.1 3), .ref (u6.2.2.2.2.2.2.2.1 4), .ref (u6.2.2.2.2.2.2.2.1 5), .ref (u6.2.2.2.2.2.2.2.1 6), .ref (u6.2.2.2.2.2.2.2.1 7), .ref (u6.2.2.2.2.2.2.2.1 8), .ref (u6.2.2.2.2.2.2.2.1 9), .ref (u6.2.2.2.2.2.2.2.1 10), .ref (u6.2.2.2.2.2.2.2.1 11), .int 0])), aI c (u6.2.2.2.2.2.2.2.1 1) 24 (fun _ => 0), aI c (u6.2.2.2.2.2.2.2.1 2) 24 (fun _ => 0), aI c (u6.2.2.2.2.2.2.2.1 3) 24 (fun _ => 0), aI c (u6.2.2.2.2.2.2.2.1 4) 24 (fun _ => 0), aI c (u6.2.2.2.2.2.2.2.1 5) 24 (fun _ => 0), aI c (u6.2.2.2.2.2.2.2.1 6) 24 (fun _ => 0), aI c (u6.2.2.2.2.2.2.2.1 7) 24 (fun _ => 0), aI c (u6.2.2.2.2.2.2.2.1 8) 24 (fun _ => 0), aI c (u6.2.2.2.2.2.2.2.1 9) 24 (fun _ => 0), aI c (u6.2.2.2.2.2.2.2.1 10) 24 (fun _ => 0), aI c (u6.2.2.2.2.2.2.2.1 11) 24 (fun _ => 0), ((u6.2.2.2.2.2.2.2.2.1 0), .inr (1, [.ref (u6.2.2.2.2.2.2.2.2.1 1), .ref (u6.2.2.2.2.2.2.2.2.1 2), .int 0])), aI c (u6.2.2.2.2.2.2.2.2.1 1) 8 (fun _ => 0), aI c (u6.2.2.2.2.2.2.2.2.1 2) 8 (fun _ => 0), ((u6.2.2.2.2.2.2.2.2.2.1 0), .inr (2, [.ref (u6.2.2.2.2.2.2.2.2.2.1 1), .ref (u6.2.2.2.2.2.2.2.2.2.1 2), .ref (u6.2.2.2.2.2.2.2.2.2.1 3), .ref (u6.2.2.2.2.2.2.2.2.2.1 4), .int 0])), aI c (u6.2.2.2.2.2.2.2.2.2.1 1) 48 (fun _ => 0), aI c (u6.2.2.2.2.2.2.2.2.2.1 2) 48 (fun _ => 0), aI c (u6.2.2.2.2.2.2.2.2.2.1 3) 48 (fun _ => 0), aI c (u6.2.2.2.2.2.2.2.2.2.1 4) 48 (fun _ => 0), ((u6.2.2.2.2.2.2.2.2.2.2 0), .inr (5, [.ref (u6.2.2.2.2.2.2.2.2.2.2 1), .ref (u6.2.2.2.2.2.2.2.2.2.2 2), .ref (u6.2.2.2.2.2.2.2.2.2.2 3), .ref (u6.2.2.2.2.2.2.2.2.2.2 4)])), aI c (u6.2.2.2.2.2.2.2.2.2.2 1) 48 (fun _ => 0), aI c (u6.2.2.2.2.2.2.2.2.2.2 2) 24 (fun _ => 0), aI c (u6.2.2.2.2.2.2.2.2.2.2 3) 24 (fun _ => 0), aI c (u6.2.2.2.2.2.2.2.2.2.2 4) 24 (fun _ => 0)] rfl (by decide) rfl (by decide) (by decide) [.ref q8] rfl (Nat.le_of_ble_eq_true rfl) ⟨by decide, by decide⟩ dL_law_12 15 70 3963 rfl ⟨rfl, rfl⟩ (fun u7 _ => ?_)
  refine vv_astore_n C [(2, .ref q8), (1, .ref q0), (0, .ref b)] dL_law_15 rfl (by decide) rfl 16 rfl ?_
  refine vv_iconst C (v := 1) dL_law_16 (by decide) 17 rfl ?_
  refine vv_newl C (N := 1) kwL0_6 (by decide) (by decide) (by decide) ⟨by decide, by decide⟩ dL_law_17 19 71 3964 rfl ⟨rfl, rfl⟩ (fun q17 => ?_)
  refine vv_astore_n C [(3, .ref q17), (2, .ref q8), (1, .ref q0), (0, .ref b)] dL_law_19 rfl (by decide) rfl 20 rfl ?_
  refine vv_iconst C (v := nI (8 * 0)) dL_law_20 (by decide) 21 rfl ?_
  refine vv_istore C [(4, .int (nI (8 * 0))), (3, .ref q17), (2, .ref q8), (1, .ref q0), (0, .ref b)] dL_law_21 (by decide) rfl 23 rfl ?_
  refine vv_lv [4, 3, 2, 1, 0] [(0, .ref b), (1, .ref q0), (2, .ref q8), (3, .ref q17), (4, .int (nI (8 * 0)))] rfl ?_
  exact kk (mA q0 u6.1) u6.2.1 u6.2.2.1 u6.2.2.2.1 u6.2.2.2.2.1 u6.2.2.2.2.2.1 u6.2.2.2.2.2.2.1 u6.2.2.2.2.2.2.2.1 u6.2.2.2.2.2.2.2.2.1 u6.2.2.2.2.2.2.2.2.2.1 u6.2.2.2.2.2.2.2.2.2.2 q8 (mA q8 u7) q17
theorem Rel_S0 : Rel (S0 (fun i => if i < 600 then -1 else 0)) := by
  refine ⟨0, 0, 0, 0, 10, fun _ => 0, ⟨rfl, rfl, rfl, rfl, rfl, rfl, rfl⟩, ⟨rfl, rfl⟩, ⟨by decide, by decide, by decide, by decide, by omega⟩, ?_, ?_, ?_, ?_, ?_, ?_, ?_, ?_⟩
  · refine ⟨by omega, by omega, fun j hj => absurd hj (Nat.not_lt_zero _), fun j hj => absurd hj (Nat.not_lt_zero _), ?_, ?_, ?_⟩
    · exact fun k _ h => absurd (show S0 (fun i => if i < 600 then -1 else 0) kM_strength k = 0 from rfl) h
    · exact fun a b h => absurd h.1 (Nat.not_lt_zero _)
    · exact fun q _ h => absurd (show (0 : Int32) < 0 from h) (by decide)
  · exact ⟨fun j hj => absurd hj (Nat.not_lt_zero _), fun _ _ => rfl, fun _ _ _ => rfl, fun j hj => absurd hj (Nat.not_lt_zero _), fun _ _ _ => rfl⟩
  · refine ⟨⟨by omega, fun k hk => absurd hk (Nat.not_lt_zero _)⟩, fun x y hx hy => ?_, fun k hk => absurd hk (Nat.not_lt_zero _)⟩
    show (if x + 30 * y < 600 then (-1 : Int32) else 0) = -1
    rw [if_pos (by omega)]
  · exact ⟨fun j hj => absurd hj (Nat.not_lt_zero _), fun a b h => absurd h.1 (Nat.not_lt_zero _), fun j hj => absurd hj (Nat.not_lt_zero _)⟩
  · exact ⟨by omega, ⟨fun i hi => absurd hi (Nat.not_lt_zero _), fun i j _ hj => absurd hj (Nat.not_lt_zero _), fun k _ h => absurd (show (0 : Int32) < 0 from of_decide_eq_true h) (by decide)⟩, fun i hi => absurd hi (Nat.not_lt_zero _)⟩
  · intro j hj; exact absurd hj (by omega)
  · intro j _ _; exact ⟨rfl, rfl, rfl, rfl⟩
  · intro j hj; exact absurd hj (by omega)
/-- from the entry, for every script -/
theorem whole_start {p : Program} {e : Env} {s : State} {m : MethodId} {below : List Frame} {meth : Method} {c : Code} (l : Launch) (hflags : l.flags = flags0) {b L : Nat} {xs : Nat → Int32} (hL : L ≤ 4096) (C0 : lw_At p s m meth c b L xs) : W p l e room_1 s m #[Value.ref b] below meth c s.heap [] 0 0 (lw_Z below #[Value.ref b] s) (entryFrame m ([Value.ref b] : List Value).toArray 9) := by
  obtain ⟨hx, hb, hr, hml, hown, hts, hX, hbl, hlocks, hgv⟩ := id C0
  obtain ⟨ci, htys, hrow⟩ := st_cls hts
  obtain ⟨dC, dI, hD0⟩ := st_D hts
  have hK : va_K (dC, dI) vwCl (tyL ci) s := ⟨hD0, htys⟩
  have hNW : NW ci s := st_NW hts hrow
  have hNX : NX s := st_NX hts hgv
  have hNC : NC s := st_NC hgv
  have hXF : XF (fun q => s.heap.size ≤ q) s s.heap := st_XF hts hgv
  have hst : l.stackTraces = false := st_trace hflags
  have CA : ∀ d, CX (gL p l e s m below meth c b d) (dC, dI) ci cL_law RL wsL_law 9 room_1 := fun d => ⟨hx, hb, hml, hown, dr_words (fun w hw => hts w (wsL_law_in w hw)) d, va_K.moved (u := s) (U := s.setDrawn d) (Vm.Alike.refl _) hK, fun _ h => h, hlocks, rfl, NW.same (u := s) (U := s.setDrawn d) rfl hNW⟩
  have XS : ∀ d, SXc b L xs (gL p l e s m below meth c b d) := fun d => ⟨hX, hbl, Nat.not_le.mpr hbl⟩
  have XW : ∀ d, WXL (gL p l e s m below meth c b d) := fun d => ⟨hst, XF.moved (u := s) (U := s.setDrawn d) (Vm.Alike.refl _) hXF, NX.same (u := s) (U := s.setDrawn d) rfl hNX, NC.moved (u := s) (U := s.setDrawn d) (Vm.Alike.refl _) hNC⟩
  have hexit : ∀ (d : Drawn) (cells slots : Nat) (ws : va_W) (lv : List (Nat × Value)), s.drawn.sameBut d lw_cs → cells ≤ 601024 → slots ≤ 7293034 → VV (gL p l e s m below meth c b d) (dC, dI) 9 cells slots ws lv 1629 [] := fun d cells slots ws lv hd h1 h2 => by
    refine vv_iconst (CA d) (v := 1) dL_law_1629 (by decide) 1630 rfl ?_
    intro H locs ls hP hD hS hl
    refine va_forget hS.2.2 ?_
    refine W.widen h1 h2 ?_
    exact lw_ret hd hx hb hr hlocks dL_law_1630
  have hd0 := Drawn.sameBut.refl s.drawn lw_cs
  have K : VV (gL p l e s m below meth c b s.drawn) (dC, dI) 9 0 0 [] [(0, .ref b)] 0 [] :=
    law_entry _ (c_fill (by omega)) (CA s.drawn) (fun X W R B K Q T TB TK TQ Y m0 M o => law_loop CA XS XW hL X W R B K Q T TB TK TQ Y m0 o hexit 513 0 s.drawn M _ _ 71 3964 (by omega) (by omega) hd0 Rel_S0 ⟨by omega, Or.inl ⟨rfl, by omega⟩⟩)
  refine W.base ?_
  rw [lg_entry_eq]
  exact K s.heap [] _ (fun k q h => by simp at h) ⟨fun i j p q h => by simp at h, fun k q h => by simp at h⟩ va_S.rf (lv_entry [.ref b] (Nat.le_of_ble_eq_true rfl))
