/-! the law from its entry -/
theorem kwL0_0 : Cond.classLink RL 23 RX6 ∈ wsL_law := List.mem_of_getElem? (i := 0) rfl
theorem kwL0_1 : Cond.instantiable RX6 5 ∈ wsL_law := List.mem_of_getElem? (i := 1) rfl
theorem kwL0_2 : Cond.initialized RX6 ∈ wsL_law := List.mem_of_getElem? (i := 2) rfl
theorem kwL0_7 : Cond.methodLink RL 105 yX6_init ∈ wsL_law := List.mem_of_getElem? (i := 11) rfl
theorem kwL0_8 : Cond.instanceMethod yX6_init ∈ wsL_law := List.mem_of_getElem? (i := 12) rfl
theorem st_trace {l : Launch} (h : l.flags = flags0) : l.stackTraces = false := by
  unfold Launch.stackTraces
  rw [h]
  decide +kernel
theorem st_cls {args : Array Value} {s : State} (hts : ∀ w ∈ lw_tbl, w.before args s = true) : ∃ c : Nat → ClassId, (∀ (k : Nat) (q : ClassId × FieldType), (tyL c)[k]? = some q → ArrOfT s q.1 q.2 ∧ va_RA s q.1 q.2) ∧ ∃ k : Class, s.vm.classes[c 3]? = some k ∧ k.kind = .array (c 0) (.array .int) := by
  obtain ⟨cI, kI, pI, i1, i2, i3⟩ := Cond.arrayClass_spec (hts (.arrayClass .int) (by decide +kernel))
  obtain ⟨cZ, kZ, pZ, z1, z2, z3⟩ := Cond.arrayClass_spec (hts (.arrayClass .boolean) (by decide +kernel))
  obtain ⟨cJ, kJ, pJ, j1, j2, j3⟩ := Cond.arrayClass_spec (hts (.arrayClass .byte) (by decide +kernel))
  obtain ⟨cA, cR, kR, r1, -, r2, r3, r4⟩ := arrayOverA_spec (hts (.arrayOver (.array .int)) (by decide +kernel))
  have e : cA = cI := Option.some.inj (r1.symm.trans i1)
  refine ⟨fun k => match k with | 0 => cI | 1 => cZ | 2 => cJ | _ => cR, fun k q hq => ?_, kR, r2, by rw [e] at r3; exact r3⟩
  match k, hq with
  | 0, hq => cases hq; exact ⟨fun N z => ⟨(fun k h => by cases h), kI, i2, pI, i3⟩, i1⟩
  | 1, hq => cases hq; exact ⟨fun N z => ⟨(fun k h => by cases h), kZ, z2, pZ, z3⟩, z1⟩
  | 2, hq => cases hq; exact ⟨fun N z => ⟨(fun k h => by cases h), kJ, j2, pJ, j3⟩, j1⟩
  | 3, hq => cases hq; exact ⟨fun N z => ⟨(fun k h => by cases h), kR, r2, cA, r3⟩, r4⟩
  | k + 4, hq => simp at hq
theorem st_D {args : Array Value} {s : State} (hts : ∀ w ∈ lw_tbl, w.before args s = true) : ∃ (dC : Nat → ClassId) (dI : Nat → Nat → Nat), ∀ (k : Nat) (q : vw_C), vwCl[k]? = some q → u_Kn s q.1 q.2.1 q.2.2 (dC k) (dI k) := by
  obtain ⟨c0, i0, h0⟩ := u_known (C := RX0) (T := TX0) (N := 12) (n := 12) hts inX0 (hts (.instantiable RX0 12) (by decide +kernel))
  obtain ⟨c1, i1, h1⟩ := u_known (C := RX1) (T := TX1) (N := 3) (n := 3) hts inX1 (hts (.instantiable RX1 3) (by decide +kernel))
  obtain ⟨c2, i2, h2⟩ := u_known (C := RX2) (T := TX2) (N := 5) (n := 5) hts inX2 (hts (.instantiable RX2 5) (by decide +kernel))
  obtain ⟨c3, i3, h3⟩ := u_known (C := RX3) (T := TX3) (N := 7) (n := 7) hts inX3 (hts (.instantiable RX3 7) (by decide +kernel))
  obtain ⟨c4, i4, h4⟩ := u_known (C := RX4) (T := TX4) (N := 7) (n := 7) hts inX4 (hts (.instantiable RX4 7) (by decide +kernel))
  obtain ⟨c5, i5, h5⟩ := u_known (C := RX5) (T := TX5) (N := 4) (n := 4) hts inX5 (hts (.instantiable RX5 4) (by decide +kernel))
  obtain ⟨c6, i6, h6⟩ := u_known (C := RX6) (T := TX6) (N := 5) (n := 5) hts inX6 (hts (.instantiable RX6 5) (by decide +kernel))
  obtain ⟨c7, i7, h7⟩ := u_known (C := RX7) (T := TX7) (N := 9) (n := 9) hts inX7 (hts (.instantiable RX7 9) (by decide +kernel))
  refine ⟨fun k => match k with | 0 => c0 | 1 => c1 | 2 => c2 | 3 => c3 | 4 => c4 | 5 => c5 | 6 => c6 | _ => c7, fun k => match k with | 0 => i0 | 1 => i1 | 2 => i2 | 3 => i3 | 4 => i4 | 5 => i5 | 6 => i6 | _ => i7, fun k q hq => ?_⟩
  match k, hq with
  | 0, hq => cases hq; exact h0
  | 1, hq => cases hq; exact h1
  | 2, hq => cases hq; exact h2
  | 3, hq => cases hq; exact h3
  | 4, hq => cases hq; exact h4
  | 5, hq => cases hq; exact h5
  | 6, hq => cases hq; exact h6
  | 7, hq => cases hq; exact h7
  | k + 8, hq => simp at hq
theorem st_NW {args : Array Value} {s : State} {c : Nat → ClassId} (hts : ∀ w ∈ lw_tbl, w.before args s = true) (hrow : ∃ k : Class, s.vm.classes[c 3]? = some k ∧ k.kind = .array (c 0) (.array .int)) : NW c s :=
  ⟨va_Nw.of (A := args) rfl (hts _ (by decide +kernel)), va_Nw.of (A := args) rfl (hts _ (by decide +kernel)), va_Nw.of (A := args) rfl (hts _ (by decide +kernel)), va_Nw.of (A := args) rfl (hts _ (by decide +kernel)), va_Nw.of (A := args) rfl (hts _ (by decide +kernel)), va_Nw.of (A := args) rfl (hts _ (by decide +kernel)), va_Nw.of (A := args) rfl (hts _ (by decide +kernel)), over_moved (Vm.Alike.refl _) (hts (.arrayOver (.array .int)) (by decide +kernel)), hrow⟩
theorem st_strs : ∀ q ∈ strs, Cond.stringRef RX6 q.1 q.2 ∈ lw_tbl := by decide +kernel
theorem st_strx : ∀ q ∈ strs, Cond.exactly (.string RX6 q.1) "java/lang/String" ∈ flatC (Jvm.Cond.and given_1 narrow_1) := by decide +kernel
theorem st_NX {args : Array Value} {s : State} (hts : ∀ w ∈ lw_tbl, w.before args s = true) (hgv : (Jvm.Cond.and given_1 narrow_1).before args s = true) : NX s := by
  refine ⟨⟨va_Nw.of (A := args) rfl (hts _ (by decide +kernel)), va_Nw.of (A := args) rfl (hts _ (by decide +kernel)), va_Nw.of (A := args) rfl (hts _ (by decide +kernel))⟩, va_Nw.of (A := args) rfl (hts _ (by decide +kernel)), va_Nw.of (A := args) rfl (hts _ (by decide +kernel)), va_Nw.of (A := args) rfl (hts _ (by decide +kernel)), fun q hq => ?_⟩
  obtain ⟨a, _, _, _, h1, _⟩ := Cond.exactly_spec (flat_of_before _ hgv _ (st_strx q hq))
  exact ⟨a, vk_R.of (A := args) (hts _ (st_strs q hq)) h1⟩
theorem st_XF {args : Array Value} {s : State} (hts : ∀ w ∈ lw_tbl, w.before args s = true) (hgv : (Jvm.Cond.and given_1 narrow_1).before args s = true) : XF (fun q => s.heap.size ≤ q) s s.heap :=
  ⟨vx_Zqof (args := args) (hts _ (by decide +kernel)) (hts _ (by decide +kernel)) (flat_of_before _ hgv _ (by decide +kernel)) (fun a ha => Nat.not_le.mpr ha), vx_Zqof (args := args) (hts _ (by decide +kernel)) (hts _ (by decide +kernel)) (flat_of_before _ hgv _ (by decide +kernel)) (fun a ha => Nat.not_le.mpr ha)⟩
/-- what stands in the cells at the start -/
def S0 (f4 : Nat → Int32) : Nat → Nat → Int32
  | 0 => fun _ => 10
  | 4 => f4
  | 72 => wr (wr (wr (fun _ => 0) 0 0) 1 10) 2 0
  | _ => fun _ => 0
set_option maxHeartbeats 4000000 in
set_option maxRecDepth 100000 in
theorem law_entry {g : CtxT} {D : va_G} {c : Nat → ClassId} {b : Nat} (f4 : Nat → Int32) (hf4 : jJ7_fill_53178 600 (fun _ => 0) (-1) = some f4) (C : CX g D c cL_law RL wsL_law 24 room_1)
    (kk : ∀ (X W R B K Q T TB TK TQ Y : Nat → Nat), VV g D 24 57 1854 (List.flatten [wRf c X W R B K Q T TB TK TQ Y (S0 f4)]) [(0, .ref b)] 7 [.ref (X 0)]) : VV g D 24 0 0 [] [(0, .ref b)] 0 [] := by
  refine vv_new C (ci := 6) [.null, .null, .null, .null, .int 0] inlX6 tyX6 tyX6_ok kwL0_0 kwL0_1 kwL0_2 rfl (fun j hj => by rcases (show j = 0 ∨ j = 1 ∨ j = 2 ∨ j = 3 ∨ j = 4 by omega) with rfl | rfl | rfl | rfl | rfl <;> rfl) ⟨by decide, by decide⟩ dL_law_0 3 1 5 rfl ⟨rfl, rfl⟩ (fun q0 => ?_)
  refine vv_dup C dL_law_3 rfl 4 rfl ?_
  refine vv_callI C (fun l => mt_X6_init l D c q0 f4 hf4) gL_law_X6_init rfl rfl rfl kwL0_7 kwL0_2 kwL0_8 rfl yd_X6_init ⟨Nat.le_of_ble_eq_true rfl, Nat.le_of_ble_eq_true rfl⟩ [0] [] [] rfl (by decide) rfl (by decide) (by decide) [.ref q0] rfl (Nat.le_of_ble_eq_true rfl) ⟨by decide, by decide⟩ dL_law_4 7 57 1854 rfl ⟨rfl, rfl⟩ (fun u6 _ => ?_)
  exact kk (mA q0 u6.1) u6.2.1 u6.2.2.1 u6.2.2.2.1 u6.2.2.2.2.1 u6.2.2.2.2.2.1 u6.2.2.2.2.2.2.1 u6.2.2.2.2.2.2.2.1 u6.2.2.2.2.2.2.2.2.1 u6.2.2.2.2.2.2.2.2.2.1 u6.2.2.2.2.2.2.2.2.2.2
theorem RelB_S0 : RelB (S0 (fun i => if i < 600 then -1 else 0)) 0 0 0 0 10 (fun _ => 0) := by
  refine ⟨⟨rfl, rfl, rfl, rfl, rfl, rfl, rfl⟩, ⟨rfl, rfl⟩, ⟨by decide, by decide, by decide, by decide, by omega⟩, ?_, ?_, ?_, ?_, ?_, ?_, ?_, ?_⟩
  · refine ⟨by omega, by omega, fun j hj => absurd hj (Nat.not_lt_zero _), fun j hj => absurd hj (Nat.not_lt_zero _), ?_, ?_, ?_⟩
    · exact fun k _ h => absurd (show S0 (fun i => if i < 600 then -1 else 0) kM_strength k = 0 from rfl) h
    · exact fun a b h => absurd h.1 (Nat.not_lt_zero _)
    · exact fun q _ h => absurd (show (0 : Int32) < 0 from h) (by decide)
  · exact ⟨fun j hj => absurd hj (Nat.not_lt_zero _), fun _ _ => rfl, fun _ _ _ => rfl, fun j hj => absurd hj (Nat.not_lt_zero _), fun _ _ _ => rfl⟩
  · refine ⟨⟨by omega, fun k hk => absurd hk (Nat.not_lt_zero _)⟩, fun x y hx hy => ?_, fun k hk => absurd hk (Nat.not_lt_zero _)⟩
    show (if x + 30 * y < 600 then (-1 : Int32) else 0) = -1
    rw [if_pos (by omega)]
  · exact ⟨fun j hj => absurd hj (Nat.not_lt_zero _), fun a b h => absurd h.1 (Nat.not_lt_zero _), fun j hj => absurd hj (Nat.not_lt_zero _)⟩
  · exact ⟨by omega, ⟨fun i hi => absurd hi (Nat.not_lt_zero _), fun i j _ hj => absurd hj (Nat.not_lt_zero _), fun k _ h => absurd (show (0 : Int32) < 0 from of_decide_eq_true h) (by decide)⟩, fun i hi => absurd hi (Nat.not_lt_zero _)⟩
  · intro j hj; exact absurd hj (by omega)
  · intro j _ _; exact ⟨rfl, rfl, rfl, rfl⟩
  · intro j hj; exact absurd hj (by omega)
theorem B0_S0 : B0 0 (S0 (fun i => if i < 600 then -1 else 0)) (fun _ _ => 0) := ⟨⟨0, _, RelB_S0⟩, fun v hv => absurd hv (Nat.not_lt_zero v), rfl, rfl, rfl⟩
/-- from the entry, for every script -/
theorem whole_start {p : Program} {e : Env} {s : State} {m : MethodId} {below : List Frame} {meth : Method} {c : Code} (l : Launch) (hflags : l.flags = flags0) {b L : Nat} {xs : Nat → Int32} (hL : L ≤ 260) (C0 : lw_At p s m meth c b L xs) : W p l e room_1 s m #[Value.ref b] below meth c s.heap [] 0 0 (lw_Z below #[Value.ref b] s) (entryFrame m ([Value.ref b] : List Value).toArray 24) := by
  obtain ⟨hx, hb, hr, hml, hown, hts, hX, hbl, hlocks, hgv⟩ := id C0
  obtain ⟨ci, htys, hrow⟩ := st_cls hts
  obtain ⟨dC, dI, hD0⟩ := st_D hts
  have hK : va_K (dC, dI) vwCl (tyL ci) s := ⟨hD0, htys⟩
  have hNW : NW ci s := st_NW hts hrow
  have hNX : NX s := st_NX hts hgv
  have hXF : XF (fun q => s.heap.size ≤ q) s s.heap := st_XF hts hgv
  have hst : l.stackTraces = false := st_trace hflags
  have CA : CX (p, l, e, room_1, s, m, #[Value.ref b], below, meth, c, (fun q => s.heap.size ≤ q), s.heap, lw_Z below #[Value.ref b] s) (dC, dI) ci cL_law RL wsL_law 24 room_1 := ⟨hx, hb, hml, hown, fun w hw => hts w (wsL_law_in w hw), hK, fun _ h => h, hlocks, rfl, hNW⟩
  have XL : LX b L xs (p, l, e, room_1, s, m, #[Value.ref b], below, meth, c, (fun q => s.heap.size ≤ q), s.heap, lw_Z below #[Value.ref b] s) := ⟨hst, hXF, hNX, hX, hbl, Nat.not_le.mpr hbl⟩
  have fin : ∀ (ws : va_W) (lv : List (Nat × Value)), VV (p, l, e, room_1, s, m, #[Value.ref b], below, meth, c, (fun q => s.heap.size ≤ q), s.heap, lw_Z below #[Value.ref b] s) (dC, dI) 24 600064 7301640 ws lv 1428 [.int 1] := fun ws lv => by
    intro H locs ls hP hD hS hl
    refine va_forget hS.2.2 ?_
    exact lw_ret hx hb hr hlocks dL_law_1428
  have K : VV (p, l, e, room_1, s, m, #[Value.ref b], below, meth, c, (fun q => s.heap.size ≤ q), s.heap, lw_Z below #[Value.ref b] s) (dC, dI) 24 0 0 [] [(0, .ref b)] 0 [] :=
    law_entry _ (c_fill (by omega)) CA (fun X W R B K Q T TB TK TQ Y => walk_law X W R B K Q T TB TK TQ Y b L (by omega) xs _ CA XL fin (law_ok B0_S0))
  rw [lg_entry_eq]
  exact K s.heap [] _ (fun k q h => by simp at h) ⟨fun i j p q h => by simp at h, fun k q h => by simp at h⟩ va_S.rf (lv_entry [.ref b] (Nat.le_of_ble_eq_true rfl))
