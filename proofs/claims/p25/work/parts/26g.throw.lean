/-! methods that throw: what the tables say of the three exceptions, and of the texts -/
def exN : Nat → String
  | 1 => "java/lang/IllegalArgumentException"
  | 2 => "java/lang/IllegalStateException"
  | _ => "java/lang/IndexOutOfBoundsException"
abbrev exS : List String := ["java/lang/RuntimeException", "java/lang/Exception"]
def strs : List (Nat × String) := [(103, "no such wind"), (111, "not on the board"), (113, "no such lift or leak"), (119, "no room for a barrel"), (127, "no such barrel"), (129, "the same barrel, or no such strength"), (134, "these can't be tied"), (160, "no lashing"), (169, "no such goods"), (174, "the barrel does not float"), (180, "no such barrel or question"), (202, "no castaway can come there"), (210, "no such castaway or barrel"), (215, "no lashing to go over"), (217, "no such castaway"), (219, "the castaway is on no barrel"), (224, "no such castaway or question"), (229, "no such hours"), (238, "no such question"), (43, "no such place or size"), (48, "not all in the sea"), (54, "no such current or waves"), (61, "no more waters")]
abbrev decl3 : List Cond := [.declares (Bundle.initS "java/lang/RuntimeException"), .declares (Bundle.initS "java/lang/Exception"), .declares (Bundle.initS Bundle.tN)]
def ND (U : State) : Prop := va_Nw (.declares (Bundle.initS "java/lang/RuntimeException")) U ∧ va_Nw (.declares (Bundle.initS "java/lang/Exception")) U ∧ va_Nw (.declares (Bundle.initS Bundle.tN)) U
def NX (U : State) : Prop := ND U ∧ va_Nw (.castable (exN 1) (exN 1)) U ∧ va_Nw (.castable (exN 2) (exN 2)) U ∧ va_Nw (.castable (exN 3) (exN 3)) U ∧ ∀ q ∈ strs, ∃ sa, vk_R RX6 q.1 q.2 sa U
theorem NX.warm {s U : State} (hW : s.WarmedH U.vm) (h0 : NX s) : NX U := ⟨⟨h0.1.1.warmD hW, h0.1.2.1.warmD hW, h0.1.2.2.warmD hW⟩, h0.2.1.warmC hW, h0.2.2.1.warmC hW, h0.2.2.2.1.warmC hW, fun q hq => by
  obtain ⟨sa, hs⟩ := h0.2.2.2.2 q hq
  exact ⟨sa, hs.warm hW⟩⟩
theorem NX.same {u U : State} (hv : u.vm = U.vm) (h0 : NX u) : NX U := ⟨⟨h0.1.1.same rfl hv, h0.1.2.1.same rfl hv, h0.1.2.2.same rfl hv⟩, h0.2.1.same rfl hv, h0.2.2.1.same rfl hv, h0.2.2.2.1.same rfl hv, fun q hq => by
  obtain ⟨sa, hs⟩ := h0.2.2.2.2 q hq
  exact ⟨sa, hs.same hv.symm⟩⟩
/-- the two statics of Throwable lie in the heap, apart from what is written -/
def XF (A : Nat → Prop) (U : State) (H : Heap) : Prop := vx_Zq Bundle.tN "UNASSIGNED_STACK" Bundle.steD A U H ∧ vx_Zq Bundle.tN "SUPPRESSED_SENTINEL" Bundle.listD A U H
theorem XF.moved {A : Nat → Prop} {u U : State} {H : Heap} (hvm : u.vm.Alike U.vm) (h : XF A u H) : XF A U H := ⟨vx_Zq.moved hvm h.1, vx_Zq.moved hvm h.2⟩
theorem XF.kept {A : Nat → Prop} {U : State} {H H1 : Heap} (h : XF A U H) (hq : ∀ a : Nat, a < H.size → ¬ A a → H1[a]? = H[a]?) : XF A U H1 := ⟨vx_Zq.kept h.1 hq, vx_Zq.kept h.2 hq⟩
theorem XF.narrow {A B : Nat → Prop} {U : State} {H : Heap} (h : XF A U H) (hAB : ∀ q, B q → A q) : XF B U H := ⟨vx_Zq.narrow h.1 hAB, vx_Zq.narrow h.2 hAB⟩
def CPreX (D : va_G) (c : Nat → ClassId) (w : va_W) (sz : Nat) (U : State) : Prop := CPre D c w sz U ∧ XF (va_A w sz) U U.heap ∧ NX U
theorem CPreX_blind {D : va_G} {c : Nat → ClassId} {w : va_W} {sz : Nat} {av : List Value} : FrameBlind (va_Pc av (CPreX D c w sz)) := fun a U g mk q => by
  obtain ⟨q0, q1, q2, q3⟩ := q
  exact ⟨q0, (CPre_blind a U g mk ⟨q0, q1⟩).2, XF.moved (u := U) (U := U.calling g mk a) (Vm.Alike.refl U.vm) q2, q3.same rfl⟩
theorem th1_n : ∀ w ∈ (vx_atS RX6 45 (exN 1) exS).filter (fun w => !goodWord w), w ∈ Cond.castable (exN 1) (exN 1) :: decl3 := by decide +kernel
theorem th1_o : ∀ w ∈ Cond.classLink RX6 41 (exN 1) :: Cond.initialized (exN 1) :: vx_atS RX6 45 (exN 1) exS, vx_ot w = true := by decide +kernel
theorem th2_n : ∀ w ∈ (vx_atS RX6 63 (exN 2) exS).filter (fun w => !goodWord w), w ∈ Cond.castable (exN 2) (exN 2) :: decl3 := by decide +kernel
theorem th2_o : ∀ w ∈ Cond.classLink RX6 59 (exN 2) :: Cond.initialized (exN 2) :: vx_atS RX6 63 (exN 2) exS, vx_ot w = true := by decide +kernel
theorem th3_n : ∀ w ∈ (vx_atS RX6 79 (exN 3) exS).filter (fun w => !goodWord w), w ∈ Cond.castable (exN 3) (exN 3) :: decl3 := by decide +kernel
theorem th3_o : ∀ w ∈ Cond.classLink RX6 75 (exN 3) :: Cond.initialized (exN 3) :: vx_atS RX6 79 (exN 3) exS, vx_ot w = true := by decide +kernel
def DXi {R : Type} (l : Launch) (y : MethodName) (wy : List Cond) (rm : Room) (D : va_G) (c : Nat → ClassId) (w : va_W) (av : List Value) (q : Nat ⊕ R) (fr : R → Int32) (fw : R → va_W) (mc ms : Nat) : Prop :=
  ∀ sz, vx_Met l y wy rm (va_Pc av (CPreX D c w sz)) (va_Qi (fun (r' : Int32) (u : R) => q = .inr u ∧ r' = fr u) (fun u t => CPost D c (fw u) (va_A w sz) t) (va_A w sz))
    (vx_X (fun k : Nat => q = .inl k) (fun E k t => E = exN k ∧ CPost D c w (va_A w sz) t) (va_A w sz)) mc ms (va_A w sz)
/-- the words of one throw, as a method of RX6 has them -/
def ThOK (wy : List Cond) (rm : Room) (k ik ic : Nat) : Prop :=
  Cond.classLink RX6 ik (exN k) ∈ wy ∧ Cond.initialized (exN k) ∈ wy ∧ (∀ w ∈ (vx_atS RX6 ic (exN k) exS).filter goodWord, w ∈ wy) ∧ (∀ w ∈ (vx_atS RX6 ic (exN k) exS).filter (fun w => !goodWord w), w ∈ Cond.castable (exN k) (exN k) :: decl3) ∧ (∀ w ∈ Cond.classLink RX6 ik (exN k) :: Cond.initialized (exN k) :: vx_atS RX6 ic (exN k) exS, vx_ot w = true) ∧ 5 < rm.frames ∧ 90 ≤ rm.locals ∧ 1 ≤ rm.cells ∧ 6 ≤ rm.slots ∧ (k = 1 ∨ k = 2 ∨ k = 3)
theorem NX.cast {U : State} (h : NX U) {k : Nat} (hk : k = 1 ∨ k = 2 ∨ k = 3) : va_Nw (.castable (exN k) (exN k)) U := by
  rcases hk with rfl | rfl | rfl
  · exact h.2.1
  · exact h.2.2.1
  · exact h.2.2.2.1
theorem exN_fit (k : Nat) : Bundle.fit (exN k) = true := by
  unfold exN
  split <;> decide +kernel
theorem DXi_of {R : Type} {l : Launch} {y : MethodName} {wy wy' : List Cond} {rm : Room} {D : va_G} {c : Nat → ClassId} {w : va_W} {av : List Value} {mc ms : Nat} {cc : ByteArray} {nL : Nat} {q : Nat ⊕ R} {fr : R → Int32} {fw : R → va_W}
    (ho : y.cls = RX6) (hy : plainName y.cls = true) (hw : wy = Cond.code y cc nL (some .int) :: wy') (hlen : (lg_sl av).length ≤ nL) (hfl : l.stackTraces = false) (hmc : 1 ≤ mc ∧ 6 ≤ ms)
    (body : ∀ (g : CtxT), CX g D c cc RX6 wy nL rm →
      (∀ (u : R), q = .inr u → ∀ (lv : List (Nat × Value)) (pc : Nat), decode cc pc = .ok (.ireturn, 1) → VV g D nL mc ms (fw u) lv pc [.int (fr u)]) →
      (∀ (k : Nat), q = .inl k → ∀ (ik is ic : Nat) (tx : String) (lv : List (Nat × Value)) (pc : Nat), ThOK wy rm k ik ic → (is, tx) ∈ strs → decode cc pc = .ok (.new ik, 3) → decode cc (pc + 3) = .ok (.dup, 1) → decode cc (pc + 4) = .ok (.ldc is, 2) → decode cc (pc + 6) = .ok (.invokespecial ic, 3) → decode cc (pc + 9) = .ok (.athrow, 1) → VV g D nL 0 0 w lv pc []) →
      VV g D nL 0 0 w (lv_args 0 av) 0 []) : DXi l y wy rm D c w av q fr fw mc ms := by
  intro sz
  refine vx_ofW (cc := cc) (maxL := nL) (ret := some .int) hy hw ?_
  intro p e s m args below meth c0 s₁ B hml htab hv
  obtain ⟨rfl, ⟨hsz, hP, hK, hD0, hNW⟩, hXF, hNX⟩ := hv
  have hts := atoms_spec (ws := wy) B.pre
  have hown : s.vm.findClass RX6 = some m.cls := ho ▸ findClass_of_methodNamed B.named
  subst hsz
  rw [lg_entry_eq]
  refine body (p, l, e, _, s, m, _, below, meth, c0, va_A w s.heap.size, s.heap, _) ⟨B.exec, B.bytes, hml, hown, hts, hK, fun q h => Or.inr h, B.notSynchronized, rfl, hNW⟩ ?_ ?_ s.heap [] _ hP hD0.self va_S.rf (lv_entry av hlen)
  · intro u hu lv pc hd H locs ls hP hD hS hl
    exact vx_ret (W.iret B.exec B.bytes B.returns (fun t ht hW => ⟨⟨fr u, u, rfl, ⟨hu, rfl⟩, by rw [ht]; exact hP, va_K.moved hW.alike hK, hD⟩, hS.F ht⟩) hS.2.2 hd B.notSynchronized)
  · intro k hk ik is ic tx lv pc hT hs d0 d3 d4 d6 d9 H locs ls hP hD hS hl
    obtain ⟨h1, h2, h3, h4, h5, h6, h7, h8, h9, h10⟩ := hT
    obtain ⟨sa, hsa⟩ := hNX.2.2.2.2 _ hs
    refine vx_throwS (names := exS) (cls := exN k) (text := tx) (sa := sa) B.exec B.bytes hfl hown (exN_fit k) (by decide +kernel) (hts _ h1) (hts _ h2) hsa ?_ h5 hXF.1 hXF.2 hS (hl.1.trans hml.symm) d0 d3 d4 d6 d9 (fun x hx => absurd (htab x hx) id) (show 2 + 3 < rm.frames from h6) (show 0 + (13 * (2 + 1) + 43) ≤ rm.locals by omega) (show 0 + 1 ≤ rm.cells from h8) (show 0 + 6 ≤ rm.slots by omega) B.notSynchronized ?_ hS.2.2 (by omega) (by omega)
    · exact vx_hat (fun w hw => hts _ (h3 w hw)) h4 (fun w hw => by
        rcases List.mem_cons.mp hw with h | hw
        · rw [h]; exact va_Nw.use rfl (hNX.cast h10)
        rcases List.mem_cons.mp hw with h | hw
        · rw [h]; exact va_Nw.use rfl hNX.1.1
        rcases List.mem_cons.mp hw with h | hw
        · rw [h]; exact va_Nw.use rfl hNX.1.2.1
        rw [List.mem_singleton.mp hw]; exact va_Nw.use rfl hNX.1.2.2)
    · intro t hvm hz hk2
      refine ⟨k, hk, ⟨rfl, ?_, va_K.moved hvm hK, hD⟩, ?_⟩
      · intro i x hx
        exact (hP i x hx).kept (hk2 _ (hP i x hx).lt)
      · exact ⟨Nat.le_trans hS.1 hz, fun z hz1 hz2 => by rw [hk2 z (Nat.lt_of_lt_of_le hz1 hS.1)]; exact hS.2.1 z hz1 hz2⟩
