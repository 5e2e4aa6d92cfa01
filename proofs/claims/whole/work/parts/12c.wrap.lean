/-! the law's own calls of the class -/
abbrev aL (c : Nat → ClassId) (a n : Nat) (f : Nat → Int64) : Nat × va_E := (a, .inl (c 2, n, .inr (.inl f)))
def NC (U : State) : Prop := ∀ i ∈ [1, 2, 3], ∀ j ∈ [1, 2, 3], i ≠ j → va_Nc (exN i) (exN j) U
theorem NC.moved {u U : State} (hvm : u.vm.Alike U.vm) (h : NC u) : NC U := fun i hi j hj hn => (h i hi j hj hn).moved hvm
def CPreW (D : va_G) (c : Nat → ClassId) (w : va_W) (sz : Nat) (U : State) : Prop := CPreX D c w sz U ∧ NC U
theorem CPreW_blind {D : va_G} {c : Nat → ClassId} {w : va_W} {sz : Nat} {av : List Value} : FrameBlind (va_Pc av (CPreW D c w sz)) := fun a U g mk q => by
  obtain ⟨q0, q1, q2⟩ := q
  exact ⟨q0, (CPreX_blind a U g mk ⟨q0, q1⟩).2, NC.moved (u := U) (U := U.calling g mk a) (Vm.Alike.refl U.vm) q2⟩
def DWi (l : Launch) (y : MethodName) (wy : List Cond) (rm : Room) (D : va_G) (c : Nat → ClassId) (w : va_W) (av : List Value) (r : Int32) (w' : va_W) (mc ms : Nat) : Prop :=
  ∀ sz, Met l y wy rm (va_Pc av (CPreW D c w sz)) (va_Qi (fun (r' : Int32) (_ : Unit) => r' = r) (fun _ t => CPost D c w' (va_A w sz) t) (va_A w sz)) mc ms (va_A w sz)
/-- what a wrapper's start has beside -/
def WX (hh : List (Nat × Nat × Nat × Nat)) : CtxT → Prop
  | (_, l, _, _, s, _, _, _, _, c0, A, H0, _) => l.stackTraces = false ∧ XF A s H0 ∧ NX s ∧ NC s ∧ c0.exceptionTable.toList = tableOf hh
theorem Met.ofWH {l : Launch} {y : MethodName} {ws ws' : List Cond} {rm : Room} {Pc : Array Value → State → Prop} {Qc : Array Value → State → Outcome → State → Prop} {mc ms : Nat} {free : Addr → Prop} {cc : ByteArray} {maxL : Nat} {ret : Option FieldType} {hh : List (Nat × Nat × Nat × Nat)}
    (hy : plainName y.cls = true) (hw : ws = Cond.codeWith y cc maxL ret hh :: ws')
    (body : ∀ p e s m args below meth c s₁, BodyLoose p l y (headSpec ws rm) cc maxL ret e s m args below meth c s₁ → c.maxLocals = maxL → Pc args s →
      W p l e (headSpec ws rm).room s m args below meth c s.heap [] 0 0 (MQ below Qc args s mc ms free) (entryFrame m args maxL)) : Met l y ws rm Pc Qc mc ms free := by
  refine MetFree.of_bodyS (code := cc) (maxLocals := maxL) (ret := ret) hy ?_ ?_
  · intro args s m h hn
    obtain ⟨m9, meth, c, hn9, h1, h2, h3, h4, -, h5, h6, -⟩ := Cond.codeWith_spec (atoms_spec (ws := ws) h _ (by rw [hw]; exact List.mem_cons_self))
    cases hn.symm.trans hn9
    exact ⟨meth, c, h1, h2, h3, h4, h5, h6⟩
  · intro p e s m args below meth c s₁ B hml hP _
    have hh0 : s₁.heap = s.heap := by rw [B.state]; rfl
    obtain ⟨t, a1, o, b1, b2, b3⟩ := body p e s m args below meth c s₁ B hml hP s₁ hh0 (Stand.of_body B)
    exact ⟨t, o, a1, b1, b2, ⟨b3.1, b3.2⟩⟩
theorem DWi_of {l : Launch} {y : MethodName} {wy wy' : List Cond} {rm : Room} {D : va_G} {c : Nat → ClassId} {w : va_W} {av : List Value} {w' : va_W} {mc ms : Nat} {cc : ByteArray} {nL : Nat} {hh : List (Nat × Nat × Nat × Nat)} {r : Int32} (own : String) (ho : y.cls = own) (hy : plainName y.cls = true) (hw : wy = Cond.codeWith y cc nL (some .int) hh :: wy') (hlen : (lg_sl av).length ≤ nL) (hfl : l.stackTraces = false)
    (body : ∀ (g : CtxT), CX g D c cc own wy nL rm → WX hh g → (∀ (lv : List (Nat × Value)) (pc : Nat), decode cc pc = .ok (.ireturn, 1) → VV g D nL mc ms w' lv pc [.int r]) → VV g D nL 0 0 w (lv_args 0 av) 0 []) : DWi l y wy rm D c w av r w' mc ms := by
  intro sz
  refine Met.ofWH (cc := cc) (maxL := nL) (ret := some .int) (hh := hh) hy hw ?_
  intro p e s m args below meth c0 s₁ B hml hv
  obtain ⟨rfl, ⟨⟨hsz, hP, hK, hD0, hNW⟩, hXF, hNX⟩, hNC⟩ := hv
  have hts := atoms_spec (ws := wy) B.pre
  have hown : s.vm.findClass own = some m.cls := ho ▸ findClass_of_methodNamed B.named
  have htab := vx_table (x := y) B (hts _ (by rw [hw]; exact List.mem_cons_self))
  subst hsz
  rw [lg_entry_eq]
  exact body (p, l, e, _, s, m, _, below, meth, c0, va_A w s.heap.size, s.heap, _) ⟨B.exec, B.bytes, hml, hown, hts, hK, fun q h => Or.inr h, B.notSynchronized, rfl, hNW⟩ ⟨hfl, hXF, hNX, hNC, htab⟩
    (fun lv pc hd H locs ls hP hD hS hl => W.iret B.exec B.bytes B.returns (fun t ht hW => ⟨⟨r, (), rfl, rfl, by rw [ht]; exact hP, va_K.moved hW.alike hK, hD⟩, hS.F ht⟩) hS.2.2 hd B.notSynchronized)
    s.heap [] _ hP hD0.self va_S.rf (lv_entry av hlen)
section VVW
variable {g : CtxT} {D : va_G} {c : Nat → ClassId} {cc : ByteArray} {own : String} {Ts : List Cond} {nL cells slots pc : Nat} {rm : Room} {ws : va_W} {lv : List (Nat × Value)} {st : List Value}
theorem vv_last (C : CX g D c cc own Ts nL rm) {a q0 n : Nat} {f : Nat → Int64} {i : Int32} {x : Int64} (ws' : va_W) (ha : ws[q0]? = some (aL c a n f)) (hin : vp_in i n) (hws : ws.set q0 (aL c a n (vp_updL f i.toNatClampNeg x)) = ws') (hd : decode cc pc = .ok (.lastore, 1)) (pc' : Nat) (hp : pc + 1 = pc') (kk : VV g D nL cells slots ws' lv pc' st) : VV g D nL cells slots ws lv pc (.long x :: .int i :: .ref a :: st) := by
  obtain ⟨p, l, e, R, s, m, args, below, meth, c0, A, H0, Q⟩ := g
  obtain ⟨hx, hb, hml, hown, hts, hK, hA, hlk, rfl, hNW⟩ := C
  subst hp; subst hws
  intro H locs ls hP hD hS hl
  exact va_last hx hb hK hP hD hS q0 2 ha rfl hin hd (fun H locs hP hD hS => kk H locs ls hP hD hS hl)
theorem vv_lald (C : CX g D c cc own Ts nL rm) {a q0 n : Nat} {f : Nat → Int64} {i : Int32} (ha : ws[q0]? = some (aL c a n f)) (hin : vp_in i n) (hd : decode cc pc = .ok (.laload, 1)) (pc' : Nat) (hp : pc + 1 = pc') (kk : VV g D nL cells slots ws lv pc' (.long (f i.toNatClampNeg) :: st)) : VV g D nL cells slots ws lv pc (.int i :: .ref a :: st) := by
  obtain ⟨p, l, e, R, s, m, args, below, meth, c0, A, H0, Q⟩ := g
  obtain ⟨hx, hb, hml, hown, hts, hK, hA, hlk, rfl, hNW⟩ := C
  subst hp
  intro H locs ls hP hD hS hl
  exact va_lald hx hb hK hP q0 2 ha rfl hin hd (kk H locs ls hP hD hS hl)
/-- the handlers ahead don't take exN k, this one does -/
def CaughtBy (own : String) (Ts : List Cond) (pc : Nat) (k : Nat) (h : Nat) : List (Nat × Nat × Nat × Nat) → Prop
  | [] => False
  | (a, b, hp, ct) :: r => a ≤ pc ∧ pc < b ∧ ct ≠ 0 ∧ ∃ j ∈ [1, 2, 3], Cond.classLink own ct (exN j) ∈ Ts ∧ ((k = j ∧ hp = h) ∨ (k ≠ j ∧ CaughtBy own Ts pc k h r))
variable {R : Type} {q : Nat ⊕ R} {fr : R → Int32} {fw : R → va_W}
variable {y : MethodName} {wy wy' : List Cond} {rmy : Room} {wc : va_W} {mc ms maxL n index b ci N : Nat} {ret : Option FieldType} {bytes : ByteArray} {Cn : String} {T : u_T} {As : List Value} {fs : List Value}
theorem vv_callX {hh : List (Nat × Nat × Nat × Nat)} (C : CX g D c cc own Ts nL rm) (X : WX hh g) (M : ∀ l : Launch, l.stackTraces = false → DXi l y wy rmy D c wc (.ref b :: As) q fr fw mc ms) (hG : GoodIn Ts (wsV own index Cn y wy)) (hwy : wy = Cond.code y bytes maxL ret :: wy') (hrc : rmy.cells = mc) (hrs : rmy.slots = ms)
    (hyd : y.cls = Cn ∧ y.cls ≠ "java/lang/invoke/MethodHandle" ∧ y.cls ≠ "java/lang/invoke/VarHandle" ∧ (parseMethodDescriptor y.desc).map (fun d => d.parameters.length) = some n) (hR : rmy.frames + 1 ≤ rm.frames ∧ 8 + (maxL + 11) + rmy.locals ≤ rm.locals)
    (isC : List Nat) (hC : isC.map (fun i => ws[i]?) = wc.map some) (hnd : va_nd isC = true) (k0 : Nat) (hk0 : wc[k0]? = some (b, .inr (ci, fs))) (hci : vwCl[ci]? = some (Cn, T, N)) (ws1 : R → va_W) (src : List (Bool × Nat)) (hsrc : ∀ u, src.map (srcf ws (fw u)) = (ws1 u).map some) (hok : src.all (fun o => o.1 || !(isC.contains o.2)) = true) (hadr : ∀ u, (ws1 u).map Prod.fst = ws.map Prod.fst)
    (src0 : List (Bool × Nat)) (hsrc0 : src0.map (srcf ws wc) = ws.map some) (hok0 : src0.all (fun o => o.1 || !(isC.contains o.2)) = true) (hAs : As.length = n) (rest : List Value) (hst : st = As.reverse ++ .ref b :: rest) (hcat : (rest.map fun v => v.category).sum ≤ 8)
    (hf : cells + mc ≤ rm.cells ∧ slots + ms ≤ rm.slots) (hd : decode cc pc = .ok (.invokevirtual index, 3)) (pc' cells' slots' : Nat) (hp : pc + 3 = pc') (hcs : cells + mc = cells' ∧ slots + ms = slots')
    (kx : ∀ k, q = .inl k → k ∈ [1, 2, 3] ∧ ∃ h, CaughtBy own Ts pc k h hh ∧ ∀ q9, VV g D nL cells' slots' ws lv h [.ref q9])
    (kk : ∀ u, q = .inr u → VV g D nL cells' slots' (ws1 u) lv pc' (.int (fr u) :: rest)) : VV g D nL cells slots ws lv pc st := by
  obtain ⟨p, l, e, R, s, m, args, below, meth, c0, A, H0, Q⟩ := g
  obtain ⟨hx, hb, hml, hown, hts, hK, hA, hlk, rfl, hNW⟩ := C
  obtain ⟨hfl, hXF, hNX, hNC, htab⟩ := X
  obtain ⟨rfl, rfl⟩ := hcs
  subst hp; subst hst
  intro H locs ls hP hD hS hl
  have hF := va_free hD hS hA isC hC
  refine vx_calli (vx_runV (As := As) (rest := rest) ⟨hx, hb, hml, hown, hts⟩ (M l hfl H.size) (cwV n hts hG hwy hrc hrs hyd hR) ⟨CPreX_blind, va_recv hK (hP.sub isC (fm_of_map hC)) hci hk0, fun U hU hW => ⟨rfl, ⟨by rw [hU], by rw [hU]; exact hP.sub isC (fm_of_map hC), va_K.moved hW.alike hK, (hD.sub isC hnd hC).weaken (fun _ _ _ _ => trivial), hNW.warm hW⟩, by rw [hU]; exact ((hXF.kept (fun a ha hna => hS.2.1 a ha hna)).narrow hF).moved hW.alike, hNX.warm hW⟩⟩ rfl hAs hl.1 rfl (lv_room hcat) hd hf) hS (fun q _ h => hF q h) hF (fun q _ h => hF q h)
    (fun E ce q9 k t H1 locs1 ht hvm hw hB hz1 hk1 hS1 hce hcv hcl => ?_) (fun r_ u t H1 locs1 ht hvm hw hB hz1 hk1 hS1 => ?_)
  · obtain ⟨rfl, hP1, hK1, hD1⟩ := hB
    rw [ht] at hP1
    obtain ⟨hP2, hD2⟩ := va_put_back hP hD isC hC hk1 src0 hsrc0 hok0 rfl hP1
    obtain ⟨hk, h, hcb, kw⟩ := kx k hw
    -- along the table
    have key : ∀ (r : List (Nat × Nat × Nat × Nat)), CaughtBy own Ts pc k h r → ∃ pre x suf, tableOf r = pre ++ x :: suf ∧ (∀ z ∈ pre, z.catchType ≠ 0 ∧ ∃ nm : String, (Cond.classLink own z.catchType nm).before args s = true ∧ va_Nc (exN k) nm s) ∧ covers x pc = true ∧ x.catchType ≠ 0 ∧ (Cond.classLink own x.catchType (exN k)).before args s = true ∧ x.handlerPc = h := by
      intro r
      induction r with
      | nil => intro hq; exact absurd hq (by unfold CaughtBy; exact id)
      | cons a r ih =>
        obtain ⟨a1, a2, a3, a4⟩ := a
        intro hq
        unfold CaughtBy at hq
        obtain ⟨h1, h2, h3, j, hj, h4, h5⟩ := hq
        rcases h5 with ⟨rfl, rfl⟩ | ⟨hne, h6⟩
        · exact ⟨[], ⟨a1, a2, a3, a4⟩, tableOf r, rfl, fun z hz => absurd hz List.not_mem_nil, by simp [h1, h2], h3, hts _ h4, rfl⟩
        · obtain ⟨pre, x, suf, e1, e2, e3, e4, e5, e6⟩ := ih h6
          refine ⟨⟨a1, a2, a3, a4⟩ :: pre, x, suf, by show _ :: tableOf r = _; rw [e1]; rfl, fun z hz => ?_, e3, e4, e5, e6⟩
          rcases List.mem_cons.mp hz with rfl | hz
          · exact ⟨h3, exN j, hts _ h4, hNC k hk j hj hne⟩
          · exact e2 z hz
    obtain ⟨pre, x, suf, e1, e2, e3, e4, e5, e6⟩ := key hh hcb
    refine vx_catch (E := exN k) (name := exN k) hown pre x suf (htab.trans e1) (fun z hz => Or.inr (e2 z hz)) e3 e4 e5 (va_Nw.use rfl (hNX.cast (by simpa using hk))) hce hcv hcl ?_
    rw [e6]
    exact kw q9 H1 locs1 ls hP2 hD2 hS1 hl
  · obtain ⟨hq, rfl⟩ := hw
    obtain ⟨hP1, hK1, hD1⟩ := hB
    rw [ht] at hP1
    obtain ⟨hP2, hD2⟩ := va_put_back hP hD isC hC hk1 src (hsrc u) hok (hadr u) hP1
    exact kk u hq H1 locs1 ls hP2 hD2 hS1 hl
end VVW
def kcL_addBarrel : Nat → Int32 := fun k => if k = 1 then 1 else 2
abbrev rmL_addBarrel : Room := { frames := 7, cells := 1, slots := 6, locals := 114 }
theorem yd_L_addBarrel : yL_addBarrel.cls ≠ "java/lang/invoke/MethodHandle" ∧ yL_addBarrel.cls ≠ "java/lang/invoke/VarHandle" ∧ (parseMethodDescriptor yL_addBarrel.desc).map (fun d => d.parameters.length) = some 6 := by decide +kernel
theorem kwL_addBarrel_1 : Cond.classLink RL 13 "java/lang/IllegalArgumentException" ∈ wsL_addBarrel := List.mem_of_getElem? (i := 1) rfl
theorem kwL_addBarrel_2 : Cond.classLink RL 15 "java/lang/IllegalStateException" ∈ wsL_addBarrel := List.mem_of_getElem? (i := 2) rfl
set_option maxHeartbeats 4000000 in
set_option maxRecDepth 100000 in
theorem mt_L_addBarrel (l : Launch) (hfl : l.stackTraces = false) (D : va_G) (c : Nat → ClassId) (X : Nat → Nat) (W : Nat → Nat) (R : Nat → Nat) (B : Nat → Nat) (K : Nat → Nat) (Q : Nat → Nat) (T : Nat → Nat) (Y : Nat → Nat) (X_ropes : Int32) (R_hour : Int32) (R_broken : Int32) (B_number : Int32) (B_column : Nat → Int32) (B_row : Nat → Int32) (B_lift : Nat → Int32) (B_leak : Nat → Int32) (B_state : Nat → Int32) (B_x : Nat → Int32) (B_y : Nat → Int32) (B_piece : Nat → Int32) (a1 : Int32) (a2 : Int32) (a3 : Int32) (a4 : Int32) (o : Nat) (f : Nat → Int64) (q0 : Nat ⊕ (Int32 × Int32 × (Nat → Int32) × (Nat → Int32) × (Nat → Int32) × (Nat → Int32) × (Nat → Int32) × (Nat → Int32) × (Nat → Int32))) (h : jX6_addBarrel B_number B_column B_row B_lift B_leak B_state B_x B_y B_piece a1 a2 a3 a4 = some q0) (hq : ∀ k, q0 = .inl k → k ∈ [1, 2]) : DWi l yL_addBarrel wsL_addBarrel rmL_addBarrel D c ((wX6_addBarrel c X W R B K Q T Y X_ropes R_hour R_broken B_number B_column B_row B_lift B_leak B_state B_x B_y B_piece) ++ [aL c o 1 f]) [.ref (X 0), .int a1, .int a2, .int a3, .int a4, .ref o] (sel q0 kcL_addBarrel (fun _ => 0)) (sel q0 (fun _ => (wX6_addBarrel c X W R B K Q T Y X_ropes R_hour R_broken B_number B_column B_row B_lift B_leak B_state B_x B_y B_piece) ++ [aL c o 1 f]) (fun (u : Int32 × Int32 × (Nat → Int32) × (Nat → Int32) × (Nat → Int32) × (Nat → Int32) × (Nat → Int32) × (Nat → Int32) × (Nat → Int32)) => (wX6_addBarrel c X W R B K Q T Y X_ropes R_hour R_broken u.2.1 u.2.2.1 u.2.2.2.1 u.2.2.2.2.1 u.2.2.2.2.2.1 B_state u.2.2.2.2.2.2.1 u.2.2.2.2.2.2.2.1 u.2.2.2.2.2.2.2.2) ++ [aL c o 1 (vp_updL f 0 u.1.toInt64)])) 1 6 := by
  refine DWi_of (cc := cL_addBarrel) (nL := 7) RL rfl (by decide) rfl (Nat.le_of_ble_eq_true rfl) hfl (fun g C hXw ret => ?_)
  refine vv_lv [0, 1, 2, 3, 4, 5] [(0, .ref (X 0)), (1, .int a1), (2, .int a2), (3, .int a3), (4, .int a4), (5, .ref o)] rfl ?_
  refine vv_aload C dL_addBarrel_0 5 rfl 2 rfl ?_
  refine vv_iconst C (v := 0) dL_addBarrel_2 (by decide) 3 rfl ?_
  refine vv_aload_n C dL_addBarrel_3 rfl 0 rfl 4 rfl ?_
  refine vv_iload_n C dL_addBarrel_4 rfl 1 rfl 5 rfl ?_
  refine vv_iload_n C dL_addBarrel_5 rfl 2 rfl 6 rfl ?_
  refine vv_iload_n C dL_addBarrel_6 rfl 3 rfl 7 rfl ?_
  refine vv_iload C dL_addBarrel_7 4 rfl 9 rfl ?_
  refine vv_callX C hXw (fun l hfl => mt_X6_addBarrel l hfl D c X W R B K Q T Y X_ropes R_hour R_broken B_number B_column B_row B_lift B_leak B_state B_x B_y B_piece a1 a2 a3 a4 q0 h) gL_addBarrel_X6_addBarrel rfl rfl rfl yd_X6_addBarrel ⟨Nat.le_of_ble_eq_true rfl, Nat.le_of_ble_eq_true rfl⟩ [0, 1, 2, 3, 4, 5, 6, 7, 8, 9, 10] rfl (by decide) 0 rfl rfl (fun u => (wX6_addBarrel c X W R B K Q T Y X_ropes R_hour R_broken u.2.1 u.2.2.1 u.2.2.2.1 u.2.2.2.2.1 u.2.2.2.2.2.1 B_state u.2.2.2.2.2.2.1 u.2.2.2.2.2.2.2.1 u.2.2.2.2.2.2.2.2) ++ [aL c o 1 f]) [(true, 0), (true, 1), (true, 2), (true, 3), (true, 4), (true, 5), (true, 6), (true, 7), (true, 8), (true, 9), (true, 10), (false, 11)] (fun _ => rfl) (by decide) (fun _ => rfl) [(true, 0), (true, 1), (true, 2), (true, 3), (true, 4), (true, 5), (true, 6), (true, 7), (true, 8), (true, 9), (true, 10), (false, 11)] rfl (by decide) rfl [.int 0, .ref o] rfl (Nat.le_of_ble_eq_true rfl) ⟨Nat.le_of_ble_eq_true rfl, Nat.le_of_ble_eq_true rfl⟩ dL_addBarrel_9 12 1 6 rfl ⟨rfl, rfl⟩ (fun k e => ?_) (fun u e => ?_)
  · have hk := hq k e
    subst e
    rcases (show k = 1 ∨ k = 2 by simpa using hk) with rfl | rfl
    · refine ⟨by decide, 17, ⟨by decide, by decide, by decide, 1, by decide, kwL_addBarrel_1, Or.inl ⟨rfl, rfl⟩⟩, fun q9 => ?_⟩
      refine vv_astore C [(6, .ref q9), (0, .ref (X 0)), (1, .int a1), (2, .int a2), (3, .int a3), (4, .int a4), (5, .ref o)] dL_addBarrel_17 (by decide) rfl 19 rfl ?_
      refine vv_iconst C (v := 1) dL_addBarrel_19 (by decide) 20 rfl ?_
      exact ret _ _ dL_addBarrel_20
    · refine ⟨by decide, 21, ⟨by decide, by decide, by decide, 1, by decide, kwL_addBarrel_1, Or.inr ⟨by decide, ⟨by decide, by decide, by decide, 2, by decide, kwL_addBarrel_2, Or.inl ⟨rfl, rfl⟩⟩⟩⟩, fun q9 => ?_⟩
      refine vv_astore C [(6, .ref q9), (0, .ref (X 0)), (1, .int a1), (2, .int a2), (3, .int a3), (4, .int a4), (5, .ref o)] dL_addBarrel_21 (by decide) rfl 23 rfl ?_
      refine vv_iconst C (v := 2) dL_addBarrel_23 (by decide) 24 rfl ?_
      exact ret _ _ dL_addBarrel_24
  · subst e
    refine vv_i2l C dL_addBarrel_12 13 rfl ?_
    refine vv_last C (q0 := 11) ((wX6_addBarrel c X W R B K Q T Y X_ropes R_hour R_broken u.2.1 u.2.2.1 u.2.2.2.1 u.2.2.2.2.1 u.2.2.2.2.2.1 B_state u.2.2.2.2.2.2.1 u.2.2.2.2.2.2.2.1 u.2.2.2.2.2.2.2.2) ++ [aL c o 1 (vp_updL f 0 u.1.toInt64)]) rfl (inB_t (by decide)) rfl dL_addBarrel_13 14 rfl ?_
    refine vv_goto C 25 dL_addBarrel_14 (by decide) ?_
    refine vv_iconst C (v := 0) dL_addBarrel_25 (by decide) 26 rfl ?_
    exact ret _ _ dL_addBarrel_26
def kcL_addCastaway : Nat → Int32 := fun k => if k = 3 then 1 else 2
abbrev rmL_addCastaway : Room := { frames := 7, cells := 1, slots := 6, locals := 111 }
theorem yd_L_addCastaway : yL_addCastaway.cls ≠ "java/lang/invoke/MethodHandle" ∧ yL_addCastaway.cls ≠ "java/lang/invoke/VarHandle" ∧ (parseMethodDescriptor yL_addCastaway.desc).map (fun d => d.parameters.length) = some 3 := by decide +kernel
theorem kwL_addCastaway_1 : Cond.classLink RL 21 "java/lang/IndexOutOfBoundsException" ∈ wsL_addCastaway := List.mem_of_getElem? (i := 1) rfl
theorem kwL_addCastaway_2 : Cond.classLink RL 15 "java/lang/IllegalStateException" ∈ wsL_addCastaway := List.mem_of_getElem? (i := 2) rfl
set_option maxHeartbeats 4000000 in
set_option maxRecDepth 100000 in
theorem mt_L_addCastaway (l : Launch) (hfl : l.stackTraces = false) (D : va_G) (c : Nat → ClassId) (X : Nat → Nat) (W : Nat → Nat) (R : Nat → Nat) (B : Nat → Nat) (K : Nat → Nat) (Q : Nat → Nat) (T : Nat → Nat) (Y : Nat → Nat) (X_ropes : Int32) (R_hour : Int32) (R_broken : Int32) (B_number : Int32) (B_people : Nat → Int32) (B_state : Nat → Int32) (K_number : Int32) (K_seat : Nat → Int32) (K_state : Nat → Int32) (a1 : Int32) (o : Nat) (f : Nat → Int64) (q0 : Nat ⊕ (Int32 × (Nat → Int32) × Int32 × (Nat → Int32) × (Nat → Int32))) (h : jX6_addCastaway B_number B_people B_state K_number K_seat K_state a1 = some q0) (hq : ∀ k, q0 = .inl k → k ∈ [3, 2]) : DWi l yL_addCastaway wsL_addCastaway rmL_addCastaway D c ((wX6_addCastaway c X W R B K Q T Y X_ropes R_hour R_broken B_number B_people B_state K_number K_seat K_state) ++ [aL c o 1 f]) [.ref (X 0), .int a1, .ref o] (sel q0 kcL_addCastaway (fun _ => 0)) (sel q0 (fun _ => (wX6_addCastaway c X W R B K Q T Y X_ropes R_hour R_broken B_number B_people B_state K_number K_seat K_state) ++ [aL c o 1 f]) (fun (u : Int32 × (Nat → Int32) × Int32 × (Nat → Int32) × (Nat → Int32)) => (wX6_addCastaway c X W R B K Q T Y X_ropes R_hour R_broken B_number u.2.1 B_state u.2.2.1 u.2.2.2.1 u.2.2.2.2) ++ [aL c o 1 (vp_updL f 0 u.1.toInt64)])) 1 6 := by
  refine DWi_of (cc := cL_addCastaway) (nL := 4) RL rfl (by decide) rfl (Nat.le_of_ble_eq_true rfl) hfl (fun g C hXw ret => ?_)
  refine vv_lv [0, 1, 2] [(0, .ref (X 0)), (1, .int a1), (2, .ref o)] rfl ?_
  refine vv_aload_n C dL_addCastaway_0 rfl 2 rfl 1 rfl ?_
  refine vv_iconst C (v := 0) dL_addCastaway_1 (by decide) 2 rfl ?_
  refine vv_aload_n C dL_addCastaway_2 rfl 0 rfl 3 rfl ?_
  refine vv_iload_n C dL_addCastaway_3 rfl 1 rfl 4 rfl ?_
  refine vv_callX C hXw (fun l hfl => mt_X6_addCastaway l hfl D c X W R B K Q T Y X_ropes R_hour R_broken B_number B_people B_state K_number K_seat K_state a1 q0 h) gL_addCastaway_X6_addCastaway rfl rfl rfl yd_X6_addCastaway ⟨Nat.le_of_ble_eq_true rfl, Nat.le_of_ble_eq_true rfl⟩ [0, 1, 2, 3, 4, 5, 6, 7] rfl (by decide) 0 rfl rfl (fun u => (wX6_addCastaway c X W R B K Q T Y X_ropes R_hour R_broken B_number u.2.1 B_state u.2.2.1 u.2.2.2.1 u.2.2.2.2) ++ [aL c o 1 f]) [(true, 0), (true, 1), (true, 2), (true, 3), (true, 4), (true, 5), (true, 6), (true, 7), (false, 8)] (fun _ => rfl) (by decide) (fun _ => rfl) [(true, 0), (true, 1), (true, 2), (true, 3), (true, 4), (true, 5), (true, 6), (true, 7), (false, 8)] rfl (by decide) rfl [.int 0, .ref o] rfl (Nat.le_of_ble_eq_true rfl) ⟨Nat.le_of_ble_eq_true rfl, Nat.le_of_ble_eq_true rfl⟩ dL_addCastaway_4 7 1 6 rfl ⟨rfl, rfl⟩ (fun k e => ?_) (fun u e => ?_)
  · have hk := hq k e
    subst e
    rcases (show k = 3 ∨ k = 2 by simpa using hk) with rfl | rfl
    · refine ⟨by decide, 12, ⟨by decide, by decide, by decide, 3, by decide, kwL_addCastaway_1, Or.inl ⟨rfl, rfl⟩⟩, fun q9 => ?_⟩
      refine vv_astore_n C [(3, .ref q9), (0, .ref (X 0)), (1, .int a1), (2, .ref o)] dL_addCastaway_12 rfl (by decide) rfl 13 rfl ?_
      refine vv_iconst C (v := 1) dL_addCastaway_13 (by decide) 14 rfl ?_
      exact ret _ _ dL_addCastaway_14
    · refine ⟨by decide, 15, ⟨by decide, by decide, by decide, 3, by decide, kwL_addCastaway_1, Or.inr ⟨by decide, ⟨by decide, by decide, by decide, 2, by decide, kwL_addCastaway_2, Or.inl ⟨rfl, rfl⟩⟩⟩⟩, fun q9 => ?_⟩
      refine vv_astore_n C [(3, .ref q9), (0, .ref (X 0)), (1, .int a1), (2, .ref o)] dL_addCastaway_15 rfl (by decide) rfl 16 rfl ?_
      refine vv_iconst C (v := 2) dL_addCastaway_16 (by decide) 17 rfl ?_
      exact ret _ _ dL_addCastaway_17
  · subst e
    refine vv_i2l C dL_addCastaway_7 8 rfl ?_
    refine vv_last C (q0 := 8) ((wX6_addCastaway c X W R B K Q T Y X_ropes R_hour R_broken B_number u.2.1 B_state u.2.2.1 u.2.2.2.1 u.2.2.2.2) ++ [aL c o 1 (vp_updL f 0 u.1.toInt64)]) rfl (inB_t (by decide)) rfl dL_addCastaway_8 9 rfl ?_
    refine vv_goto C 18 dL_addCastaway_9 (by decide) ?_
    refine vv_iconst C (v := 0) dL_addCastaway_18 (by decide) 19 rfl ?_
    exact ret _ _ dL_addCastaway_19
def kcL_addWater : Nat → Int32 := fun k => if k = 1 then 1 else 2
abbrev rmL_addWater : Room := { frames := 7, cells := 1, slots := 6, locals := 117 }
theorem yd_L_addWater : yL_addWater.cls ≠ "java/lang/invoke/MethodHandle" ∧ yL_addWater.cls ≠ "java/lang/invoke/VarHandle" ∧ (parseMethodDescriptor yL_addWater.desc).map (fun d => d.parameters.length) = some 9 := by decide +kernel
theorem kwL_addWater_1 : Cond.classLink RL 13 "java/lang/IllegalArgumentException" ∈ wsL_addWater := List.mem_of_getElem? (i := 1) rfl
theorem kwL_addWater_2 : Cond.classLink RL 15 "java/lang/IllegalStateException" ∈ wsL_addWater := List.mem_of_getElem? (i := 2) rfl
set_option maxHeartbeats 4000000 in
set_option maxRecDepth 100000 in
theorem mt_L_addWater (l : Launch) (hfl : l.stackTraces = false) (D : va_G) (c : Nat → ClassId) (X : Nat → Nat) (W : Nat → Nat) (R : Nat → Nat) (T : Nat → Nat) (Y : Nat → Nat) (X_ropes : Int32) (W_number : Int32) (W_windDx : Int32) (W_windDy : Int32) (W_dx : Nat → Int32) (W_dy : Nat → Int32) (W_wave : Nat → Int32) (W_counting : Nat → Int32) (a1 : Int32) (a2 : Int32) (a3 : Int32) (a4 : Int32) (a5 : Int32) (a6 : Int32) (a7 : Int32) (o : Nat) (f : Nat → Int64) (q0 : Nat ⊕ (Int32 × Int32 × (Nat → Int32) × (Nat → Int32) × (Nat → Int32) × (Nat → Int32))) (h : jX6_addWater W_number W_dx W_dy W_wave W_counting a1 a2 a3 a4 a5 a6 a7 = some q0) (hq : ∀ k, q0 = .inl k → k ∈ [1, 2]) : DWi l yL_addWater wsL_addWater rmL_addWater D c ((wX6_addWater c X W R T Y X_ropes W_number W_windDx W_windDy W_dx W_dy W_wave W_counting) ++ [aL c o 1 f]) [.ref (X 0), .int a1, .int a2, .int a3, .int a4, .int a5, .int a6, .int a7, .ref o] (sel q0 kcL_addWater (fun _ => 0)) (sel q0 (fun _ => (wX6_addWater c X W R T Y X_ropes W_number W_windDx W_windDy W_dx W_dy W_wave W_counting) ++ [aL c o 1 f]) (fun (u : Int32 × Int32 × (Nat → Int32) × (Nat → Int32) × (Nat → Int32) × (Nat → Int32)) => (wX6_addWater c X W R T Y X_ropes u.2.1 W_windDx W_windDy u.2.2.1 u.2.2.2.1 u.2.2.2.2.1 u.2.2.2.2.2) ++ [aL c o 1 (vp_updL f 0 u.1.toInt64)])) 1 6 := by
  refine DWi_of (cc := cL_addWater) (nL := 10) RL rfl (by decide) rfl (Nat.le_of_ble_eq_true rfl) hfl (fun g C hXw ret => ?_)
  refine vv_lv [0, 1, 2, 3, 4, 5, 6, 7, 8] [(0, .ref (X 0)), (1, .int a1), (2, .int a2), (3, .int a3), (4, .int a4), (5, .int a5), (6, .int a6), (7, .int a7), (8, .ref o)] rfl ?_
  refine vv_aload C dL_addWater_0 8 rfl 2 rfl ?_
  refine vv_iconst C (v := 0) dL_addWater_2 (by decide) 3 rfl ?_
  refine vv_aload_n C dL_addWater_3 rfl 0 rfl 4 rfl ?_
  refine vv_iload_n C dL_addWater_4 rfl 1 rfl 5 rfl ?_
  refine vv_iload_n C dL_addWater_5 rfl 2 rfl 6 rfl ?_
  refine vv_iload_n C dL_addWater_6 rfl 3 rfl 7 rfl ?_
  refine vv_iload C dL_addWater_7 4 rfl 9 rfl ?_
  refine vv_iload C dL_addWater_9 5 rfl 11 rfl ?_
  refine vv_iload C dL_addWater_11 6 rfl 13 rfl ?_
  refine vv_iload C dL_addWater_13 7 rfl 15 rfl ?_
  refine vv_callX C hXw (fun l hfl => mt_X6_addWater l hfl D c X W R T Y X_ropes W_number W_windDx W_windDy W_dx W_dy W_wave W_counting a1 a2 a3 a4 a5 a6 a7 q0 h) gL_addWater_X6_addWater rfl rfl rfl yd_X6_addWater ⟨Nat.le_of_ble_eq_true rfl, Nat.le_of_ble_eq_true rfl⟩ [0, 1, 2, 3, 4, 5] rfl (by decide) 0 rfl rfl (fun u => (wX6_addWater c X W R T Y X_ropes u.2.1 W_windDx W_windDy u.2.2.1 u.2.2.2.1 u.2.2.2.2.1 u.2.2.2.2.2) ++ [aL c o 1 f]) [(true, 0), (true, 1), (true, 2), (true, 3), (true, 4), (true, 5), (false, 6)] (fun _ => rfl) (by decide) (fun _ => rfl) [(true, 0), (true, 1), (true, 2), (true, 3), (true, 4), (true, 5), (false, 6)] rfl (by decide) rfl [.int 0, .ref o] rfl (Nat.le_of_ble_eq_true rfl) ⟨Nat.le_of_ble_eq_true rfl, Nat.le_of_ble_eq_true rfl⟩ dL_addWater_15 18 1 6 rfl ⟨rfl, rfl⟩ (fun k e => ?_) (fun u e => ?_)
  · have hk := hq k e
    subst e
    rcases (show k = 1 ∨ k = 2 by simpa using hk) with rfl | rfl
    · refine ⟨by decide, 23, ⟨by decide, by decide, by decide, 1, by decide, kwL_addWater_1, Or.inl ⟨rfl, rfl⟩⟩, fun q9 => ?_⟩
      refine vv_astore C [(9, .ref q9), (0, .ref (X 0)), (1, .int a1), (2, .int a2), (3, .int a3), (4, .int a4), (5, .int a5), (6, .int a6), (7, .int a7), (8, .ref o)] dL_addWater_23 (by decide) rfl 25 rfl ?_
      refine vv_iconst C (v := 1) dL_addWater_25 (by decide) 26 rfl ?_
      exact ret _ _ dL_addWater_26
    · refine ⟨by decide, 27, ⟨by decide, by decide, by decide, 1, by decide, kwL_addWater_1, Or.inr ⟨by decide, ⟨by decide, by decide, by decide, 2, by decide, kwL_addWater_2, Or.inl ⟨rfl, rfl⟩⟩⟩⟩, fun q9 => ?_⟩
      refine vv_astore C [(9, .ref q9), (0, .ref (X 0)), (1, .int a1), (2, .int a2), (3, .int a3), (4, .int a4), (5, .int a5), (6, .int a6), (7, .int a7), (8, .ref o)] dL_addWater_27 (by decide) rfl 29 rfl ?_
      refine vv_iconst C (v := 2) dL_addWater_29 (by decide) 30 rfl ?_
      exact ret _ _ dL_addWater_30
  · subst e
    refine vv_i2l C dL_addWater_18 19 rfl ?_
    refine vv_last C (q0 := 6) ((wX6_addWater c X W R T Y X_ropes u.2.1 W_windDx W_windDy u.2.2.1 u.2.2.2.1 u.2.2.2.2.1 u.2.2.2.2.2) ++ [aL c o 1 (vp_updL f 0 u.1.toInt64)]) rfl (inB_t (by decide)) rfl dL_addWater_19 20 rfl ?_
    refine vv_goto C 31 dL_addWater_20 (by decide) ?_
    refine vv_iconst C (v := 0) dL_addWater_31 (by decide) 32 rfl ?_
    exact ret _ _ dL_addWater_32
def kcL_advise : Nat → Int32 := fun k => 1
abbrev rmL_advise : Room := { frames := 7, cells := 1, slots := 6, locals := 163 }
theorem yd_L_advise : yL_advise.cls ≠ "java/lang/invoke/MethodHandle" ∧ yL_advise.cls ≠ "java/lang/invoke/VarHandle" ∧ (parseMethodDescriptor yL_advise.desc).map (fun d => d.parameters.length) = some 3 := by decide +kernel
theorem kwL_advise_1 : Cond.classLink RL 13 "java/lang/IllegalArgumentException" ∈ wsL_advise := List.mem_of_getElem? (i := 1) rfl
set_option maxHeartbeats 4000000 in
set_option maxRecDepth 100000 in
theorem mt_L_advise (l : Launch) (hfl : l.stackTraces = false) (D : va_G) (c : Nat → ClassId) (X : Nat → Nat) (W : Nat → Nat) (R : Nat → Nat) (B : Nat → Nat) (K : Nat → Nat) (Q : Nat → Nat) (T : Nat → Nat) (TB : Nat → Nat) (TK : Nat → Nat) (TQ : Nat → Nat) (Y : Nat → Nat) (X_ropes : Int32) (W_number : Int32) (W_windDx : Int32) (W_windDy : Int32) (W_dx : Nat → Int32) (W_dy : Nat → Int32) (W_wave : Nat → Int32) (W_counting : Nat → Int32) (R_hour : Int32) (R_broken : Int32) (B_number : Int32) (B_column : Nat → Int32) (B_row : Nat → Int32) (B_lift : Nat → Int32) (B_leak : Nat → Int32) (B_water : Nat → Int32) (B_goods : Nat → Int32) (B_people : Nat → Int32) (B_state : Nat → Int32) (B_x : Nat → Int32) (B_y : Nat → Int32) (B_piece : Nat → Int32) (K_number : Int32) (K_seat : Nat → Int32) (K_state : Nat → Int32) (Q_number : Int32) (Q_first : Nat → Int32) (Q_second : Nat → Int32) (Q_strength : Nat → Int32) (Q_wear : Nat → Int32) (T_hour : Int32) (T_broken : Int32) (T_pieceLift : Nat → Int32) (T_pieceLoad : Nat → Int32) (TB_number : Int32) (TB_column : Nat → Int32) (TB_row : Nat → Int32) (TB_lift : Nat → Int32) (TB_leak : Nat → Int32) (TB_water : Nat → Int32) (TB_goods : Nat → Int32) (TB_people : Nat → Int32) (TB_state : Nat → Int32) (TB_x : Nat → Int32) (TB_y : Nat → Int32) (TB_piece : Nat → Int32) (TK_number : Int32) (TK_seat : Nat → Int32) (TK_state : Nat → Int32) (TQ_number : Int32) (TQ_first : Nat → Int32) (TQ_second : Nat → Int32) (TQ_strength : Nat → Int32) (TQ_wear : Nat → Int32) (a1 : Int32) (o : Nat) (f : Nat → Int64) (q0 : Nat ⊕ (Int32 × Int32 × Int32 × (Nat → Int32) × (Nat → Int32) × Int32 × (Nat → Int32) × (Nat → Int32) × (Nat → Int32) × (Nat → Int32) × (Nat → Int32) × (Nat → Int32) × (Nat → Int32) × (Nat → Int32) × (Nat → Int32) × (Nat → Int32) × (Nat → Int32) × Int32 × (Nat → Int32) × (Nat → Int32) × Int32 × (Nat → Int32) × (Nat → Int32) × (Nat → Int32) × (Nat → Int32))) (h : jX6_advise W_number W_windDx W_windDy W_dx W_dy W_wave W_counting R_hour R_broken B_number B_column B_row B_lift B_leak B_water B_goods B_people B_state B_x B_y B_piece K_number K_seat K_state Q_number Q_first Q_second Q_strength Q_wear T_hour T_broken T_pieceLift T_pieceLoad TB_number TB_column TB_row TB_lift TB_leak TB_water TB_goods TB_people TB_state TB_x TB_y TB_piece TK_number TK_seat TK_state TQ_number TQ_first TQ_second TQ_strength TQ_wear a1 = some q0) (hq : ∀ k, q0 = .inl k → k ∈ [1]) : DWi l yL_advise wsL_advise rmL_advise D c ((wX6_advise c X W R B K Q T TB TK TQ Y X_ropes W_number W_windDx W_windDy W_dx W_dy W_wave W_counting R_hour R_broken B_number B_column B_row B_lift B_leak B_water B_goods B_people B_state B_x B_y B_piece K_number K_seat K_state Q_number Q_first Q_second Q_strength Q_wear T_hour T_broken T_pieceLift T_pieceLoad TB_number TB_column TB_row TB_lift TB_leak TB_water TB_goods TB_people TB_state TB_x TB_y TB_piece TK_number TK_seat TK_state TQ_number TQ_first TQ_second TQ_strength TQ_wear) ++ [aL c o 1 f]) [.ref (X 0), .int a1, .ref o] (sel q0 kcL_advise (fun _ => 0)) (sel q0 (fun _ => (wX6_advise c X W R B K Q T TB TK TQ Y X_ropes W_number W_windDx W_windDy W_dx W_dy W_wave W_counting R_hour R_broken B_number B_column B_row B_lift B_leak B_water B_goods B_people B_state B_x B_y B_piece K_number K_seat K_state Q_number Q_first Q_second Q_strength Q_wear T_hour T_broken T_pieceLift T_pieceLoad TB_number TB_column TB_row TB_lift TB_leak TB_water TB_goods TB_people TB_state TB_x TB_y TB_piece TK_number TK_seat TK_state TQ_number TQ_first TQ_second TQ_strength TQ_wear) ++ [aL c o 1 f]) (fun (u : Int32 × Int32 × Int32 × (Nat → Int32) × (Nat → Int32) × Int32 × (Nat → Int32) × (Nat → Int32) × (Nat → Int32) × (Nat → Int32) × (Nat → Int32) × (Nat → Int32) × (Nat → Int32) × (Nat → Int32) × (Nat → Int32) × (Nat → Int32) × (Nat → Int32) × Int32 × (Nat → Int32) × (Nat → Int32) × Int32 × (Nat → Int32) × (Nat → Int32) × (Nat → Int32) × (Nat → Int32)) => (wX6_advise c X W R B K Q T TB TK TQ Y X_ropes W_number W_windDx W_windDy W_dx W_dy W_wave W_counting R_hour R_broken B_number B_column B_row B_lift B_leak B_water B_goods B_people B_state B_x B_y B_piece K_number K_seat K_state Q_number Q_first Q_second Q_strength Q_wear u.2.1 u.2.2.1 u.2.2.2.1 u.2.2.2.2.1 u.2.2.2.2.2.1 u.2.2.2.2.2.2.1 u.2.2.2.2.2.2.2.1 u.2.2.2.2.2.2.2.2.1 u.2.2.2.2.2.2.2.2.2.1 u.2.2.2.2.2.2.2.2.2.2.1 u.2.2.2.2.2.2.2.2.2.2.2.1 u.2.2.2.2.2.2.2.2.2.2.2.2.1 u.2.2.2.2.2.2.2.2.2.2.2.2.2.1 u.2.2.2.2.2.2.2.2.2.2.2.2.2.2.1 u.2.2.2.2.2.2.2.2.2.2.2.2.2.2.2.1 u.2.2.2.2.2.2.2.2.2.2.2.2.2.2.2.2.1 u.2.2.2.2.2.2.2.2.2.2.2.2.2.2.2.2.2.1 u.2.2.2.2.2.2.2.2.2.2.2.2.2.2.2.2.2.2.1 u.2.2.2.2.2.2.2.2.2.2.2.2.2.2.2.2.2.2.2.1 u.2.2.2.2.2.2.2.2.2.2.2.2.2.2.2.2.2.2.2.2.1 u.2.2.2.2.2.2.2.2.2.2.2.2.2.2.2.2.2.2.2.2.2.1 u.2.2.2.2.2.2.2.2.2.2.2.2.2.2.2.2.2.2.2.2.2.2.1 u.2.2.2.2.2.2.2.2.2.2.2.2.2.2.2.2.2.2.2.2.2.2.2.1 u.2.2.2.2.2.2.2.2.2.2.2.2.2.2.2.2.2.2.2.2.2.2.2.2) ++ [aL c o 1 (vp_updL f 0 u.1.toInt64)])) 1 6 := by
  refine DWi_of (cc := cL_advise) (nL := 4) RL rfl (by decide) rfl (Nat.le_of_ble_eq_true rfl) hfl (fun g C hXw ret => ?_)
  refine vv_lv [0, 1, 2] [(0, .ref (X 0)), (1, .int a1), (2, .ref o)] rfl ?_
  refine vv_aload_n C dL_advise_0 rfl 2 rfl 1 rfl ?_
  refine vv_iconst C (v := 0) dL_advise_1 (by decide) 2 rfl ?_
  refine vv_aload_n C dL_advise_2 rfl 0 rfl 3 rfl ?_
  refine vv_iload_n C dL_advise_3 rfl 1 rfl 4 rfl ?_
  refine vv_callX C hXw (fun l hfl => mt_X6_advise l hfl D c X W R B K Q T TB TK TQ Y X_ropes W_number W_windDx W_windDy W_dx W_dy W_wave W_counting R_hour R_broken B_number B_column B_row B_lift B_leak B_water B_goods B_people B_state B_x B_y B_piece K_number K_seat K_state Q_number Q_first Q_second Q_strength Q_wear T_hour T_broken T_pieceLift T_pieceLoad TB_number TB_column TB_row TB_lift TB_leak TB_water TB_goods TB_people TB_state TB_x TB_y TB_piece TK_number TK_seat TK_state TQ_number TQ_first TQ_second TQ_strength TQ_wear a1 q0 h) gL_advise_X6_advise rfl rfl rfl yd_X6_advise ⟨Nat.le_of_ble_eq_true rfl, Nat.le_of_ble_eq_true rfl⟩ [0, 1, 2, 3, 4, 5, 6, 7, 8, 9, 10, 11, 12, 13, 14, 15, 16, 17, 18, 19, 20, 21, 22, 23, 24, 25, 26, 27, 28, 29, 30, 31, 32, 33, 34, 35, 36, 37, 38, 39, 40, 41, 42, 43, 44, 45, 46, 47, 48, 49] rfl (by decide) 0 rfl rfl (fun u => (wX6_advise c X W R B K Q T TB TK TQ Y X_ropes W_number W_windDx W_windDy W_dx W_dy W_wave W_counting R_hour R_broken B_number B_column B_row B_lift B_leak B_water B_goods B_people B_state B_x B_y B_piece K_number K_seat K_state Q_number Q_first Q_second Q_strength Q_wear u.2.1 u.2.2.1 u.2.2.2.1 u.2.2.2.2.1 u.2.2.2.2.2.1 u.2.2.2.2.2.2.1 u.2.2.2.2.2.2.2.1 u.2.2.2.2.2.2.2.2.1 u.2.2.2.2.2.2.2.2.2.1 u.2.2.2.2.2.2.2.2.2.2.1 u.2.2.2.2.2.2.2.2.2.2.2.1 u.2.2.2.2.2.2.2.2.2.2.2.2.1 u.2.2.2.2.2.2.2.2.2.2.2.2.2.1 u.2.2.2.2.2.2.2.2.2.2.2.2.2.2.1 u.2.2.2.2.2.2.2.2.2.2.2.2.2.2.2.1 u.2.2.2.2.2.2.2.2.2.2.2.2.2.2.2.2.1 u.2.2.2.2.2.2.2.2.2.2.2.2.2.2.2.2.2.1 u.2.2.2.2.2.2.2.2.2.2.2.2.2.2.2.2.2.2.1 u.2.2.2.2.2.2.2.2.2.2.2.2.2.2.2.2.2.2.2.1 u.2.2.2.2.2.2.2.2.2.2.2.2.2.2.2.2.2.2.2.2.1 u.2.2.2.2.2.2.2.2.2.2.2.2.2.2.2.2.2.2.2.2.2.1 u.2.2.2.2.2.2.2.2.2.2.2.2.2.2.2.2.2.2.2.2.2.2.1 u.2.2.2.2.2.2.2.2.2.2.2.2.2.2.2.2.2.2.2.2.2.2.2.1 u.2.2.2.2.2.2.2.2.2.2.2.2.2.2.2.2.2.2.2.2.2.2.2.2) ++ [aL c o 1 f]) [(true, 0), (true, 1), (true, 2), (true, 3), (true, 4), (true, 5), (true, 6), (true, 7), (true, 8), (true, 9), (true, 10), (true, 11), (true, 12), (true, 13), (true, 14), (true, 15), (true, 16), (true, 17), (true, 18), (true, 19), (true, 20), (true, 21), (true, 22), (true, 23), (true, 24), (true, 25), (true, 26), (true, 27), (true, 28), (true, 29), (true, 30), (true, 31), (true, 32), (true, 33), (true, 34), (true, 35), (true, 36), (true, 37), (true, 38), (true, 39), (true, 40), (true, 41), (true, 42), (true, 43), (true, 44), (true, 45), (true, 46), (true, 47), (true, 48), (true, 49), (false, 50)] (fun _ => rfl) (by decide) (fun _ => rfl) [(true, 0), (true, 1), (true, 2), (true, 3), (true, 4), (true, 5), (true, 6), (true, 7), (true, 8), (true, 9), (true, 10), (true, 11), (true, 12), (true, 13), (true, 14), (true, 15), (true, 16), (true, 17), (true, 18), (true, 19), (true, 20), (true, 21), (true, 22), (true, 23), (true, 24), (true, 25), (true, 26), (true, 27), (true, 28), (true, 29), (true, 30), (true, 31), (true, 32), (true, 33), (true, 34), (true, 35), (true, 36), (true, 37), (true, 38), (true, 39), (true, 40), (true, 41), (true, 42), (true, 43), (true, 44), (true, 45), (true, 46), (true, 47), (true, 48), (true, 49), (false, 50)] rfl (by decide) rfl [.int 0, .ref o] rfl (Nat.le_of_ble_eq_true rfl) ⟨Nat.le_of_ble_eq_true rfl, Nat.le_of_ble_eq_true rfl⟩ dL_advise_4 7 1 6 rfl ⟨rfl, rfl⟩ (fun k e => ?_) (fun u e => ?_)
  · have hk := hq k e
    subst e
    obtain rfl : k = 1 := by simpa using hk
    · refine ⟨by decide, 12, ⟨by decide, by decide, by decide, 1, by decide, kwL_advise_1, Or.inl ⟨rfl, rfl⟩⟩, fun q9 => ?_⟩
      refine vv_astore_n C [(3, .ref q9), (0, .ref (X 0)), (1, .int a1), (2, .ref o)] dL_advise_12 rfl (by decide) rfl 13 rfl ?_
      refine vv_iconst C (v := 1) dL_advise_13 (by decide) 14 rfl ?_
      exact ret _ _ dL_advise_14
  · subst e
    refine vv_i2l C dL_advise_7 8 rfl ?_
    refine vv_last C (q0 := 50) ((wX6_advise c X W R B K Q T TB TK TQ Y X_ropes W_number W_windDx W_windDy W_dx W_dy W_wave W_counting R_hour R_broken B_number B_column B_row B_lift B_leak B_water B_goods B_people B_state B_x B_y B_piece K_number K_seat K_state Q_number Q_first Q_second Q_strength Q_wear u.2.1 u.2.2.1 u.2.2.2.1 u.2.2.2.2.1 u.2.2.2.2.2.1 u.2.2.2.2.2.2.1 u.2.2.2.2.2.2.2.1 u.2.2.2.2.2.2.2.2.1 u.2.2.2.2.2.2.2.2.2.1 u.2.2.2.2.2.2.2.2.2.2.1 u.2.2.2.2.2.2.2.2.2.2.2.1 u.2.2.2.2.2.2.2.2.2.2.2.2.1 u.2.2.2.2.2.2.2.2.2.2.2.2.2.1 u.2.2.2.2.2.2.2.2.2.2.2.2.2.2.1 u.2.2.2.2.2.2.2.2.2.2.2.2.2.2.2.1 u.2.2.2.2.2.2.2.2.2.2.2.2.2.2.2.2.1 u.2.2.2.2.2.2.2.2.2.2.2.2.2.2.2.2.2.1 u.2.2.2.2.2.2.2.2.2.2.2.2.2.2.2.2.2.2.1 u.2.2.2.2.2.2.2.2.2.2.2.2.2.2.2.2.2.2.2.1 u.2.2.2.2.2.2.2.2.2.2.2.2.2.2.2.2.2.2.2.2.1 u.2.2.2.2.2.2.2.2.2.2.2.2.2.2.2.2.2.2.2.2.2.1 u.2.2.2.2.2.2.2.2.2.2.2.2.2.2.2.2.2.2.2.2.2.2.1 u.2.2.2.2.2.2.2.2.2.2.2.2.2.2.2.2.2.2.2.2.2.2.2.1 u.2.2.2.2.2.2.2.2.2.2.2.2.2.2.2.2.2.2.2.2.2.2.2.2) ++ [aL c o 1 (vp_updL f 0 u.1.toInt64)]) rfl (inB_t (by decide)) rfl dL_advise_8 9 rfl ?_
    refine vv_goto C 15 dL_advise_9 (by decide) ?_
    refine vv_iconst C (v := 0) dL_advise_15 (by decide) 16 rfl ?_
    exact ret _ _ dL_advise_16
def kcL_bail : Nat → Int32 := fun k => if k = 3 then 1 else 2
abbrev rmL_bail : Room := { frames := 7, cells := 1, slots := 6, locals := 112 }
theorem yd_L_bail : yL_bail.cls ≠ "java/lang/invoke/MethodHandle" ∧ yL_bail.cls ≠ "java/lang/invoke/VarHandle" ∧ (parseMethodDescriptor yL_bail.desc).map (fun d => d.parameters.length) = some 3 := by decide +kernel
theorem kwL_bail_1 : Cond.classLink RL 21 "java/lang/IndexOutOfBoundsException" ∈ wsL_bail := List.mem_of_getElem? (i := 1) rfl
theorem kwL_bail_2 : Cond.classLink RL 15 "java/lang/IllegalStateException" ∈ wsL_bail := List.mem_of_getElem? (i := 2) rfl
set_option maxHeartbeats 4000000 in
set_option maxRecDepth 100000 in
theorem mt_L_bail (l : Launch) (hfl : l.stackTraces = false) (D : va_G) (c : Nat → ClassId) (X : Nat → Nat) (W : Nat → Nat) (R : Nat → Nat) (B : Nat → Nat) (K : Nat → Nat) (Q : Nat → Nat) (T : Nat → Nat) (Y : Nat → Nat) (X_ropes : Int32) (R_hour : Int32) (R_broken : Int32) (B_number : Int32) (B_water : Nat → Int32) (K_number : Int32) (K_seat : Nat → Int32) (a1 : Int32) (o : Nat) (f : Nat → Int64) (q0 : Nat ⊕ (Int32 × (Nat → Int32))) (h : jX6_bail B_number B_water K_number K_seat a1 = some q0) (hq : ∀ k, q0 = .inl k → k ∈ [3, 2]) : DWi l yL_bail wsL_bail rmL_bail D c ((wX6_bail c X W R B K Q T Y X_ropes R_hour R_broken B_number B_water K_number K_seat) ++ [aL c o 1 f]) [.ref (X 0), .int a1, .ref o] (sel q0 kcL_bail (fun _ => 0)) (sel q0 (fun _ => (wX6_bail c X W R B K Q T Y X_ropes R_hour R_broken B_number B_water K_number K_seat) ++ [aL c o 1 f]) (fun (u : Int32 × (Nat → Int32)) => (wX6_bail c X W R B K Q T Y X_ropes R_hour R_broken B_number u.2 K_number K_seat) ++ [aL c o 1 (vp_updL f 0 u.1.toInt64)])) 1 6 := by
  refine DWi_of (cc := cL_bail) (nL := 4) RL rfl (by decide) rfl (Nat.le_of_ble_eq_true rfl) hfl (fun g C hXw ret => ?_)
  refine vv_lv [0, 1, 2] [(0, .ref (X 0)), (1, .int a1), (2, .ref o)] rfl ?_
  refine vv_aload_n C dL_bail_0 rfl 2 rfl 1 rfl ?_
  refine vv_iconst C (v := 0) dL_bail_1 (by decide) 2 rfl ?_
  refine vv_aload_n C dL_bail_2 rfl 0 rfl 3 rfl ?_
  refine vv_iload_n C dL_bail_3 rfl 1 rfl 4 rfl ?_
  refine vv_callX C hXw (fun l hfl => mt_X6_bail l hfl D c X W R B K Q T Y X_ropes R_hour R_broken B_number B_water K_number K_seat a1 q0 h) gL_bail_X6_bail rfl rfl rfl yd_X6_bail ⟨Nat.le_of_ble_eq_true rfl, Nat.le_of_ble_eq_true rfl⟩ [0, 1, 2, 3, 4, 5] rfl (by decide) 0 rfl rfl (fun u => (wX6_bail c X W R B K Q T Y X_ropes R_hour R_broken B_number u.2 K_number K_seat) ++ [aL c o 1 f]) [(true, 0), (true, 1), (true, 2), (true, 3), (true, 4), (true, 5), (false, 6)] (fun _ => rfl) (by decide) (fun _ => rfl) [(true, 0), (true, 1), (true, 2), (true, 3), (true, 4), (true, 5), (false, 6)] rfl (by decide) rfl [.int 0, .ref o] rfl (Nat.le_of_ble_eq_true rfl) ⟨Nat.le_of_ble_eq_true rfl, Nat.le_of_ble_eq_true rfl⟩ dL_bail_4 7 1 6 rfl ⟨rfl, rfl⟩ (fun k e => ?_) (fun u e => ?_)
  · have hk := hq k e
    subst e
    rcases (show k = 3 ∨ k = 2 by simpa using hk) with rfl | rfl
    · refine ⟨by decide, 12, ⟨by decide, by decide, by decide, 3, by decide, kwL_bail_1, Or.inl ⟨rfl, rfl⟩⟩, fun q9 => ?_⟩
      refine vv_astore_n C [(3, .ref q9), (0, .ref (X 0)), (1, .int a1), (2, .ref o)] dL_bail_12 rfl (by decide) rfl 13 rfl ?_
      refine vv_iconst C (v := 1) dL_bail_13 (by decide) 14 rfl ?_
      exact ret _ _ dL_bail_14
    · refine ⟨by decide, 15, ⟨by decide, by decide, by decide, 3, by decide, kwL_bail_1, Or.inr ⟨by decide, ⟨by decide, by decide, by decide, 2, by decide, kwL_bail_2, Or.inl ⟨rfl, rfl⟩⟩⟩⟩, fun q9 => ?_⟩
      refine vv_astore_n C [(3, .ref q9), (0, .ref (X 0)), (1, .int a1), (2, .ref o)] dL_bail_15 rfl (by decide) rfl 16 rfl ?_
      refine vv_iconst C (v := 2) dL_bail_16 (by decide) 17 rfl ?_
      exact ret _ _ dL_bail_17
  · subst e
    refine vv_i2l C dL_bail_7 8 rfl ?_
    refine vv_last C (q0 := 6) ((wX6_bail c X W R B K Q T Y X_ropes R_hour R_broken B_number u.2 K_number K_seat) ++ [aL c o 1 (vp_updL f 0 u.1.toInt64)]) rfl (inB_t (by decide)) rfl dL_bail_8 9 rfl ?_
    refine vv_goto C 18 dL_bail_9 (by decide) ?_
    refine vv_iconst C (v := 0) dL_bail_18 (by decide) 19 rfl ?_
    exact ret _ _ dL_bail_19
def kcL_barrel : Nat → Int32 := fun k => 1
abbrev rmL_barrel : Room := { frames := 7, cells := 1, slots := 6, locals := 112 }
theorem yd_L_barrel : yL_barrel.cls ≠ "java/lang/invoke/MethodHandle" ∧ yL_barrel.cls ≠ "java/lang/invoke/VarHandle" ∧ (parseMethodDescriptor yL_barrel.desc).map (fun d => d.parameters.length) = some 4 := by decide +kernel
theorem kwL_barrel_1 : Cond.classLink RL 21 "java/lang/IndexOutOfBoundsException" ∈ wsL_barrel := List.mem_of_getElem? (i := 1) rfl
set_option maxHeartbeats 4000000 in
set_option maxRecDepth 100000 in
theorem mt_L_barrel (l : Launch) (hfl : l.stackTraces = false) (D : va_G) (c : Nat → ClassId) (X : Nat → Nat) (W : Nat → Nat) (R : Nat → Nat) (B : Nat → Nat) (K : Nat → Nat) (Q : Nat → Nat) (T : Nat → Nat) (Y : Nat → Nat) (X_ropes : Int32) (R_hour : Int32) (R_broken : Int32) (B_number : Int32) (B_column : Nat → Int32) (B_row : Nat → Int32) (B_lift : Nat → Int32) (B_leak : Nat → Int32) (B_water : Nat → Int32) (B_goods : Nat → Int32) (B_people : Nat → Int32) (B_state : Nat → Int32) (B_x : Nat → Int32) (B_y : Nat → Int32) (B_piece : Nat → Int32) (Q_number : Int32) (Q_first : Nat → Int32) (Q_second : Nat → Int32) (a1 : Int32) (a2 : Int32) (o : Nat) (f : Nat → Int64) (q0 : Nat ⊕ (Int32)) (h : jX6_barrel B_number B_column B_row B_lift B_leak B_water B_goods B_people B_state B_x B_y B_piece Q_number Q_first Q_second a1 a2 = some q0) (hq : ∀ k, q0 = .inl k → k ∈ [3]) : DWi l yL_barrel wsL_barrel rmL_barrel D c ((wX6_barrel c X W R B K Q T Y X_ropes R_hour R_broken B_number B_column B_row B_lift B_leak B_water B_goods B_people B_state B_x B_y B_piece Q_number Q_first Q_second) ++ [aL c o 1 f]) [.ref (X 0), .int a1, .int a2, .ref o] (sel q0 kcL_barrel (fun _ => 0)) (sel q0 (fun _ => (wX6_barrel c X W R B K Q T Y X_ropes R_hour R_broken B_number B_column B_row B_lift B_leak B_water B_goods B_people B_state B_x B_y B_piece Q_number Q_first Q_second) ++ [aL c o 1 f]) (fun (u : Int32) => (wX6_barrel c X W R B K Q T Y X_ropes R_hour R_broken B_number B_column B_row B_lift B_leak B_water B_goods B_people B_state B_x B_y B_piece Q_number Q_first Q_second) ++ [aL c o 1 (vp_updL f 0 u.toInt64)])) 1 6 := by
  refine DWi_of (cc := cL_barrel) (nL := 5) RL rfl (by decide) rfl (Nat.le_of_ble_eq_true rfl) hfl (fun g C hXw ret => ?_)
  refine vv_lv [0, 1, 2, 3] [(0, .ref (X 0)), (1, .int a1), (2, .int a2), (3, .ref o)] rfl ?_
  refine vv_aload_n C dL_barrel_0 rfl 3 rfl 1 rfl ?_
  refine vv_iconst C (v := 0) dL_barrel_1 (by decide) 2 rfl ?_
  refine vv_aload_n C dL_barrel_2 rfl 0 rfl 3 rfl ?_
  refine vv_iload_n C dL_barrel_3 rfl 1 rfl 4 rfl ?_
  refine vv_iload_n C dL_barrel_4 rfl 2 rfl 5 rfl ?_
  refine vv_callX C hXw (fun l hfl => mt_X6_barrel l hfl D c X W R B K Q T Y X_ropes R_hour R_broken B_number B_column B_row B_lift B_leak B_water B_goods B_people B_state B_x B_y B_piece Q_number Q_first Q_second a1 a2 q0 h) gL_barrel_X6_barrel rfl rfl rfl yd_X6_barrel ⟨Nat.le_of_ble_eq_true rfl, Nat.le_of_ble_eq_true rfl⟩ [0, 1, 2, 3, 4, 5, 6, 7, 8, 9, 10, 11, 12, 13, 14, 15, 16] rfl (by decide) 0 rfl rfl (fun u => (wX6_barrel c X W R B K Q T Y X_ropes R_hour R_broken B_number B_column B_row B_lift B_leak B_water B_goods B_people B_state B_x B_y B_piece Q_number Q_first Q_second) ++ [aL c o 1 f]) [(true, 0), (true, 1), (true, 2), (true, 3), (true, 4), (true, 5), (true, 6), (true, 7), (true, 8), (true, 9), (true, 10), (true, 11), (true, 12), (true, 13), (true, 14), (true, 15), (true, 16), (false, 17)] (fun _ => rfl) (by decide) (fun _ => rfl) [(true, 0), (true, 1), (true, 2), (true, 3), (true, 4), (true, 5), (true, 6), (true, 7), (true, 8), (true, 9), (true, 10), (true, 11), (true, 12), (true, 13), (true, 14), (true, 15), (true, 16), (false, 17)] rfl (by decide) rfl [.int 0, .ref o] rfl (Nat.le_of_ble_eq_true rfl) ⟨Nat.le_of_ble_eq_true rfl, Nat.le_of_ble_eq_true rfl⟩ dL_barrel_5 8 1 6 rfl ⟨rfl, rfl⟩ (fun k e => ?_) (fun u e => ?_)
  · have hk := hq k e
    subst e
    obtain rfl : k = 3 := by simpa using hk
    · refine ⟨by decide, 13, ⟨by decide, by decide, by decide, 3, by decide, kwL_barrel_1, Or.inl ⟨rfl, rfl⟩⟩, fun q9 => ?_⟩
      refine vv_astore C [(4, .ref q9), (0, .ref (X 0)), (1, .int a1), (2, .int a2), (3, .ref o)] dL_barrel_13 (by decide) rfl 15 rfl ?_
      refine vv_iconst C (v := 1) dL_barrel_15 (by decide) 16 rfl ?_
      exact ret _ _ dL_barrel_16
  · subst e
    refine vv_i2l C dL_barrel_8 9 rfl ?_
    refine vv_last C (q0 := 17) ((wX6_barrel c X W R B K Q T Y X_ropes R_hour R_broken B_number B_column B_row B_lift B_leak B_water B_goods B_people B_state B_x B_y B_piece Q_number Q_first Q_second) ++ [aL c o 1 (vp_updL f 0 u.toInt64)]) rfl (inB_t (by decide)) rfl dL_barrel_9 10 rfl ?_
    refine vv_goto C 17 dL_barrel_10 (by decide) ?_
    refine vv_iconst C (v := 0) dL_barrel_17 (by decide) 18 rfl ?_
    exact ret _ _ dL_barrel_18
def kcL_castaway : Nat → Int32 := fun k => 1
abbrev rmL_castaway : Room := { frames := 7, cells := 1, slots := 6, locals := 112 }
theorem yd_L_castaway : yL_castaway.cls ≠ "java/lang/invoke/MethodHandle" ∧ yL_castaway.cls ≠ "java/lang/invoke/VarHandle" ∧ (parseMethodDescriptor yL_castaway.desc).map (fun d => d.parameters.length) = some 4 := by decide +kernel
theorem kwL_castaway_1 : Cond.classLink RL 21 "java/lang/IndexOutOfBoundsException" ∈ wsL_castaway := List.mem_of_getElem? (i := 1) rfl
set_option maxHeartbeats 4000000 in
set_option maxRecDepth 100000 in
theorem mt_L_castaway (l : Launch) (hfl : l.stackTraces = false) (D : va_G) (c : Nat → ClassId) (X : Nat → Nat) (W : Nat → Nat) (R : Nat → Nat) (B : Nat → Nat) (K : Nat → Nat) (Q : Nat → Nat) (T : Nat → Nat) (Y : Nat → Nat) (X_ropes : Int32) (R_hour : Int32) (R_broken : Int32) (K_number : Int32) (K_seat : Nat → Int32) (K_state : Nat → Int32) (a1 : Int32) (a2 : Int32) (o : Nat) (f : Nat → Int64) (q0 : Nat ⊕ (Int32)) (h : jX6_castaway K_number K_seat K_state a1 a2 = some q0) (hq : ∀ k, q0 = .inl k → k ∈ [3]) : DWi l yL_castaway wsL_castaway rmL_castaway D c ((wX6_castaway c X W R B K Q T Y X_ropes R_hour R_broken K_number K_seat K_state) ++ [aL c o 1 f]) [.ref (X 0), .int a1, .int a2, .ref o] (sel q0 kcL_castaway (fun _ => 0)) (sel q0 (fun _ => (wX6_castaway c X W R B K Q T Y X_ropes R_hour R_broken K_number K_seat K_state) ++ [aL c o 1 f]) (fun (u : Int32) => (wX6_castaway c X W R B K Q T Y X_ropes R_hour R_broken K_number K_seat K_state) ++ [aL c o 1 (vp_updL f 0 u.toInt64)])) 1 6 := by
  refine DWi_of (cc := cL_castaway) (nL := 5) RL rfl (by decide) rfl (Nat.le_of_ble_eq_true rfl) hfl (fun g C hXw ret => ?_)
  refine vv_lv [0, 1, 2, 3] [(0, .ref (X 0)), (1, .int a1), (2, .int a2), (3, .ref o)] rfl ?_
  refine vv_aload_n C dL_castaway_0 rfl 3 rfl 1 rfl ?_
  refine vv_iconst C (v := 0) dL_castaway_1 (by decide) 2 rfl ?_
  refine vv_aload_n C dL_castaway_2 rfl 0 rfl 3 rfl ?_
  refine vv_iload_n C dL_castaway_3 rfl 1 rfl 4 rfl ?_
  refine vv_iload_n C dL_castaway_4 rfl 2 rfl 5 rfl ?_
  refine vv_callX C hXw (fun l hfl => mt_X6_castaway l hfl D c X W R B K Q T Y X_ropes R_hour R_broken K_number K_seat K_state a1 a2 q0 h) gL_castaway_X6_castaway rfl rfl rfl yd_X6_castaway ⟨Nat.le_of_ble_eq_true rfl, Nat.le_of_ble_eq_true rfl⟩ [0, 1, 2, 3, 4] rfl (by decide) 0 rfl rfl (fun u => (wX6_castaway c X W R B K Q T Y X_ropes R_hour R_broken K_number K_seat K_state) ++ [aL c o 1 f]) [(true, 0), (true, 1), (true, 2), (true, 3), (true, 4), (false, 5)] (fun _ => rfl) (by decide) (fun _ => rfl) [(true, 0), (true, 1), (true, 2), (true, 3), (true, 4), (false, 5)] rfl (by decide) rfl [.int 0, .ref o] rfl (Nat.le_of_ble_eq_true rfl) ⟨Nat.le_of_ble_eq_true rfl, Nat.le_of_ble_eq_true rfl⟩ dL_castaway_5 8 1 6 rfl ⟨rfl, rfl⟩ (fun k e => ?_) (fun u e => ?_)
  · have hk := hq k e
    subst e
    obtain rfl : k = 3 := by simpa using hk
    · refine ⟨by decide, 13, ⟨by decide, by decide, by decide, 3, by decide, kwL_castaway_1, Or.inl ⟨rfl, rfl⟩⟩, fun q9 => ?_⟩
      refine vv_astore C [(4, .ref q9), (0, .ref (X 0)), (1, .int a1), (2, .int a2), (3, .ref o)] dL_castaway_13 (by decide) rfl 15 rfl ?_
      refine vv_iconst C (v := 1) dL_castaway_15 (by decide) 16 rfl ?_
      exact ret _ _ dL_castaway_16
  · subst e
    refine vv_i2l C dL_castaway_8 9 rfl ?_
    refine vv_last C (q0 := 5) ((wX6_castaway c X W R B K Q T Y X_ropes R_hour R_broken K_number K_seat K_state) ++ [aL c o 1 (vp_updL f 0 u.toInt64)]) rfl (inB_t (by decide)) rfl dL_castaway_9 10 rfl ?_
    refine vv_goto C 17 dL_castaway_10 (by decide) ?_
    refine vv_iconst C (v := 0) dL_castaway_17 (by decide) 18 rfl ?_
    exact ret _ _ dL_castaway_18
def kcL_count : Nat → Int32 := fun k => 1
abbrev rmL_count : Room := { frames := 7, cells := 1, slots := 6, locals := 111 }
theorem yd_L_count : yL_count.cls ≠ "java/lang/invoke/MethodHandle" ∧ yL_count.cls ≠ "java/lang/invoke/VarHandle" ∧ (parseMethodDescriptor yL_count.desc).map (fun d => d.parameters.length) = some 3 := by decide +kernel
theorem kwL_count_1 : Cond.classLink RL 21 "java/lang/IndexOutOfBoundsException" ∈ wsL_count := List.mem_of_getElem? (i := 1) rfl
set_option maxHeartbeats 4000000 in
set_option maxRecDepth 100000 in
theorem mt_L_count (l : Launch) (hfl : l.stackTraces = false) (D : va_G) (c : Nat → ClassId) (X : Nat → Nat) (W : Nat → Nat) (R : Nat → Nat) (B : Nat → Nat) (K : Nat → Nat) (Q : Nat → Nat) (T : Nat → Nat) (Y : Nat → Nat) (X_ropes : Int32) (R_hour : Int32) (R_broken : Int32) (B_number : Int32) (B_goods : Nat → Int32) (B_state : Nat → Int32) (B_piece : Nat → Int32) (K_number : Int32) (K_state : Nat → Int32) (Q_number : Int32) (a1 : Int32) (o : Nat) (f : Nat → Int64) (q0 : Nat ⊕ (Int32)) (h : jX6_count X_ropes R_hour R_broken B_number B_goods B_state B_piece K_number K_state Q_number a1 = some q0) (hq : ∀ k, q0 = .inl k → k ∈ [3]) : DWi l yL_count wsL_count rmL_count D c ((wX6_count c X W R B K Q T Y X_ropes R_hour R_broken B_number B_goods B_state B_piece K_number K_state Q_number) ++ [aL c o 1 f]) [.ref (X 0), .int a1, .ref o] (sel q0 kcL_count (fun _ => 0)) (sel q0 (fun _ => (wX6_count c X W R B K Q T Y X_ropes R_hour R_broken B_number B_goods B_state B_piece K_number K_state Q_number) ++ [aL c o 1 f]) (fun (u : Int32) => (wX6_count c X W R B K Q T Y X_ropes R_hour R_broken B_number B_goods B_state B_piece K_number K_state Q_number) ++ [aL c o 1 (vp_updL f 0 u.toInt64)])) 1 6 := by
  refine DWi_of (cc := cL_count) (nL := 4) RL rfl (by decide) rfl (Nat.le_of_ble_eq_true rfl) hfl (fun g C hXw ret => ?_)
  refine vv_lv [0, 1, 2] [(0, .ref (X 0)), (1, .int a1), (2, .ref o)] rfl ?_
  refine vv_aload_n C dL_count_0 rfl 2 rfl 1 rfl ?_
  refine vv_iconst C (v := 0) dL_count_1 (by decide) 2 rfl ?_
  refine vv_aload_n C dL_count_2 rfl 0 rfl 3 rfl ?_
  refine vv_iload_n C dL_count_3 rfl 1 rfl 4 rfl ?_
  refine vv_callX C hXw (fun l hfl => mt_X6_count l hfl D c X W R B K Q T Y X_ropes R_hour R_broken B_number B_goods B_state B_piece K_number K_state Q_number a1 q0 h) gL_count_X6_count rfl rfl rfl yd_X6_count ⟨Nat.le_of_ble_eq_true rfl, Nat.le_of_ble_eq_true rfl⟩ [0, 1, 2, 3, 4, 5, 6, 7, 8] rfl (by decide) 0 rfl rfl (fun u => (wX6_count c X W R B K Q T Y X_ropes R_hour R_broken B_number B_goods B_state B_piece K_number K_state Q_number) ++ [aL c o 1 f]) [(true, 0), (true, 1), (true, 2), (true, 3), (true, 4), (true, 5), (true, 6), (true, 7), (true, 8), (false, 9)] (fun _ => rfl) (by decide) (fun _ => rfl) [(true, 0), (true, 1), (true, 2), (true, 3), (true, 4), (true, 5), (true, 6), (true, 7), (true, 8), (false, 9)] rfl (by decide) rfl [.int 0, .ref o] rfl (Nat.le_of_ble_eq_true rfl) ⟨Nat.le_of_ble_eq_true rfl, Nat.le_of_ble_eq_true rfl⟩ dL_count_4 7 1 6 rfl ⟨rfl, rfl⟩ (fun k e => ?_) (fun u e => ?_)
  · have hk := hq k e
    subst e
    obtain rfl : k = 3 := by simpa using hk
    · refine ⟨by decide, 12, ⟨by decide, by decide, by decide, 3, by decide, kwL_count_1, Or.inl ⟨rfl, rfl⟩⟩, fun q9 => ?_⟩
      refine vv_astore_n C [(3, .ref q9), (0, .ref (X 0)), (1, .int a1), (2, .ref o)] dL_count_12 rfl (by decide) rfl 13 rfl ?_
      refine vv_iconst C (v := 1) dL_count_13 (by decide) 14 rfl ?_
      exact ret _ _ dL_count_14
  · subst e
    refine vv_i2l C dL_count_7 8 rfl ?_
    refine vv_last C (q0 := 9) ((wX6_count c X W R B K Q T Y X_ropes R_hour R_broken B_number B_goods B_state B_piece K_number K_state Q_number) ++ [aL c o 1 (vp_updL f 0 u.toInt64)]) rfl (inB_t (by decide)) rfl dL_count_8 9 rfl ?_
    refine vv_goto C 15 dL_count_9 (by decide) ?_
    refine vv_iconst C (v := 0) dL_count_15 (by decide) 16 rfl ?_
    exact ret _ _ dL_count_16
def kcL_cut : Nat → Int32 := fun k => if k = 3 then 1 else 2
abbrev rmL_cut : Room := { frames := 7, cells := 1, slots := 6, locals := 113 }
theorem yd_L_cut : yL_cut.cls ≠ "java/lang/invoke/MethodHandle" ∧ yL_cut.cls ≠ "java/lang/invoke/VarHandle" ∧ (parseMethodDescriptor yL_cut.desc).map (fun d => d.parameters.length) = some 4 := by decide +kernel
theorem kwL_cut_1 : Cond.classLink RL 21 "java/lang/IndexOutOfBoundsException" ∈ wsL_cut := List.mem_of_getElem? (i := 1) rfl
theorem kwL_cut_2 : Cond.classLink RL 15 "java/lang/IllegalStateException" ∈ wsL_cut := List.mem_of_getElem? (i := 2) rfl
set_option maxHeartbeats 4000000 in
set_option maxRecDepth 100000 in
theorem mt_L_cut (l : Launch) (hfl : l.stackTraces = false) (D : va_G) (c : Nat → ClassId) (X : Nat → Nat) (W : Nat → Nat) (R : Nat → Nat) (B : Nat → Nat) (K : Nat → Nat) (Q : Nat → Nat) (T : Nat → Nat) (Y : Nat → Nat) (X_ropes : Int32) (R_hour : Int32) (R_broken : Int32) (B_number : Int32) (B_state : Nat → Int32) (B_piece : Nat → Int32) (Q_number : Int32) (Q_first : Nat → Int32) (Q_second : Nat → Int32) (Q_strength : Nat → Int32) (Q_wear : Nat → Int32) (a1 : Int32) (a2 : Int32) (o : Nat) (f : Nat → Int64) (q0 : Nat ⊕ (Int32 × Int32 × (Nat → Int32) × Int32 × (Nat → Int32) × (Nat → Int32) × (Nat → Int32) × (Nat → Int32))) (h : jX6_cut X_ropes B_number B_state B_piece Q_number Q_first Q_second Q_strength Q_wear a1 a2 = some q0) (hq : ∀ k, q0 = .inl k → k ∈ [3, 2]) : DWi l yL_cut wsL_cut rmL_cut D c ((wX6_cut c X W R B K Q T Y X_ropes R_hour R_broken B_number B_state B_piece Q_number Q_first Q_second Q_strength Q_wear) ++ [aL c o 1 f]) [.ref (X 0), .int a1, .int a2, .ref o] (sel q0 kcL_cut (fun _ => 0)) (sel q0 (fun _ => (wX6_cut c X W R B K Q T Y X_ropes R_hour R_broken B_number B_state B_piece Q_number Q_first Q_second Q_strength Q_wear) ++ [aL c o 1 f]) (fun (u : Int32 × Int32 × (Nat → Int32) × Int32 × (Nat → Int32) × (Nat → Int32) × (Nat → Int32) × (Nat → Int32)) => (wX6_cut c X W R B K Q T Y u.2.1 R_hour R_broken B_number B_state u.2.2.1 u.2.2.2.1 u.2.2.2.2.1 u.2.2.2.2.2.1 u.2.2.2.2.2.2.1 u.2.2.2.2.2.2.2) ++ [aL c o 1 (vp_updL f 0 u.1.toInt64)])) 1 6 := by
  refine DWi_of (cc := cL_cut) (nL := 5) RL rfl (by decide) rfl (Nat.le_of_ble_eq_true rfl) hfl (fun g C hXw ret => ?_)
  refine vv_lv [0, 1, 2, 3] [(0, .ref (X 0)), (1, .int a1), (2, .int a2), (3, .ref o)] rfl ?_
  refine vv_aload_n C dL_cut_0 rfl 3 rfl 1 rfl ?_
  refine vv_iconst C (v := 0) dL_cut_1 (by decide) 2 rfl ?_
  refine vv_aload_n C dL_cut_2 rfl 0 rfl 3 rfl ?_
  refine vv_iload_n C dL_cut_3 rfl 1 rfl 4 rfl ?_
  refine vv_iload_n C dL_cut_4 rfl 2 rfl 5 rfl ?_
  refine vv_callX C hXw (fun l hfl => mt_X6_cut l hfl D c X W R B K Q T Y X_ropes R_hour R_broken B_number B_state B_piece Q_number Q_first Q_second Q_strength Q_wear a1 a2 q0 h) gL_cut_X6_cut rfl rfl rfl yd_X6_cut ⟨Nat.le_of_ble_eq_true rfl, Nat.le_of_ble_eq_true rfl⟩ [0, 1, 2, 3, 4, 5, 6, 7, 8, 9] rfl (by decide) 0 rfl rfl (fun u => (wX6_cut c X W R B K Q T Y u.2.1 R_hour R_broken B_number B_state u.2.2.1 u.2.2.2.1 u.2.2.2.2.1 u.2.2.2.2.2.1 u.2.2.2.2.2.2.1 u.2.2.2.2.2.2.2) ++ [aL c o 1 f]) [(true, 0), (true, 1), (true, 2), (true, 3), (true, 4), (true, 5), (true, 6), (true, 7), (true, 8), (true, 9), (false, 10)] (fun _ => rfl) (by decide) (fun _ => rfl) [(true, 0), (true, 1), (true, 2), (true, 3), (true, 4), (true, 5), (true, 6), (true, 7), (true, 8), (true, 9), (false, 10)] rfl (by decide) rfl [.int 0, .ref o] rfl (Nat.le_of_ble_eq_true rfl) ⟨Nat.le_of_ble_eq_true rfl, Nat.le_of_ble_eq_true rfl⟩ dL_cut_5 8 1 6 rfl ⟨rfl, rfl⟩ (fun k e => ?_) (fun u e => ?_)
  · have hk := hq k e
    subst e
    rcases (show k = 3 ∨ k = 2 by simpa using hk) with rfl | rfl
    · refine ⟨by decide, 13, ⟨by decide, by decide, by decide, 3, by decide, kwL_cut_1, Or.inl ⟨rfl, rfl⟩⟩, fun q9 => ?_⟩
      refine vv_astore C [(4, .ref q9), (0, .ref (X 0)), (1, .int a1), (2, .int a2), (3, .ref o)] dL_cut_13 (by decide) rfl 15 rfl ?_
      refine vv_iconst C (v := 1) dL_cut_15 (by decide) 16 rfl ?_
      exact ret _ _ dL_cut_16
    · refine ⟨by decide, 17, ⟨by decide, by decide, by decide, 3, by decide, kwL_cut_1, Or.inr ⟨by decide, ⟨by decide, by decide, by decide, 2, by decide, kwL_cut_2, Or.inl ⟨rfl, rfl⟩⟩⟩⟩, fun q9 => ?_⟩
      refine vv_astore C [(4, .ref q9), (0, .ref (X 0)), (1, .int a1), (2, .int a2), (3, .ref o)] dL_cut_17 (by decide) rfl 19 rfl ?_
      refine vv_iconst C (v := 2) dL_cut_19 (by decide) 20 rfl ?_
      exact ret _ _ dL_cut_20
  · subst e
    refine vv_i2l C dL_cut_8 9 rfl ?_
    refine vv_last C (q0 := 10) ((wX6_cut c X W R B K Q T Y u.2.1 R_hour R_broken B_number B_state u.2.2.1 u.2.2.2.1 u.2.2.2.2.1 u.2.2.2.2.2.1 u.2.2.2.2.2.2.1 u.2.2.2.2.2.2.2) ++ [aL c o 1 (vp_updL f 0 u.1.toInt64)]) rfl (inB_t (by decide)) rfl dL_cut_9 10 rfl ?_
    refine vv_goto C 21 dL_cut_10 (by decide) ?_
    refine vv_iconst C (v := 0) dL_cut_21 (by decide) 22 rfl ?_
    exact ret _ _ dL_cut_22
def kcL_firm : Nat → Int32 := fun k => 1
abbrev rmL_firm : Room := { frames := 7, cells := 1, slots := 6, locals := 121 }
theorem yd_L_firm : yL_firm.cls ≠ "java/lang/invoke/MethodHandle" ∧ yL_firm.cls ≠ "java/lang/invoke/VarHandle" ∧ (parseMethodDescriptor yL_firm.desc).map (fun d => d.parameters.length) = some 4 := by decide +kernel
theorem kwL_firm_1 : Cond.classLink RL 21 "java/lang/IndexOutOfBoundsException" ∈ wsL_firm := List.mem_of_getElem? (i := 1) rfl
set_option maxHeartbeats 4000000 in
set_option maxRecDepth 100000 in
theorem mt_L_firm (l : Launch) (hfl : l.stackTraces = false) (D : va_G) (c : Nat → ClassId) (X : Nat → Nat) (W : Nat → Nat) (R : Nat → Nat) (B : Nat → Nat) (K : Nat → Nat) (Q : Nat → Nat) (T : Nat → Nat) (Y : Nat → Nat) (X_ropes : Int32) (R_hour : Int32) (R_broken : Int32) (B_number : Int32) (Q_number : Int32) (Q_first : Nat → Int32) (Q_second : Nat → Int32) (Y_used : Nat → Int32) (Y_cameBy : Nat → Int32) (Y_reached : Nat → Int32) (a1 : Int32) (a2 : Int32) (o : Nat) (f : Nat → Int64) (q0 : Nat ⊕ (Int32 × (Nat → Int32) × (Nat → Int32) × (Nat → Int32))) (h : jX6_firm B_number Q_number Q_first Q_second Y_used Y_cameBy Y_reached a1 a2 = some q0) (hq : ∀ k, q0 = .inl k → k ∈ [3]) : DWi l yL_firm wsL_firm rmL_firm D c ((wX6_firm c X W R B K Q T Y X_ropes R_hour R_broken B_number Q_number Q_first Q_second Y_used Y_cameBy Y_reached) ++ [aL c o 1 f]) [.ref (X 0), .int a1, .int a2, .ref o] (sel q0 kcL_firm (fun _ => 0)) (sel q0 (fun _ => (wX6_firm c X W R B K Q T Y X_ropes R_hour R_broken B_number Q_number Q_first Q_second Y_used Y_cameBy Y_reached) ++ [aL c o 1 f]) (fun (u : Int32 × (Nat → Int32) × (Nat → Int32) × (Nat → Int32)) => (wX6_firm c X W R B K Q T Y X_ropes R_hour R_broken B_number Q_number Q_first Q_second u.2.1 u.2.2.1 u.2.2.2) ++ [aL c o 1 (vp_updL f 0 u.1.toInt64)])) 1 6 := by
  refine DWi_of (cc := cL_firm) (nL := 5) RL rfl (by decide) rfl (Nat.le_of_ble_eq_true rfl) hfl (fun g C hXw ret => ?_)
  refine vv_lv [0, 1, 2, 3] [(0, .ref (X 0)), (1, .int a1), (2, .int a2), (3, .ref o)] rfl ?_
  refine vv_aload_n C dL_firm_0 rfl 3 rfl 1 rfl ?_
  refine vv_iconst C (v := 0) dL_firm_1 (by decide) 2 rfl ?_
  refine vv_aload_n C dL_firm_2 rfl 0 rfl 3 rfl ?_
  refine vv_iload_n C dL_firm_3 rfl 1 rfl 4 rfl ?_
  refine vv_iload_n C dL_firm_4 rfl 2 rfl 5 rfl ?_
  refine vv_callX C hXw (fun l hfl => mt_X6_firm l hfl D c X W R B K Q T Y X_ropes R_hour R_broken B_number Q_number Q_first Q_second Y_used Y_cameBy Y_reached a1 a2 q0 h) gL_firm_X6_firm rfl rfl rfl yd_X6_firm ⟨Nat.le_of_ble_eq_true rfl, Nat.le_of_ble_eq_true rfl⟩ [0, 1, 2, 3, 4, 5, 6, 7, 8, 9] rfl (by decide) 0 rfl rfl (fun u => (wX6_firm c X W R B K Q T Y X_ropes R_hour R_broken B_number Q_number Q_first Q_second u.2.1 u.2.2.1 u.2.2.2) ++ [aL c o 1 f]) [(true, 0), (true, 1), (true, 2), (true, 3), (true, 4), (true, 5), (true, 6), (true, 7), (true, 8), (true, 9), (false, 10)] (fun _ => rfl) (by decide) (fun _ => rfl) [(true, 0), (true, 1), (true, 2), (true, 3), (true, 4), (true, 5), (true, 6), (true, 7), (true, 8), (true, 9), (false, 10)] rfl (by decide) rfl [.int 0, .ref o] rfl (Nat.le_of_ble_eq_true rfl) ⟨Nat.le_of_ble_eq_true rfl, Nat.le_of_ble_eq_true rfl⟩ dL_firm_5 8 1 6 rfl ⟨rfl, rfl⟩ (fun k e => ?_) (fun u e => ?_)
  · have hk := hq k e
    subst e
    obtain rfl : k = 3 := by simpa using hk
    · refine ⟨by decide, 13, ⟨by decide, by decide, by decide, 3, by decide, kwL_firm_1, Or.inl ⟨rfl, rfl⟩⟩, fun q9 => ?_⟩
      refine vv_astore C [(4, .ref q9), (0, .ref (X 0)), (1, .int a1), (2, .int a2), (3, .ref o)] dL_firm_13 (by decide) rfl 15 rfl ?_
      refine vv_iconst C (v := 1) dL_firm_15 (by decide) 16 rfl ?_
      exact ret _ _ dL_firm_16
  · subst e
    refine vv_i2l C dL_firm_8 9 rfl ?_
    refine vv_last C (q0 := 10) ((wX6_firm c X W R B K Q T Y X_ropes R_hour R_broken B_number Q_number Q_first Q_second u.2.1 u.2.2.1 u.2.2.2) ++ [aL c o 1 (vp_updL f 0 u.1.toInt64)]) rfl (inB_t (by decide)) rfl dL_firm_9 10 rfl ?_
    refine vv_goto C 17 dL_firm_10 (by decide) ?_
    refine vv_iconst C (v := 0) dL_firm_17 (by decide) 18 rfl ?_
    exact ret _ _ dL_firm_18
def kcL_foresee : Nat → Int32 := fun k => if k = 1 then 1 else 2
abbrev rmL_foresee : Room := { frames := 7, cells := 1, slots := 6, locals := 137 }
theorem yd_L_foresee : yL_foresee.cls ≠ "java/lang/invoke/MethodHandle" ∧ yL_foresee.cls ≠ "java/lang/invoke/VarHandle" ∧ (parseMethodDescriptor yL_foresee.desc).map (fun d => d.parameters.length) = some 4 := by decide +kernel
theorem kwL_foresee_1 : Cond.classLink RL 13 "java/lang/IllegalArgumentException" ∈ wsL_foresee := List.mem_of_getElem? (i := 1) rfl
theorem kwL_foresee_2 : Cond.classLink RL 21 "java/lang/IndexOutOfBoundsException" ∈ wsL_foresee := List.mem_of_getElem? (i := 2) rfl
set_option maxHeartbeats 4000000 in
set_option maxRecDepth 100000 in
theorem mt_L_foresee (l : Launch) (hfl : l.stackTraces = false) (D : va_G) (c : Nat → ClassId) (X : Nat → Nat) (W : Nat → Nat) (R : Nat → Nat) (B : Nat → Nat) (K : Nat → Nat) (Q : Nat → Nat) (T : Nat → Nat) (TB : Nat → Nat) (TK : Nat → Nat) (TQ : Nat → Nat) (Y : Nat → Nat) (X_ropes : Int32) (W_number : Int32) (W_windDx : Int32) (W_windDy : Int32) (W_dx : Nat → Int32) (W_dy : Nat → Int32) (W_wave : Nat → Int32) (W_counting : Nat → Int32) (R_hour : Int32) (R_broken : Int32) (B_number : Int32) (B_column : Nat → Int32) (B_row : Nat → Int32) (B_lift : Nat → Int32) (B_leak : Nat → Int32) (B_water : Nat → Int32) (B_goods : Nat → Int32) (B_people : Nat → Int32) (B_state : Nat → Int32) (B_x : Nat → Int32) (B_y : Nat → Int32) (B_piece : Nat → Int32) (K_number : Int32) (K_seat : Nat → Int32) (K_state : Nat → Int32) (Q_number : Int32) (Q_first : Nat → Int32) (Q_second : Nat → Int32) (Q_strength : Nat → Int32) (Q_wear : Nat → Int32) (T_hour : Int32) (T_broken : Int32) (T_pieceLift : Nat → Int32) (T_pieceLoad : Nat → Int32) (TB_number : Int32) (TB_column : Nat → Int32) (TB_row : Nat → Int32) (TB_lift : Nat → Int32) (TB_leak : Nat → Int32) (TB_water : Nat → Int32) (TB_goods : Nat → Int32) (TB_people : Nat → Int32) (TB_state : Nat → Int32) (TB_x : Nat → Int32) (TB_y : Nat → Int32) (TB_piece : Nat → Int32) (TK_number : Int32) (TK_seat : Nat → Int32) (TK_state : Nat → Int32) (TQ_number : Int32) (TQ_first : Nat → Int32) (TQ_second : Nat → Int32) (TQ_strength : Nat → Int32) (TQ_wear : Nat → Int32) (a1 : Int32) (a2 : Int32) (o : Nat) (f : Nat → Int64) (q0 : Nat ⊕ (Int32 × Int32 × Int32 × (Nat → Int32) × (Nat → Int32) × Int32 × (Nat → Int32) × (Nat → Int32) × (Nat → Int32) × (Nat → Int32) × (Nat → Int32) × (Nat → Int32) × (Nat → Int32) × (Nat → Int32) × (Nat → Int32) × (Nat → Int32) × (Nat → Int32) × Int32 × (Nat → Int32) × (Nat → Int32) × Int32 × (Nat → Int32) × (Nat → Int32) × (Nat → Int32) × (Nat → Int32))) (h : jX6_foresee W_number W_windDx W_windDy W_dx W_dy W_wave W_counting R_hour R_broken B_number B_column B_row B_lift B_leak B_water B_goods B_people B_state B_x B_y B_piece K_number K_seat K_state Q_number Q_first Q_second Q_strength Q_wear T_hour T_broken T_pieceLift T_pieceLoad TB_number TB_column TB_row TB_lift TB_leak TB_water TB_goods TB_people TB_state TB_x TB_y TB_piece TK_number TK_seat TK_state TQ_number TQ_first TQ_second TQ_strength TQ_wear a1 a2 = some q0) (hq : ∀ k, q0 = .inl k → k ∈ [1, 3]) : DWi l yL_foresee wsL_foresee rmL_foresee D c ((wX6_foresee c X W R B K Q T TB TK TQ Y X_ropes W_number W_windDx W_windDy W_dx W_dy W_wave W_counting R_hour R_broken B_number B_column B_row B_lift B_leak B_water B_goods B_people B_state B_x B_y B_piece K_number K_seat K_state Q_number Q_first Q_second Q_strength Q_wear T_hour T_broken T_pieceLift T_pieceLoad TB_number TB_column TB_row TB_lift TB_leak TB_water TB_goods TB_people TB_state TB_x TB_y TB_piece TK_number TK_seat TK_state TQ_number TQ_first TQ_second TQ_strength TQ_wear) ++ [aL c o 1 f]) [.ref (X 0), .int a1, .int a2, .ref o] (sel q0 kcL_foresee (fun _ => 0)) (sel q0 (fun _ => (wX6_foresee c X W R B K Q T TB TK TQ Y X_ropes W_number W_windDx W_windDy W_dx W_dy W_wave W_counting R_hour R_broken B_number B_column B_row B_lift B_leak B_water B_goods B_people B_state B_x B_y B_piece K_number K_seat K_state Q_number Q_first Q_second Q_strength Q_wear T_hour T_broken T_pieceLift T_pieceLoad TB_number TB_column TB_row TB_lift TB_leak TB_water TB_goods TB_people TB_state TB_x TB_y TB_piece TK_number TK_seat TK_state TQ_number TQ_first TQ_second TQ_strength TQ_wear) ++ [aL c o 1 f]) (fun (u : Int32 × Int32 × Int32 × (Nat → Int32) × (Nat → Int32) × Int32 × (Nat → Int32) × (Nat → Int32) × (Nat → Int32) × (Nat → Int32) × (Nat → Int32) × (Nat → Int32) × (Nat → Int32) × (Nat → Int32) × (Nat → Int32) × (Nat → Int32) × (Nat → Int32) × Int32 × (Nat → Int32) × (Nat → Int32) × Int32 × (Nat → Int32) × (Nat → Int32) × (Nat → Int32) × (Nat → Int32)) => (wX6_foresee c X W R B K Q T TB TK TQ Y X_ropes W_number W_windDx W_windDy W_dx W_dy W_wave W_counting R_hour R_broken B_number B_column B_row B_lift B_leak B_water B_goods B_people B_state B_x B_y B_piece K_number K_seat K_state Q_number Q_first Q_second Q_strength Q_wear u.2.1 u.2.2.1 u.2.2.2.1 u.2.2.2.2.1 u.2.2.2.2.2.1 u.2.2.2.2.2.2.1 u.2.2.2.2.2.2.2.1 u.2.2.2.2.2.2.2.2.1 u.2.2.2.2.2.2.2.2.2.1 u.2.2.2.2.2.2.2.2.2.2.1 u.2.2.2.2.2.2.2.2.2.2.2.1 u.2.2.2.2.2.2.2.2.2.2.2.2.1 u.2.2.2.2.2.2.2.2.2.2.2.2.2.1 u.2.2.2.2.2.2.2.2.2.2.2.2.2.2.1 u.2.2.2.2.2.2.2.2.2.2.2.2.2.2.2.1 u.2.2.2.2.2.2.2.2.2.2.2.2.2.2.2.2.1 u.2.2.2.2.2.2.2.2.2.2.2.2.2.2.2.2.2.1 u.2.2.2.2.2.2.2.2.2.2.2.2.2.2.2.2.2.2.1 u.2.2.2.2.2.2.2.2.2.2.2.2.2.2.2.2.2.2.2.1 u.2.2.2.2.2.2.2.2.2.2.2.2.2.2.2.2.2.2.2.2.1 u.2.2.2.2.2.2.2.2.2.2.2.2.2.2.2.2.2.2.2.2.2.1 u.2.2.2.2.2.2.2.2.2.2.2.2.2.2.2.2.2.2.2.2.2.2.1 u.2.2.2.2.2.2.2.2.2.2.2.2.2.2.2.2.2.2.2.2.2.2.2.1 u.2.2.2.2.2.2.2.2.2.2.2.2.2.2.2.2.2.2.2.2.2.2.2.2) ++ [aL c o 1 (vp_updL f 0 u.1.toInt64)])) 1 6 := by
  refine DWi_of (cc := cL_foresee) (nL := 5) RL rfl (by decide) rfl (Nat.le_of_ble_eq_true rfl) hfl (fun g C hXw ret => ?_)
  refine vv_lv [0, 1, 2, 3] [(0, .ref (X 0)), (1, .int a1), (2, .int a2), (3, .ref o)] rfl ?_
  refine vv_aload_n C dL_foresee_0 rfl 3 rfl 1 rfl ?_
  refine vv_iconst C (v := 0) dL_foresee_1 (by decide) 2 rfl ?_
  refine vv_aload_n C dL_foresee_2 rfl 0 rfl 3 rfl ?_
  refine vv_iload_n C dL_foresee_3 rfl 1 rfl 4 rfl ?_
  refine vv_iload_n C dL_foresee_4 rfl 2 rfl 5 rfl ?_
  refine vv_callX C hXw (fun l hfl => mt_X6_foresee l hfl D c X W R B K Q T TB TK TQ Y X_ropes W_number W_windDx W_windDy W_dx W_dy W_wave W_counting R_hour R_broken B_number B_column B_row B_lift B_leak B_water B_goods B_people B_state B_x B_y B_piece K_number K_seat K_state Q_number Q_first Q_second Q_strength Q_wear T_hour T_broken T_pieceLift T_pieceLoad TB_number TB_column TB_row TB_lift TB_leak TB_water TB_goods TB_people TB_state TB_x TB_y TB_piece TK_number TK_seat TK_state TQ_number TQ_first TQ_second TQ_strength TQ_wear a1 a2 q0 h) gL_foresee_X6_foresee rfl rfl rfl yd_X6_foresee ⟨Nat.le_of_ble_eq_true rfl, Nat.le_of_ble_eq_true rfl⟩ [0, 1, 2, 3, 4, 5, 6, 7, 8, 9, 10, 11, 12, 13, 14, 15, 16, 17, 18, 19, 20, 21, 22, 23, 24, 25, 26, 27, 28, 29, 30, 31, 32, 33, 34, 35, 36, 37, 38, 39, 40, 41, 42, 43, 44, 45, 46, 47, 48, 49] rfl (by decide) 0 rfl rfl (fun u => (wX6_foresee c X W R B K Q T TB TK TQ Y X_ropes W_number W_windDx W_windDy W_dx W_dy W_wave W_counting R_hour R_broken B_number B_column B_row B_lift B_leak B_water B_goods B_people B_state B_x B_y B_piece K_number K_seat K_state Q_number Q_first Q_second Q_strength Q_wear u.2.1 u.2.2.1 u.2.2.2.1 u.2.2.2.2.1 u.2.2.2.2.2.1 u.2.2.2.2.2.2.1 u.2.2.2.2.2.2.2.1 u.2.2.2.2.2.2.2.2.1 u.2.2.2.2.2.2.2.2.2.1 u.2.2.2.2.2.2.2.2.2.2.1 u.2.2.2.2.2.2.2.2.2.2.2.1 u.2.2.2.2.2.2.2.2.2.2.2.2.1 u.2.2.2.2.2.2.2.2.2.2.2.2.2.1 u.2.2.2.2.2.2.2.2.2.2.2.2.2.2.1 u.2.2.2.2.2.2.2.2.2.2.2.2.2.2.2.1 u.2.2.2.2.2.2.2.2.2.2.2.2.2.2.2.2.1 u.2.2.2.2.2.2.2.2.2.2.2.2.2.2.2.2.2.1 u.2.2.2.2.2.2.2.2.2.2.2.2.2.2.2.2.2.2.1 u.2.2.2.2.2.2.2.2.2.2.2.2.2.2.2.2.2.2.2.1 u.2.2.2.2.2.2.2.2.2.2.2.2.2.2.2.2.2.2.2.2.1 u.2.2.2.2.2.2.2.2.2.2.2.2.2.2.2.2.2.2.2.2.2.1 u.2.2.2.2.2.2.2.2.2.2.2.2.2.2.2.2.2.2.2.2.2.2.1 u.2.2.2.2.2.2.2.2.2.2.2.2.2.2.2.2.2.2.2.2.2.2.2.1 u.2.2.2.2.2.2.2.2.2.2.2.2.2.2.2.2.2.2.2.2.2.2.2.2) ++ [aL c o 1 f]) [(true, 0), (true, 1), (true, 2), (true, 3), (true, 4), (true, 5), (true, 6), (true, 7), (true, 8), (true, 9), (true, 10), (true, 11), (true, 12), (true, 13), (true, 14), (true, 15), (true, 16), (true, 17), (true, 18), (true, 19), (true, 20), (true, 21), (true, 22), (true, 23), (true, 24), (true, 25), (true, 26), (true, 27), (true, 28), (true, 29), (true, 30), (true, 31), (true, 32), (true, 33), (true, 34), (true, 35), (true, 36), (true, 37), (true, 38), (true, 39), (true, 40), (true, 41), (true, 42), (true, 43), (true, 44), (true, 45), (true, 46), (true, 47), (true, 48), (true, 49), (false, 50)] (fun _ => rfl) (by decide) (fun _ => rfl) [(true, 0), (true, 1), (true, 2), (true, 3), (true, 4), (true, 5), (true, 6), (true, 7), (true, 8), (true, 9), (true, 10), (true, 11), (true, 12), (true, 13), (true, 14), (true, 15), (true, 16), (true, 17), (true, 18), (true, 19), (true, 20), (true, 21), (true, 22), (true, 23), (true, 24), (true, 25), (true, 26), (true, 27), (true, 28), (true, 29), (true, 30), (true, 31), (true, 32), (true, 33), (true, 34), (true, 35), (true, 36), (true, 37), (true, 38), (true, 39), (true, 40), (true, 41), (true, 42), (true, 43), (true, 44), (true, 45), (true, 46), (true, 47), (true, 48), (true, 49), (false, 50)] rfl (by decide) rfl [.int 0, .ref o] rfl (Nat.le_of_ble_eq_true rfl) ⟨Nat.le_of_ble_eq_true rfl, Nat.le_of_ble_eq_true rfl⟩ dL_foresee_5 8 1 6 rfl ⟨rfl, rfl⟩ (fun k e => ?_) (fun u e => ?_)
  · have hk := hq k e
    subst e
    rcases (show k = 1 ∨ k = 3 by simpa using hk) with rfl | rfl
    · refine ⟨by decide, 13, ⟨by decide, by decide, by decide, 1, by decide, kwL_foresee_1, Or.inl ⟨rfl, rfl⟩⟩, fun q9 => ?_⟩
      refine vv_astore C [(4, .ref q9), (0, .ref (X 0)), (1, .int a1), (2, .int a2), (3, .ref o)] dL_foresee_13 (by decide) rfl 15 rfl ?_
      refine vv_iconst C (v := 1) dL_foresee_15 (by decide) 16 rfl ?_
      exact ret _ _ dL_foresee_16
    · refine ⟨by decide, 17, ⟨by decide, by decide, by decide, 1, by decide, kwL_foresee_1, Or.inr ⟨by decide, ⟨by decide, by decide, by decide, 3, by decide, kwL_foresee_2, Or.inl ⟨rfl, rfl⟩⟩⟩⟩, fun q9 => ?_⟩
      refine vv_astore C [(4, .ref q9), (0, .ref (X 0)), (1, .int a1), (2, .int a2), (3, .ref o)] dL_foresee_17 (by decide) rfl 19 rfl ?_
      refine vv_iconst C (v := 2) dL_foresee_19 (by decide) 20 rfl ?_
      exact ret _ _ dL_foresee_20
  · subst e
    refine vv_i2l C dL_foresee_8 9 rfl ?_
    refine vv_last C (q0 := 50) ((wX6_foresee c X W R B K Q T TB TK TQ Y X_ropes W_number W_windDx W_windDy W_dx W_dy W_wave W_counting R_hour R_broken B_number B_column B_row B_lift B_leak B_water B_goods B_people B_state B_x B_y B_piece K_number K_seat K_state Q_number Q_first Q_second Q_strength Q_wear u.2.1 u.2.2.1 u.2.2.2.1 u.2.2.2.2.1 u.2.2.2.2.2.1 u.2.2.2.2.2.2.1 u.2.2.2.2.2.2.2.1 u.2.2.2.2.2.2.2.2.1 u.2.2.2.2.2.2.2.2.2.1 u.2.2.2.2.2.2.2.2.2.2.1 u.2.2.2.2.2.2.2.2.2.2.2.1 u.2.2.2.2.2.2.2.2.2.2.2.2.1 u.2.2.2.2.2.2.2.2.2.2.2.2.2.1 u.2.2.2.2.2.2.2.2.2.2.2.2.2.2.1 u.2.2.2.2.2.2.2.2.2.2.2.2.2.2.2.1 u.2.2.2.2.2.2.2.2.2.2.2.2.2.2.2.2.1 u.2.2.2.2.2.2.2.2.2.2.2.2.2.2.2.2.2.1 u.2.2.2.2.2.2.2.2.2.2.2.2.2.2.2.2.2.2.1 u.2.2.2.2.2.2.2.2.2.2.2.2.2.2.2.2.2.2.2.1 u.2.2.2.2.2.2.2.2.2.2.2.2.2.2.2.2.2.2.2.2.1 u.2.2.2.2.2.2.2.2.2.2.2.2.2.2.2.2.2.2.2.2.2.1 u.2.2.2.2.2.2.2.2.2.2.2.2.2.2.2.2.2.2.2.2.2.2.1 u.2.2.2.2.2.2.2.2.2.2.2.2.2.2.2.2.2.2.2.2.2.2.2.1 u.2.2.2.2.2.2.2.2.2.2.2.2.2.2.2.2.2.2.2.2.2.2.2.2) ++ [aL c o 1 (vp_updL f 0 u.1.toInt64)]) rfl (inB_t (by decide)) rfl dL_foresee_9 10 rfl ?_
    refine vv_goto C 21 dL_foresee_10 (by decide) ?_
    refine vv_iconst C (v := 0) dL_foresee_21 (by decide) 22 rfl ?_
    exact ret _ _ dL_foresee_22
def kcL_go : Nat → Int32 := fun k => if k = 3 then 1 else 2
abbrev rmL_go : Room := { frames := 7, cells := 1, slots := 6, locals := 113 }
theorem yd_L_go : yL_go.cls ≠ "java/lang/invoke/MethodHandle" ∧ yL_go.cls ≠ "java/lang/invoke/VarHandle" ∧ (parseMethodDescriptor yL_go.desc).map (fun d => d.parameters.length) = some 4 := by decide +kernel
theorem kwL_go_1 : Cond.classLink RL 21 "java/lang/IndexOutOfBoundsException" ∈ wsL_go := List.mem_of_getElem? (i := 1) rfl
theorem kwL_go_2 : Cond.classLink RL 15 "java/lang/IllegalStateException" ∈ wsL_go := List.mem_of_getElem? (i := 2) rfl
set_option maxHeartbeats 4000000 in
set_option maxRecDepth 100000 in
theorem mt_L_go (l : Launch) (hfl : l.stackTraces = false) (D : va_G) (c : Nat → ClassId) (X : Nat → Nat) (W : Nat → Nat) (R : Nat → Nat) (B : Nat → Nat) (K : Nat → Nat) (Q : Nat → Nat) (T : Nat → Nat) (Y : Nat → Nat) (X_ropes : Int32) (R_hour : Int32) (R_broken : Int32) (B_number : Int32) (B_people : Nat → Int32) (K_number : Int32) (K_seat : Nat → Int32) (Q_number : Int32) (Q_first : Nat → Int32) (Q_second : Nat → Int32) (a1 : Int32) (a2 : Int32) (o : Nat) (f : Nat → Int64) (q0 : Nat ⊕ (Int32 × (Nat → Int32) × (Nat → Int32))) (h : jX6_go B_number B_people K_number K_seat Q_number Q_first Q_second a1 a2 = some q0) (hq : ∀ k, q0 = .inl k → k ∈ [3, 2]) : DWi l yL_go wsL_go rmL_go D c ((wX6_go c X W R B K Q T Y X_ropes R_hour R_broken B_number B_people K_number K_seat Q_number Q_first Q_second) ++ [aL c o 1 f]) [.ref (X 0), .int a1, .int a2, .ref o] (sel q0 kcL_go (fun _ => 0)) (sel q0 (fun _ => (wX6_go c X W R B K Q T Y X_ropes R_hour R_broken B_number B_people K_number K_seat Q_number Q_first Q_second) ++ [aL c o 1 f]) (fun (u : Int32 × (Nat → Int32) × (Nat → Int32)) => (wX6_go c X W R B K Q T Y X_ropes R_hour R_broken B_number u.2.1 K_number u.2.2 Q_number Q_first Q_second) ++ [aL c o 1 (vp_updL f 0 u.1.toInt64)])) 1 6 := by
  refine DWi_of (cc := cL_go) (nL := 5) RL rfl (by decide) rfl (Nat.le_of_ble_eq_true rfl) hfl (fun g C hXw ret => ?_)
  refine vv_lv [0, 1, 2, 3] [(0, .ref (X 0)), (1, .int a1), (2, .int a2), (3, .ref o)] rfl ?_
  refine vv_aload_n C dL_go_0 rfl 3 rfl 1 rfl ?_
  refine vv_iconst C (v := 0) dL_go_1 (by decide) 2 rfl ?_
  refine vv_aload_n C dL_go_2 rfl 0 rfl 3 rfl ?_
  refine vv_iload_n C dL_go_3 rfl 1 rfl 4 rfl ?_
  refine vv_iload_n C dL_go_4 rfl 2 rfl 5 rfl ?_
  refine vv_callX C hXw (fun l hfl => mt_X6_go l hfl D c X W R B K Q T Y X_ropes R_hour R_broken B_number B_people K_number K_seat Q_number Q_first Q_second a1 a2 q0 h) gL_go_X6_go rfl rfl rfl yd_X6_go ⟨Nat.le_of_ble_eq_true rfl, Nat.le_of_ble_eq_true rfl⟩ [0, 1, 2, 3, 4, 5, 6, 7, 8] rfl (by decide) 0 rfl rfl (fun u => (wX6_go c X W R B K Q T Y X_ropes R_hour R_broken B_number u.2.1 K_number u.2.2 Q_number Q_first Q_second) ++ [aL c o 1 f]) [(true, 0), (true, 1), (true, 2), (true, 3), (true, 4), (true, 5), (true, 6), (true, 7), (true, 8), (false, 9)] (fun _ => rfl) (by decide) (fun _ => rfl) [(true, 0), (true, 1), (true, 2), (true, 3), (true, 4), (true, 5), (true, 6), (true, 7), (true, 8), (false, 9)] rfl (by decide) rfl [.int 0, .ref o] rfl (Nat.le_of_ble_eq_true rfl) ⟨Nat.le_of_ble_eq_true rfl, Nat.le_of_ble_eq_true rfl⟩ dL_go_5 8 1 6 rfl ⟨rfl, rfl⟩ (fun k e => ?_) (fun u e => ?_)
  · have hk := hq k e
    subst e
    rcases (show k = 3 ∨ k = 2 by simpa using hk) with rfl | rfl
    · refine ⟨by decide, 13, ⟨by decide, by decide, by decide, 3, by decide, kwL_go_1, Or.inl ⟨rfl, rfl⟩⟩, fun q9 => ?_⟩
      refine vv_astore C [(4, .ref q9), (0, .ref (X 0)), (1, .int a1), (2, .int a2), (3, .ref o)] dL_go_13 (by decide) rfl 15 rfl ?_
      refine vv_iconst C (v := 1) dL_go_15 (by decide) 16 rfl ?_
      exact ret _ _ dL_go_16
    · refine ⟨by decide, 17, ⟨by decide, by decide, by decide, 3, by decide, kwL_go_1, Or.inr ⟨by decide, ⟨by decide, by decide, by decide, 2, by decide, kwL_go_2, Or.inl ⟨rfl, rfl⟩⟩⟩⟩, fun q9 => ?_⟩
      refine vv_astore C [(4, .ref q9), (0, .ref (X 0)), (1, .int a1), (2, .int a2), (3, .ref o)] dL_go_17 (by decide) rfl 19 rfl ?_
      refine vv_iconst C (v := 2) dL_go_19 (by decide) 20 rfl ?_
      exact ret _ _ dL_go_20
  · subst e
    refine vv_i2l C dL_go_8 9 rfl ?_
    refine vv_last C (q0 := 9) ((wX6_go c X W R B K Q T Y X_ropes R_hour R_broken B_number u.2.1 K_number u.2.2 Q_number Q_first Q_second) ++ [aL c o 1 (vp_updL f 0 u.1.toInt64)]) rfl (inB_t (by decide)) rfl dL_go_9 10 rfl ?_
    refine vv_goto C 21 dL_go_10 (by decide) ?_
    refine vv_iconst C (v := 0) dL_go_21 (by decide) 22 rfl ?_
    exact ret _ _ dL_go_22
def kcL_hold : Nat → Int32 := fun k => 1
abbrev rmL_hold : Room := { frames := 7, cells := 1, slots := 6, locals := 112 }
theorem yd_L_hold : yL_hold.cls ≠ "java/lang/invoke/MethodHandle" ∧ yL_hold.cls ≠ "java/lang/invoke/VarHandle" ∧ (parseMethodDescriptor yL_hold.desc).map (fun d => d.parameters.length) = some 4 := by decide +kernel
theorem kwL_hold_1 : Cond.classLink RL 21 "java/lang/IndexOutOfBoundsException" ∈ wsL_hold := List.mem_of_getElem? (i := 1) rfl
set_option maxHeartbeats 4000000 in
set_option maxRecDepth 100000 in
theorem mt_L_hold (l : Launch) (hfl : l.stackTraces = false) (D : va_G) (c : Nat → ClassId) (X : Nat → Nat) (W : Nat → Nat) (R : Nat → Nat) (B : Nat → Nat) (K : Nat → Nat) (Q : Nat → Nat) (T : Nat → Nat) (Y : Nat → Nat) (X_ropes : Int32) (R_hour : Int32) (R_broken : Int32) (B_number : Int32) (Q_number : Int32) (Q_first : Nat → Int32) (Q_second : Nat → Int32) (Q_strength : Nat → Int32) (Q_wear : Nat → Int32) (Y_best : Nat → Int32) (a1 : Int32) (a2 : Int32) (o : Nat) (f : Nat → Int64) (q0 : Nat ⊕ (Int32 × (Nat → Int32))) (h : jX6_hold B_number Q_number Q_first Q_second Q_strength Q_wear Y_best a1 a2 = some q0) (hq : ∀ k, q0 = .inl k → k ∈ [3]) : DWi l yL_hold wsL_hold rmL_hold D c ((wX6_hold c X W R B K Q T Y X_ropes R_hour R_broken B_number Q_number Q_first Q_second Q_strength Q_wear Y_best) ++ [aL c o 1 f]) [.ref (X 0), .int a1, .int a2, .ref o] (sel q0 kcL_hold (fun _ => 0)) (sel q0 (fun _ => (wX6_hold c X W R B K Q T Y X_ropes R_hour R_broken B_number Q_number Q_first Q_second Q_strength Q_wear Y_best) ++ [aL c o 1 f]) (fun (u : Int32 × (Nat → Int32)) => (wX6_hold c X W R B K Q T Y X_ropes R_hour R_broken B_number Q_number Q_first Q_second Q_strength Q_wear u.2) ++ [aL c o 1 (vp_updL f 0 u.1.toInt64)])) 1 6 := by
  refine DWi_of (cc := cL_hold) (nL := 5) RL rfl (by decide) rfl (Nat.le_of_ble_eq_true rfl) hfl (fun g C hXw ret => ?_)
  refine vv_lv [0, 1, 2, 3] [(0, .ref (X 0)), (1, .int a1), (2, .int a2), (3, .ref o)] rfl ?_
  refine vv_aload_n C dL_hold_0 rfl 3 rfl 1 rfl ?_
  refine vv_iconst C (v := 0) dL_hold_1 (by decide) 2 rfl ?_
  refine vv_aload_n C dL_hold_2 rfl 0 rfl 3 rfl ?_
  refine vv_iload_n C dL_hold_3 rfl 1 rfl 4 rfl ?_
  refine vv_iload_n C dL_hold_4 rfl 2 rfl 5 rfl ?_
  refine vv_callX C hXw (fun l hfl => mt_X6_hold l hfl D c X W R B K Q T Y X_ropes R_hour R_broken B_number Q_number Q_first Q_second Q_strength Q_wear Y_best a1 a2 q0 h) gL_hold_X6_hold rfl rfl rfl yd_X6_hold ⟨Nat.le_of_ble_eq_true rfl, Nat.le_of_ble_eq_true rfl⟩ [0, 1, 2, 3, 4, 5, 6, 7, 8, 9] rfl (by decide) 0 rfl rfl (fun u => (wX6_hold c X W R B K Q T Y X_ropes R_hour R_broken B_number Q_number Q_first Q_second Q_strength Q_wear u.2) ++ [aL c o 1 f]) [(true, 0), (true, 1), (true, 2), (true, 3), (true, 4), (true, 5), (true, 6), (true, 7), (true, 8), (true, 9), (false, 10)] (fun _ => rfl) (by decide) (fun _ => rfl) [(true, 0), (true, 1), (true, 2), (true, 3), (true, 4), (true, 5), (true, 6), (true, 7), (true, 8), (true, 9), (false, 10)] rfl (by decide) rfl [.int 0, .ref o] rfl (Nat.le_of_ble_eq_true rfl) ⟨Nat.le_of_ble_eq_true rfl, Nat.le_of_ble_eq_true rfl⟩ dL_hold_5 8 1 6 rfl ⟨rfl, rfl⟩ (fun k e => ?_) (fun u e => ?_)
  · have hk := hq k e
    subst e
    obtain rfl : k = 3 := by simpa using hk
    · refine ⟨by decide, 13, ⟨by decide, by decide, by decide, 3, by decide, kwL_hold_1, Or.inl ⟨rfl, rfl⟩⟩, fun q9 => ?_⟩
      refine vv_astore C [(4, .ref q9), (0, .ref (X 0)), (1, .int a1), (2, .int a2), (3, .ref o)] dL_hold_13 (by decide) rfl 15 rfl ?_
      refine vv_iconst C (v := 1) dL_hold_15 (by decide) 16 rfl ?_
      exact ret _ _ dL_hold_16
  · subst e
    refine vv_i2l C dL_hold_8 9 rfl ?_
    refine vv_last C (q0 := 10) ((wX6_hold c X W R B K Q T Y X_ropes R_hour R_broken B_number Q_number Q_first Q_second Q_strength Q_wear u.2) ++ [aL c o 1 (vp_updL f 0 u.1.toInt64)]) rfl (inB_t (by decide)) rfl dL_hold_9 10 rfl ?_
    refine vv_goto C 17 dL_hold_10 (by decide) ?_
    refine vv_iconst C (v := 0) dL_hold_17 (by decide) 18 rfl ?_
    exact ret _ _ dL_hold_18
def kcL_lashing : Nat → Int32 := fun k => 1
abbrev rmL_lashing : Room := { frames := 7, cells := 1, slots := 6, locals := 114 }
theorem yd_L_lashing : yL_lashing.cls ≠ "java/lang/invoke/MethodHandle" ∧ yL_lashing.cls ≠ "java/lang/invoke/VarHandle" ∧ (parseMethodDescriptor yL_lashing.desc).map (fun d => d.parameters.length) = some 5 := by decide +kernel
theorem kwL_lashing_1 : Cond.classLink RL 21 "java/lang/IndexOutOfBoundsException" ∈ wsL_lashing := List.mem_of_getElem? (i := 1) rfl
set_option maxHeartbeats 4000000 in
set_option maxRecDepth 100000 in
theorem mt_L_lashing (l : Launch) (hfl : l.stackTraces = false) (D : va_G) (c : Nat → ClassId) (X : Nat → Nat) (W : Nat → Nat) (R : Nat → Nat) (B : Nat → Nat) (K : Nat → Nat) (Q : Nat → Nat) (T : Nat → Nat) (Y : Nat → Nat) (X_ropes : Int32) (W_number : Int32) (W_windDx : Int32) (W_windDy : Int32) (W_wave : Nat → Int32) (W_counting : Nat → Int32) (R_hour : Int32) (R_broken : Int32) (B_number : Int32) (B_goods : Nat → Int32) (B_people : Nat → Int32) (B_x : Nat → Int32) (B_y : Nat → Int32) (Q_number : Int32) (Q_first : Nat → Int32) (Q_second : Nat → Int32) (Q_strength : Nat → Int32) (Q_wear : Nat → Int32) (a1 : Int32) (a2 : Int32) (a3 : Int32) (o : Nat) (f : Nat → Int64) (q0 : Nat ⊕ (Int32)) (h : jX6_lashing W_number W_wave W_counting B_number B_goods B_people B_x B_y Q_number Q_first Q_second Q_strength Q_wear a1 a2 a3 = some q0) (hq : ∀ k, q0 = .inl k → k ∈ [3]) : DWi l yL_lashing wsL_lashing rmL_lashing D c ((wX6_lashing c X W R B K Q T Y X_ropes W_number W_windDx W_windDy W_wave W_counting R_hour R_broken B_number B_goods B_people B_x B_y Q_number Q_first Q_second Q_strength Q_wear) ++ [aL c o 1 f]) [.ref (X 0), .int a1, .int a2, .int a3, .ref o] (sel q0 kcL_lashing (fun _ => 0)) (sel q0 (fun _ => (wX6_lashing c X W R B K Q T Y X_ropes W_number W_windDx W_windDy W_wave W_counting R_hour R_broken B_number B_goods B_people B_x B_y Q_number Q_first Q_second Q_strength Q_wear) ++ [aL c o 1 f]) (fun (u : Int32) => (wX6_lashing c X W R B K Q T Y X_ropes W_number W_windDx W_windDy W_wave W_counting R_hour R_broken B_number B_goods B_people B_x B_y Q_number Q_first Q_second Q_strength Q_wear) ++ [aL c o 1 (vp_updL f 0 u.toInt64)])) 1 6 := by
  refine DWi_of (cc := cL_lashing) (nL := 6) RL rfl (by decide) rfl (Nat.le_of_ble_eq_true rfl) hfl (fun g C hXw ret => ?_)
  refine vv_lv [0, 1, 2, 3, 4] [(0, .ref (X 0)), (1, .int a1), (2, .int a2), (3, .int a3), (4, .ref o)] rfl ?_
  refine vv_aload C dL_lashing_0 4 rfl 2 rfl ?_
  refine vv_iconst C (v := 0) dL_lashing_2 (by decide) 3 rfl ?_
  refine vv_aload_n C dL_lashing_3 rfl 0 rfl 4 rfl ?_
  refine vv_iload_n C dL_lashing_4 rfl 1 rfl 5 rfl ?_
  refine vv_iload_n C dL_lashing_5 rfl 2 rfl 6 rfl ?_
  refine vv_iload_n C dL_lashing_6 rfl 3 rfl 7 rfl ?_
  refine vv_callX C hXw (fun l hfl => mt_X6_lashing l hfl D c X W R B K Q T Y X_ropes W_number W_windDx W_windDy W_wave W_counting R_hour R_broken B_number B_goods B_people B_x B_y Q_number Q_first Q_second Q_strength Q_wear a1 a2 a3 q0 h) gL_lashing_X6_lashing rfl rfl rfl yd_X6_lashing ⟨Nat.le_of_ble_eq_true rfl, Nat.le_of_ble_eq_true rfl⟩ [0, 1, 2, 3, 4, 5, 6, 7, 8, 9, 10, 11, 12, 13, 14] rfl (by decide) 0 rfl rfl (fun u => (wX6_lashing c X W R B K Q T Y X_ropes W_number W_windDx W_windDy W_wave W_counting R_hour R_broken B_number B_goods B_people B_x B_y Q_number Q_first Q_second Q_strength Q_wear) ++ [aL c o 1 f]) [(true, 0), (true, 1), (true, 2), (true, 3), (true, 4), (true, 5), (true, 6), (true, 7), (true, 8), (true, 9), (true, 10), (true, 11), (true, 12), (true, 13), (true, 14), (false, 15)] (fun _ => rfl) (by decide) (fun _ => rfl) [(true, 0), (true, 1), (true, 2), (true, 3), (true, 4), (true, 5), (true, 6), (true, 7), (true, 8), (true, 9), (true, 10), (true, 11), (true, 12), (true, 13), (true, 14), (false, 15)] rfl (by decide) rfl [.int 0, .ref o] rfl (Nat.le_of_ble_eq_true rfl) ⟨Nat.le_of_ble_eq_true rfl, Nat.le_of_ble_eq_true rfl⟩ dL_lashing_7 10 1 6 rfl ⟨rfl, rfl⟩ (fun k e => ?_) (fun u e => ?_)
  · have hk := hq k e
    subst e
    obtain rfl : k = 3 := by simpa using hk
    · refine ⟨by decide, 15, ⟨by decide, by decide, by decide, 3, by decide, kwL_lashing_1, Or.inl ⟨rfl, rfl⟩⟩, fun q9 => ?_⟩
      refine vv_astore C [(5, .ref q9), (0, .ref (X 0)), (1, .int a1), (2, .int a2), (3, .int a3), (4, .ref o)] dL_lashing_15 (by decide) rfl 17 rfl ?_
      refine vv_iconst C (v := 1) dL_lashing_17 (by decide) 18 rfl ?_
      exact ret _ _ dL_lashing_18
  · subst e
    refine vv_i2l C dL_lashing_10 11 rfl ?_
    refine vv_last C (q0 := 15) ((wX6_lashing c X W R B K Q T Y X_ropes W_number W_windDx W_windDy W_wave W_counting R_hour R_broken B_number B_goods B_people B_x B_y Q_number Q_first Q_second Q_strength Q_wear) ++ [aL c o 1 (vp_updL f 0 u.toInt64)]) rfl (inB_t (by decide)) rfl dL_lashing_11 12 rfl ?_
    refine vv_goto C 19 dL_lashing_12 (by decide) ?_
    refine vv_iconst C (v := 0) dL_lashing_19 (by decide) 20 rfl ?_
    exact ret _ _ dL_lashing_20
def kcL_load : Nat → Int32 := fun k => if k = 3 then 1 else if k = 1 then 2 else 3
abbrev rmL_load : Room := { frames := 7, cells := 1, slots := 6, locals := 113 }
theorem yd_L_load : yL_load.cls ≠ "java/lang/invoke/MethodHandle" ∧ yL_load.cls ≠ "java/lang/invoke/VarHandle" ∧ (parseMethodDescriptor yL_load.desc).map (fun d => d.parameters.length) = some 4 := by decide +kernel
theorem kwL_load_1 : Cond.classLink RL 21 "java/lang/IndexOutOfBoundsException" ∈ wsL_load := List.mem_of_getElem? (i := 1) rfl
theorem kwL_load_2 : Cond.classLink RL 13 "java/lang/IllegalArgumentException" ∈ wsL_load := List.mem_of_getElem? (i := 2) rfl
theorem kwL_load_3 : Cond.classLink RL 15 "java/lang/IllegalStateException" ∈ wsL_load := List.mem_of_getElem? (i := 3) rfl
set_option maxHeartbeats 4000000 in
set_option maxRecDepth 100000 in
theorem mt_L_load (l : Launch) (hfl : l.stackTraces = false) (D : va_G) (c : Nat → ClassId) (X : Nat → Nat) (W : Nat → Nat) (R : Nat → Nat) (B : Nat → Nat) (K : Nat → Nat) (Q : Nat → Nat) (T : Nat → Nat) (Y : Nat → Nat) (X_ropes : Int32) (R_hour : Int32) (R_broken : Int32) (B_number : Int32) (B_goods : Nat → Int32) (B_state : Nat → Int32) (a1 : Int32) (a2 : Int32) (o : Nat) (f : Nat → Int64) (q0 : Nat ⊕ (Int32 × (Nat → Int32))) (h : jX6_load B_number B_goods B_state a1 a2 = some q0) (hq : ∀ k, q0 = .inl k → k ∈ [3, 1, 2]) : DWi l yL_load wsL_load rmL_load D c ((wX6_load c X W R B K Q T Y X_ropes R_hour R_broken B_number B_goods B_state) ++ [aL c o 1 f]) [.ref (X 0), .int a1, .int a2, .ref o] (sel q0 kcL_load (fun _ => 0)) (sel q0 (fun _ => (wX6_load c X W R B K Q T Y X_ropes R_hour R_broken B_number B_goods B_state) ++ [aL c o 1 f]) (fun (u : Int32 × (Nat → Int32)) => (wX6_load c X W R B K Q T Y X_ropes R_hour R_broken B_number u.2 B_state) ++ [aL c o 1 (vp_updL f 0 u.1.toInt64)])) 1 6 := by
  refine DWi_of (cc := cL_load) (nL := 5) RL rfl (by decide) rfl (Nat.le_of_ble_eq_true rfl) hfl (fun g C hXw ret => ?_)
  refine vv_lv [0, 1, 2, 3] [(0, .ref (X 0)), (1, .int a1), (2, .int a2), (3, .ref o)] rfl ?_
  refine vv_aload_n C dL_load_0 rfl 3 rfl 1 rfl ?_
  refine vv_iconst C (v := 0) dL_load_1 (by decide) 2 rfl ?_
  refine vv_aload_n C dL_load_2 rfl 0 rfl 3 rfl ?_
  refine vv_iload_n C dL_load_3 rfl 1 rfl 4 rfl ?_
  refine vv_iload_n C dL_load_4 rfl 2 rfl 5 rfl ?_
  refine vv_callX C hXw (fun l hfl => mt_X6_load l hfl D c X W R B K Q T Y X_ropes R_hour R_broken B_number B_goods B_state a1 a2 q0 h) gL_load_X6_load rfl rfl rfl yd_X6_load ⟨Nat.le_of_ble_eq_true rfl, Nat.le_of_ble_eq_true rfl⟩ [0, 1, 2, 3, 4] rfl (by decide) 0 rfl rfl (fun u => (wX6_load c X W R B K Q T Y X_ropes R_hour R_broken B_number u.2 B_state) ++ [aL c o 1 f]) [(true, 0), (true, 1), (true, 2), (true, 3), (true, 4), (false, 5)] (fun _ => rfl) (by decide) (fun _ => rfl) [(true, 0), (true, 1), (true, 2), (true, 3), (true, 4), (false, 5)] rfl (by decide) rfl [.int 0, .ref o] rfl (Nat.le_of_ble_eq_true rfl) ⟨Nat.le_of_ble_eq_true rfl, Nat.le_of_ble_eq_true rfl⟩ dL_load_5 8 1 6 rfl ⟨rfl, rfl⟩ (fun k e => ?_) (fun u e => ?_)
  · have hk := hq k e
    subst e
    rcases (show k = 3 ∨ k = 1 ∨ k = 2 by simpa using hk) with rfl | rfl | rfl
    · refine ⟨by decide, 13, ⟨by decide, by decide, by decide, 3, by decide, kwL_load_1, Or.inl ⟨rfl, rfl⟩⟩, fun q9 => ?_⟩
      refine vv_astore C [(4, .ref q9), (0, .ref (X 0)), (1, .int a1), (2, .int a2), (3, .ref o)] dL_load_13 (by decide) rfl 15 rfl ?_
      refine vv_iconst C (v := 1) dL_load_15 (by decide) 16 rfl ?_
      exact ret _ _ dL_load_16
    · refine ⟨by decide, 17, ⟨by decide, by decide, by decide, 3, by decide, kwL_load_1, Or.inr ⟨by decide, ⟨by decide, by decide, by decide, 1, by decide, kwL_load_2, Or.inl ⟨rfl, rfl⟩⟩⟩⟩, fun q9 => ?_⟩
      refine vv_astore C [(4, .ref q9), (0, .ref (X 0)), (1, .int a1), (2, .int a2), (3, .ref o)] dL_load_17 (by decide) rfl 19 rfl ?_
      refine vv_iconst C (v := 2) dL_load_19 (by decide) 20 rfl ?_
      exact ret _ _ dL_load_20
    · refine ⟨by decide, 21, ⟨by decide, by decide, by decide, 3, by decide, kwL_load_1, Or.inr ⟨by decide, ⟨by decide, by decide, by decide, 1, by decide, kwL_load_2, Or.inr ⟨by decide, ⟨by decide, by decide, by decide, 2, by decide, kwL_load_3, Or.inl ⟨rfl, rfl⟩⟩⟩⟩⟩⟩, fun q9 => ?_⟩
      refine vv_astore C [(4, .ref q9), (0, .ref (X 0)), (1, .int a1), (2, .int a2), (3, .ref o)] dL_load_21 (by decide) rfl 23 rfl ?_
      refine vv_iconst C (v := 3) dL_load_23 (by decide) 24 rfl ?_
      exact ret _ _ dL_load_24
  · subst e
    refine vv_i2l C dL_load_8 9 rfl ?_
    refine vv_last C (q0 := 5) ((wX6_load c X W R B K Q T Y X_ropes R_hour R_broken B_number u.2 B_state) ++ [aL c o 1 (vp_updL f 0 u.1.toInt64)]) rfl (inB_t (by decide)) rfl dL_load_9 10 rfl ?_
    refine vv_goto C 25 dL_load_10 (by decide) ?_
    refine vv_iconst C (v := 0) dL_load_25 (by decide) 26 rfl ?_
    exact ret _ _ dL_load_26
def kcL_pass : Nat → Int32 := fun k => 1
abbrev rmL_pass : Room := { frames := 7, cells := 1, slots := 6, locals := 137 }
theorem yd_L_pass : yL_pass.cls ≠ "java/lang/invoke/MethodHandle" ∧ yL_pass.cls ≠ "java/lang/invoke/VarHandle" ∧ (parseMethodDescriptor yL_pass.desc).map (fun d => d.parameters.length) = some 3 := by decide +kernel
theorem kwL_pass_1 : Cond.classLink RL 13 "java/lang/IllegalArgumentException" ∈ wsL_pass := List.mem_of_getElem? (i := 1) rfl
set_option maxHeartbeats 4000000 in
set_option maxRecDepth 100000 in
theorem mt_L_pass (l : Launch) (hfl : l.stackTraces = false) (D : va_G) (c : Nat → ClassId) (X : Nat → Nat) (W : Nat → Nat) (R : Nat → Nat) (B : Nat → Nat) (K : Nat → Nat) (Q : Nat → Nat) (T : Nat → Nat) (Y : Nat → Nat) (X_ropes : Int32) (W_number : Int32) (W_windDx : Int32) (W_windDy : Int32) (W_dx : Nat → Int32) (W_dy : Nat → Int32) (W_wave : Nat → Int32) (W_counting : Nat → Int32) (R_hour : Int32) (R_broken : Int32) (R_pieceLift : Nat → Int32) (R_pieceLoad : Nat → Int32) (B_number : Int32) (B_lift : Nat → Int32) (B_leak : Nat → Int32) (B_water : Nat → Int32) (B_goods : Nat → Int32) (B_people : Nat → Int32) (B_state : Nat → Int32) (B_x : Nat → Int32) (B_y : Nat → Int32) (B_piece : Nat → Int32) (K_number : Int32) (K_seat : Nat → Int32) (K_state : Nat → Int32) (Q_number : Int32) (Q_first : Nat → Int32) (Q_second : Nat → Int32) (Q_strength : Nat → Int32) (Q_wear : Nat → Int32) (a1 : Int32) (o : Nat) (f : Nat → Int64) (q0 : Nat ⊕ (Int32 × Int32 × Int32 × (Nat → Int32) × (Nat → Int32) × (Nat → Int32) × (Nat → Int32) × (Nat → Int32) × (Nat → Int32) × (Nat → Int32) × (Nat → Int32) × (Nat → Int32) × (Nat → Int32) × (Nat → Int32) × Int32 × (Nat → Int32) × (Nat → Int32) × (Nat → Int32) × (Nat → Int32))) (h : jX6_pass W_number W_windDx W_windDy W_dx W_dy W_wave W_counting R_hour R_broken R_pieceLift R_pieceLoad B_number B_lift B_leak B_water B_goods B_people B_state B_x B_y B_piece K_number K_seat K_state Q_number Q_first Q_second Q_strength Q_wear a1 = some q0) (hq : ∀ k, q0 = .inl k → k ∈ [1]) : DWi l yL_pass wsL_pass rmL_pass D c ((wX6_pass c X W R B K Q T Y X_ropes W_number W_windDx W_windDy W_dx W_dy W_wave W_counting R_hour R_broken R_pieceLift R_pieceLoad B_number B_lift B_leak B_water B_goods B_people B_state B_x B_y B_piece K_number K_seat K_state Q_number Q_first Q_second Q_strength Q_wear) ++ [aL c o 1 f]) [.ref (X 0), .int a1, .ref o] (sel q0 kcL_pass (fun _ => 0)) (sel q0 (fun _ => (wX6_pass c X W R B K Q T Y X_ropes W_number W_windDx W_windDy W_dx W_dy W_wave W_counting R_hour R_broken R_pieceLift R_pieceLoad B_number B_lift B_leak B_water B_goods B_people B_state B_x B_y B_piece K_number K_seat K_state Q_number Q_first Q_second Q_strength Q_wear) ++ [aL c o 1 f]) (fun (u : Int32 × Int32 × Int32 × (Nat → Int32) × (Nat → Int32) × (Nat → Int32) × (Nat → Int32) × (Nat → Int32) × (Nat → Int32) × (Nat → Int32) × (Nat → Int32) × (Nat → Int32) × (Nat → Int32) × (Nat → Int32) × Int32 × (Nat → Int32) × (Nat → Int32) × (Nat → Int32) × (Nat → Int32)) => (wX6_pass c X W R B K Q T Y X_ropes W_number W_windDx W_windDy W_dx W_dy W_wave W_counting u.2.1 u.2.2.1 u.2.2.2.1 u.2.2.2.2.1 B_number B_lift B_leak u.2.2.2.2.2.1 u.2.2.2.2.2.2.1 u.2.2.2.2.2.2.2.1 u.2.2.2.2.2.2.2.2.1 u.2.2.2.2.2.2.2.2.2.1 u.2.2.2.2.2.2.2.2.2.2.1 u.2.2.2.2.2.2.2.2.2.2.2.1 K_number u.2.2.2.2.2.2.2.2.2.2.2.2.1 u.2.2.2.2.2.2.2.2.2.2.2.2.2.1 u.2.2.2.2.2.2.2.2.2.2.2.2.2.2.1 u.2.2.2.2.2.2.2.2.2.2.2.2.2.2.2.1 u.2.2.2.2.2.2.2.2.2.2.2.2.2.2.2.2.1 u.2.2.2.2.2.2.2.2.2.2.2.2.2.2.2.2.2.1 u.2.2.2.2.2.2.2.2.2.2.2.2.2.2.2.2.2.2) ++ [aL c o 1 (vp_updL f 0 u.1.toInt64)])) 1 6 := by
  refine DWi_of (cc := cL_pass) (nL := 4) RL rfl (by decide) rfl (Nat.le_of_ble_eq_true rfl) hfl (fun g C hXw ret => ?_)
  refine vv_lv [0, 1, 2] [(0, .ref (X 0)), (1, .int a1), (2, .ref o)] rfl ?_
  refine vv_aload_n C dL_pass_0 rfl 2 rfl 1 rfl ?_
  refine vv_iconst C (v := 0) dL_pass_1 (by decide) 2 rfl ?_
  refine vv_aload_n C dL_pass_2 rfl 0 rfl 3 rfl ?_
  refine vv_iload_n C dL_pass_3 rfl 1 rfl 4 rfl ?_
  refine vv_callX C hXw (fun l hfl => mt_X6_pass l hfl D c X W R B K Q T Y X_ropes W_number W_windDx W_windDy W_dx W_dy W_wave W_counting R_hour R_broken R_pieceLift R_pieceLoad B_number B_lift B_leak B_water B_goods B_people B_state B_x B_y B_piece K_number K_seat K_state Q_number Q_first Q_second Q_strength Q_wear a1 q0 h) gL_pass_X6_pass rfl rfl rfl yd_X6_pass ⟨Nat.le_of_ble_eq_true rfl, Nat.le_of_ble_eq_true rfl⟩ [0, 1, 2, 3, 4, 5, 6, 7, 8, 9, 10, 11, 12, 13, 14, 15, 16, 17, 18, 19, 20, 21, 22, 23, 24, 25, 26] rfl (by decide) 0 rfl rfl (fun u => (wX6_pass c X W R B K Q T Y X_ropes W_number W_windDx W_windDy W_dx W_dy W_wave W_counting u.2.1 u.2.2.1 u.2.2.2.1 u.2.2.2.2.1 B_number B_lift B_leak u.2.2.2.2.2.1 u.2.2.2.2.2.2.1 u.2.2.2.2.2.2.2.1 u.2.2.2.2.2.2.2.2.1 u.2.2.2.2.2.2.2.2.2.1 u.2.2.2.2.2.2.2.2.2.2.1 u.2.2.2.2.2.2.2.2.2.2.2.1 K_number u.2.2.2.2.2.2.2.2.2.2.2.2.1 u.2.2.2.2.2.2.2.2.2.2.2.2.2.1 u.2.2.2.2.2.2.2.2.2.2.2.2.2.2.1 u.2.2.2.2.2.2.2.2.2.2.2.2.2.2.2.1 u.2.2.2.2.2.2.2.2.2.2.2.2.2.2.2.2.1 u.2.2.2.2.2.2.2.2.2.2.2.2.2.2.2.2.2.1 u.2.2.2.2.2.2.2.2.2.2.2.2.2.2.2.2.2.2) ++ [aL c o 1 f]) [(true, 0), (true, 1), (true, 2), (true, 3), (true, 4), (true, 5), (true, 6), (true, 7), (true, 8), (true, 9), (true, 10), (true, 11), (true, 12), (true, 13), (true, 14), (true, 15), (true, 16), (true, 17), (true, 18), (true, 19), (true, 20), (true, 21), (true, 22), (true, 23), (true, 24), (true, 25), (true, 26), (false, 27)] (fun _ => rfl) (by decide) (fun _ => rfl) [(true, 0), (true, 1), (true, 2), (true, 3), (true, 4), (true, 5), (true, 6), (true, 7), (true, 8), (true, 9), (true, 10), (true, 11), (true, 12), (true, 13), (true, 14), (true, 15), (true, 16), (true, 17), (true, 18), (true, 19), (true, 20), (true, 21), (true, 22), (true, 23), (true, 24), (true, 25), (true, 26), (false, 27)] rfl (by decide) rfl [.int 0, .ref o] rfl (Nat.le_of_ble_eq_true rfl) ⟨Nat.le_of_ble_eq_true rfl, Nat.le_of_ble_eq_true rfl⟩ dL_pass_4 7 1 6 rfl ⟨rfl, rfl⟩ (fun k e => ?_) (fun u e => ?_)
  · have hk := hq k e
    subst e
    obtain rfl : k = 1 := by simpa using hk
    · refine ⟨by decide, 12, ⟨by decide, by decide, by decide, 1, by decide, kwL_pass_1, Or.inl ⟨rfl, rfl⟩⟩, fun q9 => ?_⟩
      refine vv_astore_n C [(3, .ref q9), (0, .ref (X 0)), (1, .int a1), (2, .ref o)] dL_pass_12 rfl (by decide) rfl 13 rfl ?_
      refine vv_iconst C (v := 1) dL_pass_13 (by decide) 14 rfl ?_
      exact ret _ _ dL_pass_14
  · subst e
    refine vv_i2l C dL_pass_7 8 rfl ?_
    refine vv_last C (q0 := 27) ((wX6_pass c X W R B K Q T Y X_ropes W_number W_windDx W_windDy W_dx W_dy W_wave W_counting u.2.1 u.2.2.1 u.2.2.2.1 u.2.2.2.2.1 B_number B_lift B_leak u.2.2.2.2.2.1 u.2.2.2.2.2.2.1 u.2.2.2.2.2.2.2.1 u.2.2.2.2.2.2.2.2.1 u.2.2.2.2.2.2.2.2.2.1 u.2.2.2.2.2.2.2.2.2.2.1 u.2.2.2.2.2.2.2.2.2.2.2.1 K_number u.2.2.2.2.2.2.2.2.2.2.2.2.1 u.2.2.2.2.2.2.2.2.2.2.2.2.2.1 u.2.2.2.2.2.2.2.2.2.2.2.2.2.2.1 u.2.2.2.2.2.2.2.2.2.2.2.2.2.2.2.1 u.2.2.2.2.2.2.2.2.2.2.2.2.2.2.2.2.1 u.2.2.2.2.2.2.2.2.2.2.2.2.2.2.2.2.2.1 u.2.2.2.2.2.2.2.2.2.2.2.2.2.2.2.2.2.2) ++ [aL c o 1 (vp_updL f 0 u.1.toInt64)]) rfl (inB_t (by decide)) rfl dL_pass_8 9 rfl ?_
    refine vv_goto C 15 dL_pass_9 (by decide) ?_
    refine vv_iconst C (v := 0) dL_pass_15 (by decide) 16 rfl ?_
    exact ret _ _ dL_pass_16
def kcL_piece : Nat → Int32 := fun k => 1
abbrev rmL_piece : Room := { frames := 7, cells := 1, slots := 6, locals := 147 }
theorem yd_L_piece : yL_piece.cls ≠ "java/lang/invoke/MethodHandle" ∧ yL_piece.cls ≠ "java/lang/invoke/VarHandle" ∧ (parseMethodDescriptor yL_piece.desc).map (fun d => d.parameters.length) = some 4 := by decide +kernel
theorem kwL_piece_1 : Cond.classLink RL 21 "java/lang/IndexOutOfBoundsException" ∈ wsL_piece := List.mem_of_getElem? (i := 1) rfl
set_option maxHeartbeats 4000000 in
set_option maxRecDepth 100000 in
theorem mt_L_piece (l : Launch) (hfl : l.stackTraces = false) (D : va_G) (c : Nat → ClassId) (X : Nat → Nat) (W : Nat → Nat) (R : Nat → Nat) (B : Nat → Nat) (K : Nat → Nat) (Q : Nat → Nat) (T : Nat → Nat) (Y : Nat → Nat) (X_ropes : Int32) (R_hour : Int32) (R_broken : Int32) (B_number : Int32) (B_lift : Nat → Int32) (B_water : Nat → Int32) (B_goods : Nat → Int32) (B_people : Nat → Int32) (B_piece : Nat → Int32) (Q_number : Int32) (Q_first : Nat → Int32) (Q_second : Nat → Int32) (Y_used : Nat → Int32) (Y_cameBy : Nat → Int32) (Y_reached : Nat → Int32) (a1 : Int32) (a2 : Int32) (o : Nat) (f : Nat → Int64) (q0 : Nat ⊕ (Int32 × (Nat → Int32) × (Nat → Int32) × (Nat → Int32))) (h : jX6_piece B_number B_lift B_water B_goods B_people B_piece Q_number Q_first Q_second Y_used Y_cameBy Y_reached a1 a2 = some q0) (hq : ∀ k, q0 = .inl k → k ∈ [3]) : DWi l yL_piece wsL_piece rmL_piece D c ((wX6_piece c X W R B K Q T Y X_ropes R_hour R_broken B_number B_lift B_water B_goods B_people B_piece Q_number Q_first Q_second Y_used Y_cameBy Y_reached) ++ [aL c o 1 f]) [.ref (X 0), .int a1, .int a2, .ref o] (sel q0 kcL_piece (fun _ => 0)) (sel q0 (fun _ => (wX6_piece c X W R B K Q T Y X_ropes R_hour R_broken B_number B_lift B_water B_goods B_people B_piece Q_number Q_first Q_second Y_used Y_cameBy Y_reached) ++ [aL c o 1 f]) (fun (u : Int32 × (Nat → Int32) × (Nat → Int32) × (Nat → Int32)) => (wX6_piece c X W R B K Q T Y X_ropes R_hour R_broken B_number B_lift B_water B_goods B_people B_piece Q_number Q_first Q_second u.2.1 u.2.2.1 u.2.2.2) ++ [aL c o 1 (vp_updL f 0 u.1.toInt64)])) 1 6 := by
  refine DWi_of (cc := cL_piece) (nL := 5) RL rfl (by decide) rfl (Nat.le_of_ble_eq_true rfl) hfl (fun g C hXw ret => ?_)
  refine vv_lv [0, 1, 2, 3] [(0, .ref (X 0)), (1, .int a1), (2, .int a2), (3, .ref o)] rfl ?_
  refine vv_aload_n C dL_piece_0 rfl 3 rfl 1 rfl ?_
  refine vv_iconst C (v := 0) dL_piece_1 (by decide) 2 rfl ?_
  refine vv_aload_n C dL_piece_2 rfl 0 rfl 3 rfl ?_
  refine vv_iload_n C dL_piece_3 rfl 1 rfl 4 rfl ?_
  refine vv_iload_n C dL_piece_4 rfl 2 rfl 5 rfl ?_
  refine vv_callX C hXw (fun l hfl => mt_X6_piece l hfl D c X W R B K Q T Y X_ropes R_hour R_broken B_number B_lift B_water B_goods B_people B_piece Q_number Q_first Q_second Y_used Y_cameBy Y_reached a1 a2 q0 h) gL_piece_X6_piece rfl rfl rfl yd_X6_piece ⟨Nat.le_of_ble_eq_true rfl, Nat.le_of_ble_eq_true rfl⟩ [0, 1, 2, 3, 4, 5, 6, 7, 8, 9, 10, 11, 12, 13, 14] rfl (by decide) 0 rfl rfl (fun u => (wX6_piece c X W R B K Q T Y X_ropes R_hour R_broken B_number B_lift B_water B_goods B_people B_piece Q_number Q_first Q_second u.2.1 u.2.2.1 u.2.2.2) ++ [aL c o 1 f]) [(true, 0), (true, 1), (true, 2), (true, 3), (true, 4), (true, 5), (true, 6), (true, 7), (true, 8), (true, 9), (true, 10), (true, 11), (true, 12), (true, 13), (true, 14), (false, 15)] (fun _ => rfl) (by decide) (fun _ => rfl) [(true, 0), (true, 1), (true, 2), (true, 3), (true, 4), (true, 5), (true, 6), (true, 7), (true, 8), (true, 9), (true, 10), (true, 11), (true, 12), (true, 13), (true, 14), (false, 15)] rfl (by decide) rfl [.int 0, .ref o] rfl (Nat.le_of_ble_eq_true rfl) ⟨Nat.le_of_ble_eq_true rfl, Nat.le_of_ble_eq_true rfl⟩ dL_piece_5 8 1 6 rfl ⟨rfl, rfl⟩ (fun k e => ?_) (fun u e => ?_)
  · have hk := hq k e
    subst e
    obtain rfl : k = 3 := by simpa using hk
    · refine ⟨by decide, 13, ⟨by decide, by decide, by decide, 3, by decide, kwL_piece_1, Or.inl ⟨rfl, rfl⟩⟩, fun q9 => ?_⟩
      refine vv_astore C [(4, .ref q9), (0, .ref (X 0)), (1, .int a1), (2, .int a2), (3, .ref o)] dL_piece_13 (by decide) rfl 15 rfl ?_
      refine vv_iconst C (v := 1) dL_piece_15 (by decide) 16 rfl ?_
      exact ret _ _ dL_piece_16
  · subst e
    refine vv_i2l C dL_piece_8 9 rfl ?_
    refine vv_last C (q0 := 15) ((wX6_piece c X W R B K Q T Y X_ropes R_hour R_broken B_number B_lift B_water B_goods B_people B_piece Q_number Q_first Q_second u.2.1 u.2.2.1 u.2.2.2) ++ [aL c o 1 (vp_updL f 0 u.1.toInt64)]) rfl (inB_t (by decide)) rfl dL_piece_9 10 rfl ?_
    refine vv_goto C 17 dL_piece_10 (by decide) ?_
    refine vv_iconst C (v := 0) dL_piece_17 (by decide) 18 rfl ?_
    exact ret _ _ dL_piece_18
def kcL_sea : Nat → Int32 := fun k => 1
abbrev rmL_sea : Room := { frames := 7, cells := 1, slots := 6, locals := 114 }
theorem yd_L_sea : yL_sea.cls ≠ "java/lang/invoke/MethodHandle" ∧ yL_sea.cls ≠ "java/lang/invoke/VarHandle" ∧ (parseMethodDescriptor yL_sea.desc).map (fun d => d.parameters.length) = some 5 := by decide +kernel
theorem kwL_sea_1 : Cond.classLink RL 21 "java/lang/IndexOutOfBoundsException" ∈ wsL_sea := List.mem_of_getElem? (i := 1) rfl
set_option maxHeartbeats 4000000 in
set_option maxRecDepth 100000 in
theorem mt_L_sea (l : Launch) (hfl : l.stackTraces = false) (D : va_G) (c : Nat → ClassId) (X : Nat → Nat) (W : Nat → Nat) (R : Nat → Nat) (B : Nat → Nat) (K : Nat → Nat) (Q : Nat → Nat) (T : Nat → Nat) (Y : Nat → Nat) (X_ropes : Int32) (W_number : Int32) (W_windDx : Int32) (W_windDy : Int32) (W_dx : Nat → Int32) (W_dy : Nat → Int32) (W_wave : Nat → Int32) (W_counting : Nat → Int32) (R_hour : Int32) (R_broken : Int32) (B_number : Int32) (B_state : Nat → Int32) (B_x : Nat → Int32) (B_y : Nat → Int32) (a1 : Int32) (a2 : Int32) (a3 : Int32) (o : Nat) (f : Nat → Int64) (q0 : Nat ⊕ (Int32)) (h : jX6_sea W_number W_dx W_dy W_wave W_counting B_number B_state B_x B_y a1 a2 a3 = some q0) (hq : ∀ k, q0 = .inl k → k ∈ [3]) : DWi l yL_sea wsL_sea rmL_sea D c ((wX6_sea c X W R B K Q T Y X_ropes W_number W_windDx W_windDy W_dx W_dy W_wave W_counting R_hour R_broken B_number B_state B_x B_y) ++ [aL c o 1 f]) [.ref (X 0), .int a1, .int a2, .int a3, .ref o] (sel q0 kcL_sea (fun _ => 0)) (sel q0 (fun _ => (wX6_sea c X W R B K Q T Y X_ropes W_number W_windDx W_windDy W_dx W_dy W_wave W_counting R_hour R_broken B_number B_state B_x B_y) ++ [aL c o 1 f]) (fun (u : Int32) => (wX6_sea c X W R B K Q T Y X_ropes W_number W_windDx W_windDy W_dx W_dy W_wave W_counting R_hour R_broken B_number B_state B_x B_y) ++ [aL c o 1 (vp_updL f 0 u.toInt64)])) 1 6 := by
  refine DWi_of (cc := cL_sea) (nL := 6) RL rfl (by decide) rfl (Nat.le_of_ble_eq_true rfl) hfl (fun g C hXw ret => ?_)
  refine vv_lv [0, 1, 2, 3, 4] [(0, .ref (X 0)), (1, .int a1), (2, .int a2), (3, .int a3), (4, .ref o)] rfl ?_
  refine vv_aload C dL_sea_0 4 rfl 2 rfl ?_
  refine vv_iconst C (v := 0) dL_sea_2 (by decide) 3 rfl ?_
  refine vv_aload_n C dL_sea_3 rfl 0 rfl 4 rfl ?_
  refine vv_iload_n C dL_sea_4 rfl 1 rfl 5 rfl ?_
  refine vv_iload_n C dL_sea_5 rfl 2 rfl 6 rfl ?_
  refine vv_iload_n C dL_sea_6 rfl 3 rfl 7 rfl ?_
  refine vv_callX C hXw (fun l hfl => mt_X6_sea l hfl D c X W R B K Q T Y X_ropes W_number W_windDx W_windDy W_dx W_dy W_wave W_counting R_hour R_broken B_number B_state B_x B_y a1 a2 a3 q0 h) gL_sea_X6_sea rfl rfl rfl yd_X6_sea ⟨Nat.le_of_ble_eq_true rfl, Nat.le_of_ble_eq_true rfl⟩ [0, 1, 2, 3, 4, 5, 6, 7, 8, 9, 10] rfl (by decide) 0 rfl rfl (fun u => (wX6_sea c X W R B K Q T Y X_ropes W_number W_windDx W_windDy W_dx W_dy W_wave W_counting R_hour R_broken B_number B_state B_x B_y) ++ [aL c o 1 f]) [(true, 0), (true, 1), (true, 2), (true, 3), (true, 4), (true, 5), (true, 6), (true, 7), (true, 8), (true, 9), (true, 10), (false, 11)] (fun _ => rfl) (by decide) (fun _ => rfl) [(true, 0), (true, 1), (true, 2), (true, 3), (true, 4), (true, 5), (true, 6), (true, 7), (true, 8), (true, 9), (true, 10), (false, 11)] rfl (by decide) rfl [.int 0, .ref o] rfl (Nat.le_of_ble_eq_true rfl) ⟨Nat.le_of_ble_eq_true rfl, Nat.le_of_ble_eq_true rfl⟩ dL_sea_7 10 1 6 rfl ⟨rfl, rfl⟩ (fun k e => ?_) (fun u e => ?_)
  · have hk := hq k e
    subst e
    obtain rfl : k = 3 := by simpa using hk
    · refine ⟨by decide, 15, ⟨by decide, by decide, by decide, 3, by decide, kwL_sea_1, Or.inl ⟨rfl, rfl⟩⟩, fun q9 => ?_⟩
      refine vv_astore C [(5, .ref q9), (0, .ref (X 0)), (1, .int a1), (2, .int a2), (3, .int a3), (4, .ref o)] dL_sea_15 (by decide) rfl 17 rfl ?_
      refine vv_iconst C (v := 1) dL_sea_17 (by decide) 18 rfl ?_
      exact ret _ _ dL_sea_18
  · subst e
    refine vv_i2l C dL_sea_10 11 rfl ?_
    refine vv_last C (q0 := 11) ((wX6_sea c X W R B K Q T Y X_ropes W_number W_windDx W_windDy W_dx W_dy W_wave W_counting R_hour R_broken B_number B_state B_x B_y) ++ [aL c o 1 (vp_updL f 0 u.toInt64)]) rfl (inB_t (by decide)) rfl dL_sea_11 12 rfl ?_
    refine vv_goto C 19 dL_sea_12 (by decide) ?_
    refine vv_iconst C (v := 0) dL_sea_19 (by decide) 20 rfl ?_
    exact ret _ _ dL_sea_20
def kcL_setWind : Nat → Int32 := fun k => 1
abbrev rmL_setWind : Room := { frames := 7, cells := 1, slots := 6, locals := 113 }
theorem yd_L_setWind : yL_setWind.cls ≠ "java/lang/invoke/MethodHandle" ∧ yL_setWind.cls ≠ "java/lang/invoke/VarHandle" ∧ (parseMethodDescriptor yL_setWind.desc).map (fun d => d.parameters.length) = some 4 := by decide +kernel
theorem kwL_setWind_1 : Cond.classLink RL 13 "java/lang/IllegalArgumentException" ∈ wsL_setWind := List.mem_of_getElem? (i := 1) rfl
set_option maxHeartbeats 4000000 in
set_option maxRecDepth 100000 in
theorem mt_L_setWind (l : Launch) (hfl : l.stackTraces = false) (D : va_G) (c : Nat → ClassId) (X : Nat → Nat) (W : Nat → Nat) (R : Nat → Nat) (T : Nat → Nat) (Y : Nat → Nat) (X_ropes : Int32) (W_number : Int32) (W_windDx : Int32) (W_windDy : Int32) (a1 : Int32) (a2 : Int32) (o : Nat) (f : Nat → Int64) (q0 : Nat ⊕ (Int32 × Int32 × Int32)) (h : jX6_setWind W_windDx W_windDy a1 a2 = some q0) (hq : ∀ k, q0 = .inl k → k ∈ [1]) : DWi l yL_setWind wsL_setWind rmL_setWind D c ((wX6_setWind c X W R T Y X_ropes W_number W_windDx W_windDy) ++ [aL c o 1 f]) [.ref (X 0), .int a1, .int a2, .ref o] (sel q0 kcL_setWind (fun _ => 0)) (sel q0 (fun _ => (wX6_setWind c X W R T Y X_ropes W_number W_windDx W_windDy) ++ [aL c o 1 f]) (fun (u : Int32 × Int32 × Int32) => (wX6_setWind c X W R T Y X_ropes W_number u.2.1 u.2.2) ++ [aL c o 1 (vp_updL f 0 u.1.toInt64)])) 1 6 := by
  refine DWi_of (cc := cL_setWind) (nL := 5) RL rfl (by decide) rfl (Nat.le_of_ble_eq_true rfl) hfl (fun g C hXw ret => ?_)
  refine vv_lv [0, 1, 2, 3] [(0, .ref (X 0)), (1, .int a1), (2, .int a2), (3, .ref o)] rfl ?_
  refine vv_aload_n C dL_setWind_0 rfl 3 rfl 1 rfl ?_
  refine vv_iconst C (v := 0) dL_setWind_1 (by decide) 2 rfl ?_
  refine vv_aload_n C dL_setWind_2 rfl 0 rfl 3 rfl ?_
  refine vv_iload_n C dL_setWind_3 rfl 1 rfl 4 rfl ?_
  refine vv_iload_n C dL_setWind_4 rfl 2 rfl 5 rfl ?_
  refine vv_callX C hXw (fun l hfl => mt_X6_setWind l hfl D c X W R T Y X_ropes W_number W_windDx W_windDy a1 a2 q0 h) gL_setWind_X6_setWind rfl rfl rfl yd_X6_setWind ⟨Nat.le_of_ble_eq_true rfl, Nat.le_of_ble_eq_true rfl⟩ [0, 1] rfl (by decide) 0 rfl rfl (fun u => (wX6_setWind c X W R T Y X_ropes W_number u.2.1 u.2.2) ++ [aL c o 1 f]) [(true, 0), (true, 1), (false, 2)] (fun _ => rfl) (by decide) (fun _ => rfl) [(true, 0), (true, 1), (false, 2)] rfl (by decide) rfl [.int 0, .ref o] rfl (Nat.le_of_ble_eq_true rfl) ⟨Nat.le_of_ble_eq_true rfl, Nat.le_of_ble_eq_true rfl⟩ dL_setWind_5 8 1 6 rfl ⟨rfl, rfl⟩ (fun k e => ?_) (fun u e => ?_)
  · have hk := hq k e
    subst e
    obtain rfl : k = 1 := by simpa using hk
    · refine ⟨by decide, 13, ⟨by decide, by decide, by decide, 1, by decide, kwL_setWind_1, Or.inl ⟨rfl, rfl⟩⟩, fun q9 => ?_⟩
      refine vv_astore C [(4, .ref q9), (0, .ref (X 0)), (1, .int a1), (2, .int a2), (3, .ref o)] dL_setWind_13 (by decide) rfl 15 rfl ?_
      refine vv_iconst C (v := 1) dL_setWind_15 (by decide) 16 rfl ?_
      exact ret _ _ dL_setWind_16
  · subst e
    refine vv_i2l C dL_setWind_8 9 rfl ?_
    refine vv_last C (q0 := 2) ((wX6_setWind c X W R T Y X_ropes W_number u.2.1 u.2.2) ++ [aL c o 1 (vp_updL f 0 u.1.toInt64)]) rfl (inB_t (by decide)) rfl dL_setWind_9 10 rfl ?_
    refine vv_goto C 17 dL_setWind_10 (by decide) ?_
    refine vv_iconst C (v := 0) dL_setWind_17 (by decide) 18 rfl ?_
    exact ret _ _ dL_setWind_18
def kcL_tie : Nat → Int32 := fun k => if k = 3 then 1 else if k = 1 then 2 else 3
abbrev rmL_tie : Room := { frames := 7, cells := 1, slots := 6, locals := 113 }
theorem yd_L_tie : yL_tie.cls ≠ "java/lang/invoke/MethodHandle" ∧ yL_tie.cls ≠ "java/lang/invoke/VarHandle" ∧ (parseMethodDescriptor yL_tie.desc).map (fun d => d.parameters.length) = some 5 := by decide +kernel
theorem kwL_tie_1 : Cond.classLink RL 21 "java/lang/IndexOutOfBoundsException" ∈ wsL_tie := List.mem_of_getElem? (i := 1) rfl
theorem kwL_tie_2 : Cond.classLink RL 13 "java/lang/IllegalArgumentException" ∈ wsL_tie := List.mem_of_getElem? (i := 2) rfl
theorem kwL_tie_3 : Cond.classLink RL 15 "java/lang/IllegalStateException" ∈ wsL_tie := List.mem_of_getElem? (i := 3) rfl
set_option maxHeartbeats 4000000 in
set_option maxRecDepth 100000 in
theorem mt_L_tie (l : Launch) (hfl : l.stackTraces = false) (D : va_G) (c : Nat → ClassId) (X : Nat → Nat) (W : Nat → Nat) (R : Nat → Nat) (B : Nat → Nat) (K : Nat → Nat) (Q : Nat → Nat) (T : Nat → Nat) (Y : Nat → Nat) (X_ropes : Int32) (R_hour : Int32) (R_broken : Int32) (B_number : Int32) (B_column : Nat → Int32) (B_row : Nat → Int32) (B_state : Nat → Int32) (B_x : Nat → Int32) (B_y : Nat → Int32) (B_piece : Nat → Int32) (Q_number : Int32) (Q_first : Nat → Int32) (Q_second : Nat → Int32) (Q_strength : Nat → Int32) (Q_wear : Nat → Int32) (a1 : Int32) (a2 : Int32) (a3 : Int32) (o : Nat) (f : Nat → Int64) (q0 : Nat ⊕ (Int32 × Int32 × (Nat → Int32) × Int32 × (Nat → Int32) × (Nat → Int32) × (Nat → Int32) × (Nat → Int32))) (h : jX6_tie X_ropes B_number B_column B_row B_state B_x B_y B_piece Q_number Q_first Q_second Q_strength Q_wear a1 a2 a3 = some q0) (hq : ∀ k, q0 = .inl k → k ∈ [3, 1, 2]) : DWi l yL_tie wsL_tie rmL_tie D c ((wX6_tie c X W R B K Q T Y X_ropes R_hour R_broken B_number B_column B_row B_state B_x B_y B_piece Q_number Q_first Q_second Q_strength Q_wear) ++ [aL c o 1 f]) [.ref (X 0), .int a1, .int a2, .int a3, .ref o] (sel q0 kcL_tie (fun _ => 0)) (sel q0 (fun _ => (wX6_tie c X W R B K Q T Y X_ropes R_hour R_broken B_number B_column B_row B_state B_x B_y B_piece Q_number Q_first Q_second Q_strength Q_wear) ++ [aL c o 1 f]) (fun (u : Int32 × Int32 × (Nat → Int32) × Int32 × (Nat → Int32) × (Nat → Int32) × (Nat → Int32) × (Nat → Int32)) => (wX6_tie c X W R B K Q T Y u.2.1 R_hour R_broken B_number B_column B_row B_state B_x B_y u.2.2.1 u.2.2.2.1 u.2.2.2.2.1 u.2.2.2.2.2.1 u.2.2.2.2.2.2.1 u.2.2.2.2.2.2.2) ++ [aL c o 1 (vp_updL f 0 u.1.toInt64)])) 1 6 := by
  refine DWi_of (cc := cL_tie) (nL := 6) RL rfl (by decide) rfl (Nat.le_of_ble_eq_true rfl) hfl (fun g C hXw ret => ?_)
  refine vv_lv [0, 1, 2, 3, 4] [(0, .ref (X 0)), (1, .int a1), (2, .int a2), (3, .int a3), (4, .ref o)] rfl ?_
  refine vv_aload C dL_tie_0 4 rfl 2 rfl ?_
  refine vv_iconst C (v := 0) dL_tie_2 (by decide) 3 rfl ?_
  refine vv_aload_n C dL_tie_3 rfl 0 rfl 4 rfl ?_
  refine vv_iload_n C dL_tie_4 rfl 1 rfl 5 rfl ?_
  refine vv_iload_n C dL_tie_5 rfl 2 rfl 6 rfl ?_
  refine vv_iload_n C dL_tie_6 rfl 3 rfl 7 rfl ?_
  refine vv_callX C hXw (fun l hfl => mt_X6_tie l hfl D c X W R B K Q T Y X_ropes R_hour R_broken B_number B_column B_row B_state B_x B_y B_piece Q_number Q_first Q_second Q_strength Q_wear a1 a2 a3 q0 h) gL_tie_X6_tie rfl rfl rfl yd_X6_tie ⟨Nat.le_of_ble_eq_true rfl, Nat.le_of_ble_eq_true rfl⟩ [0, 1, 2, 3, 4, 5, 6, 7, 8, 9, 10, 11, 12, 13] rfl (by decide) 0 rfl rfl (fun u => (wX6_tie c X W R B K Q T Y u.2.1 R_hour R_broken B_number B_column B_row B_state B_x B_y u.2.2.1 u.2.2.2.1 u.2.2.2.2.1 u.2.2.2.2.2.1 u.2.2.2.2.2.2.1 u.2.2.2.2.2.2.2) ++ [aL c o 1 f]) [(true, 0), (true, 1), (true, 2), (true, 3), (true, 4), (true, 5), (true, 6), (true, 7), (true, 8), (true, 9), (true, 10), (true, 11), (true, 12), (true, 13), (false, 14)] (fun _ => rfl) (by decide) (fun _ => rfl) [(true, 0), (true, 1), (true, 2), (true, 3), (true, 4), (true, 5), (true, 6), (true, 7), (true, 8), (true, 9), (true, 10), (true, 11), (true, 12), (true, 13), (false, 14)] rfl (by decide) rfl [.int 0, .ref o] rfl (Nat.le_of_ble_eq_true rfl) ⟨Nat.le_of_ble_eq_true rfl, Nat.le_of_ble_eq_true rfl⟩ dL_tie_7 10 1 6 rfl ⟨rfl, rfl⟩ (fun k e => ?_) (fun u e => ?_)
  · have hk := hq k e
    subst e
    rcases (show k = 3 ∨ k = 1 ∨ k = 2 by simpa using hk) with rfl | rfl | rfl
    · refine ⟨by decide, 15, ⟨by decide, by decide, by decide, 3, by decide, kwL_tie_1, Or.inl ⟨rfl, rfl⟩⟩, fun q9 => ?_⟩
      refine vv_astore C [(5, .ref q9), (0, .ref (X 0)), (1, .int a1), (2, .int a2), (3, .int a3), (4, .ref o)] dL_tie_15 (by decide) rfl 17 rfl ?_
      refine vv_iconst C (v := 1) dL_tie_17 (by decide) 18 rfl ?_
      exact ret _ _ dL_tie_18
    · refine ⟨by decide, 19, ⟨by decide, by decide, by decide, 3, by decide, kwL_tie_1, Or.inr ⟨by decide, ⟨by decide, by decide, by decide, 1, by decide, kwL_tie_2, Or.inl ⟨rfl, rfl⟩⟩⟩⟩, fun q9 => ?_⟩
      refine vv_astore C [(5, .ref q9), (0, .ref (X 0)), (1, .int a1), (2, .int a2), (3, .int a3), (4, .ref o)] dL_tie_19 (by decide) rfl 21 rfl ?_
      refine vv_iconst C (v := 2) dL_tie_21 (by decide) 22 rfl ?_
      exact ret _ _ dL_tie_22
    · refine ⟨by decide, 23, ⟨by decide, by decide, by decide, 3, by decide, kwL_tie_1, Or.inr ⟨by decide, ⟨by decide, by decide, by decide, 1, by decide, kwL_tie_2, Or.inr ⟨by decide, ⟨by decide, by decide, by decide, 2, by decide, kwL_tie_3, Or.inl ⟨rfl, rfl⟩⟩⟩⟩⟩⟩, fun q9 => ?_⟩
      refine vv_astore C [(5, .ref q9), (0, .ref (X 0)), (1, .int a1), (2, .int a2), (3, .int a3), (4, .ref o)] dL_tie_23 (by decide) rfl 25 rfl ?_
      refine vv_iconst C (v := 3) dL_tie_25 (by decide) 26 rfl ?_
      exact ret _ _ dL_tie_26
  · subst e
    refine vv_i2l C dL_tie_10 11 rfl ?_
    refine vv_last C (q0 := 14) ((wX6_tie c X W R B K Q T Y u.2.1 R_hour R_broken B_number B_column B_row B_state B_x B_y u.2.2.1 u.2.2.2.1 u.2.2.2.2.1 u.2.2.2.2.2.1 u.2.2.2.2.2.2.1 u.2.2.2.2.2.2.2) ++ [aL c o 1 (vp_updL f 0 u.1.toInt64)]) rfl (inB_t (by decide)) rfl dL_tie_11 12 rfl ?_
    refine vv_goto C 27 dL_tie_12 (by decide) ?_
    refine vv_iconst C (v := 0) dL_tie_27 (by decide) 28 rfl ?_
    exact ret _ _ dL_tie_28
