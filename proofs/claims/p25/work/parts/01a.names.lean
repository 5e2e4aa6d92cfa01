-- the tables words
/-- a private method of a class that the tables say can be made, by its rows of tables_1 -/
def lw_okq (q : MethodName × Nat) : Prop := (q.1.cls ≠ "java/lang/invoke/MethodHandle" ∧ q.1.cls ≠ "java/lang/invoke/VarHandle") ∧ Cond.instantiable q.1.cls q.2 ∈ tables_1 ∧ Cond.privateMethod q.1 ∈ tables_1 ∧ Cond.instanceMethod q.1 ∈ tables_1
theorem lw_p0 : lw_okq (⟨"java/lang/Throwable", "fillInStackTrace", "(I)Ljava/lang/Throwable;"⟩, 6) := ⟨⟨by decide +kernel, by decide +kernel⟩, List.mem_of_getElem? (i := 292) (by decide +kernel), List.mem_of_getElem? (i := 290) (by decide +kernel), List.mem_of_getElem? (i := 291) (by decide +kernel)⟩
theorem lw_p1 : lw_okq (⟨"BarrelRaft", "barrelFact", "(II)I"⟩, 5) := ⟨⟨by decide +kernel, by decide +kernel⟩, List.mem_of_getElem? (i := 19) (by decide +kernel), List.mem_of_getElem? (i := 322) (by decide +kernel), List.mem_of_getElem? (i := 323) (by decide +kernel)⟩
theorem lw_p2 : lw_okq (⟨"BarrelRaft", "castawayFact", "(II)I"⟩, 5) := ⟨⟨by decide +kernel, by decide +kernel⟩, List.mem_of_getElem? (i := 19) (by decide +kernel), List.mem_of_getElem? (i := 384) (by decide +kernel), List.mem_of_getElem? (i := 385) (by decide +kernel)⟩
theorem lw_p3 : lw_okq (⟨"BarrelRaft", "countFact", "(I)I"⟩, 5) := ⟨⟨by decide +kernel, by decide +kernel⟩, List.mem_of_getElem? (i := 19) (by decide +kernel), List.mem_of_getElem? (i := 509) (by decide +kernel), List.mem_of_getElem? (i := 510) (by decide +kernel)⟩
theorem lw_p4 : lw_okq (⟨"BarrelRaft", "singleLashings", "(I)I"⟩, 5) := ⟨⟨by decide +kernel, by decide +kernel⟩, List.mem_of_getElem? (i := 19) (by decide +kernel), List.mem_of_getElem? (i := 578) (by decide +kernel), List.mem_of_getElem? (i := 579) (by decide +kernel)⟩
theorem lw_p5 : lw_okq (⟨"BarrelRaft", "pieceSum", "(II)I"⟩, 5) := ⟨⟨by decide +kernel, by decide +kernel⟩, List.mem_of_getElem? (i := 19) (by decide +kernel), List.mem_of_getElem? (i := 582) (by decide +kernel), List.mem_of_getElem? (i := 583) (by decide +kernel)⟩
def lw_privs_1 : List (MethodName × Nat) := [(⟨"java/lang/Throwable", "fillInStackTrace", "(I)Ljava/lang/Throwable;"⟩, 6), (⟨"BarrelRaft", "barrelFact", "(II)I"⟩, 5), (⟨"BarrelRaft", "castawayFact", "(II)I"⟩, 5), (⟨"BarrelRaft", "countFact", "(I)I"⟩, 5), (⟨"BarrelRaft", "singleLashings", "(I)I"⟩, 5), (⟨"BarrelRaft", "pieceSum", "(II)I"⟩, 5)]
theorem lw_r1 : ∀ q ∈ lw_privs_1, lw_okq q := List.forall_mem_cons.mpr ⟨lw_p0, List.forall_mem_cons.mpr ⟨lw_p1, List.forall_mem_cons.mpr ⟨lw_p2, List.forall_mem_cons.mpr ⟨lw_p3, List.forall_mem_cons.mpr ⟨lw_p4, List.forall_mem_cons.mpr ⟨lw_p5, fun _ h => absurd h List.not_mem_nil⟩⟩⟩⟩⟩⟩
def lw_privs : List (MethodName × Nat) := lw_privs_1
def lw_tbl : List Cond := k2_sels lw_privs ++ tables_1
theorem lw_privs_ok : ∀ q ∈ lw_privs, lw_okq q := lw_r1
/-! ===== BEGIN words of one list among another's, by their places ===== -/
theorem goodIn_r {big : List Cond} (ws : List Cond) (ps : List Nat) (hp : ws = ps.filterMap (fun i => big[i]?)) (h : ws.all goodWord = true) : GoodIn big ws := by
  intro w hw
  have h1 := List.all_eq_true.mp h w hw
  rw [hp] at hw
  obtain ⟨i, -, hi⟩ := List.mem_filterMap.mp hw
  have hm : w ∈ big := by first | exact List.mem_of_getElem? hi | exact List.getElem?_mem hi
  exact ⟨hm, good_of_word h1⟩
theorem goodIn_app {big a b : List Cond} (ha : GoodIn big a) (hb : GoodIn big b) : GoodIn big (a ++ b) := fun w h => (List.mem_append.mp h).elim (ha w) (hb w)
theorem goodIn_ca {big a b : List Cond} {c : Cond} (ha : GoodIn big (c :: a)) (hb : GoodIn big b) : GoodIn big (c :: (a ++ b)) := fun w h => (List.mem_cons.mp h).elim (fun e => ha w (List.mem_cons.mpr (Or.inl e))) (fun h => (List.mem_append.mp h).elim (fun h => ha w (List.mem_cons.mpr (Or.inr h))) (hb w))
theorem goodIn_sub {big ws : List Cond} (hm : ∀ w ∈ ws, w ∈ big) (h : ws.all goodWord = true) : GoodIn big ws := fun w hw => ⟨hm w hw, good_of_word (List.all_eq_true.mp h w hw)⟩
/-! ===== END ===== -/


/-! ===== BEGIN exceptions that leave a method, and their catching by the caller (launches without stack traces) ===== -/
section VXA
/-! The laws vx_back, vx_callV, vx_callS, vx_callSW, vx_throw0, vx_throwS follow proofs of the library, with one case more: JvmDerived/Free/Laws.lean (Back.of_free), Shelf42/LK1.lean (callV, callS), Shelf/KitTraced.lean (throwNew0V, throwNewS). -/
/-- where a method has thrown q: the class by its name, the cell, what was written, the world -/
def vx_T (XC : String → State → State → Prop) (st : State) (q : Addr) (t : State) (mc ms : Nat) (free : Addr → Prop) : Prop :=
  ∃ (E : String) (ce : Cell) (L : List Loc), XC E st t ∧ t.heap[q]? = some ce ∧ ce.vm = .none ∧ st.vm.findClass E = some ce.cls ∧ st.WarmedH t.vm ∧ st.sameButNew ({ t with vm := st.vm } : State) L mc ms ∧ ∀ z ∈ L, free z.base
def vx_Q (Qc : Array Value → State → Outcome → State → Prop) (XC : String → State → State → Prop) (mc ms : Nat) (free : Addr → Prop) : Array Value → State → Outcome → State → Prop := fun a st o t =>
  (Qc a st o t ∧ ∃ L, FrameEnd st o t L mc ms ∧ ∀ q ∈ L, free q.base) ∨ ∃ q, o = .threw q ∧ vx_T XC st q t mc ms free
/-- a callee that returns or throws -/
def vx_Met (l : Launch) (y : MethodName) (ws : List Cond) (rm : Room) (Pc : Array Value → State → Prop) (Qc : Array Value → State → Outcome → State → Prop) (XC : String → State → State → Prop) (mc ms : Nat) (free : Addr → Prop) : Prop :=
  MetFree l y (headSpec ws rm) Pc (fun _ _ _ _ _ => True) (vx_Q Qc XC mc ms free)
def vx_Post (XC : String → State → State → Prop) (mc ms : Nat) (free : Addr → Prop) : Pt → Array Value → Addr → Pt → Prop := fun A a q B =>
  ∃ (g : JFrame) (mk : MethodId) (t : State) (L : List Loc) (E : String) (ce : Cell), B.U.heap = t.heap ∧ B.U.vm = t.vm ∧ XC E (A.U.calling g mk a) t ∧ t.heap[q]? = some ce ∧ ce.vm = .none ∧ A.U.vm.findClass E = some ce.cls ∧ B.locs = A.locs ++ L ∧ (∀ z ∈ L, free z.base) ∧ B.cells = A.cells + mc ∧ B.slots = A.slots + ms
def vx_Back (l : Launch) (R : Room) (p : Program) (e : Env) (below : List Frame) (s : State) (sargs : Array Value) (y : MethodName) (len W9 : Nat)
    (Pre : Pt → Array Value → Prop) (Post : Pt → Array Value → Option Value → Pt → Prop) (PostX : Pt → Array Value → Addr → Pt → Prop) : Prop :=
  ∀ (m : MethodId) (meth : Method) (c : Code) (A : Pt) (g : JFrame) (ig : Instr) (mk : MethodId) (a : Array Value),
    Stand p l e R s m sargs below meth c A.U A.locs A.cells A.slots → g.method = m → g.locals.size = c.maxLocals → decode c.code g.pc = .ok (ig, len) →
    2 * g.monitorRoom + (g.stack.map fun v => v.category).sum ≤ W9 → A.U.methodNamed? y = some mk → Pre A a →
    (∃ (v : Option Value) (B : Pt), Stand p l e R s m sargs below meth c B.U B.locs B.cells B.slots ∧ Post A a v B ∧
      Steps p.tables e below (doInvoke e (A.U.setTop g) [] mk a).1 (B.U.setTop { g with pc := g.pc + len, stack := v.toList ++ g.stack })) ∨
    (∃ (q : Addr) (B : Pt), Stand p l e R s m sargs below meth c B.U B.locs B.cells B.slots ∧ PostX A a q B ∧
      Steps p.tables e below (doInvoke e (A.U.setTop g) [] mk a).1 ((B.U.setTop g).pushFrame (.throwing q)))
section Payer
variable {l : Launch} {R : Room} {p : Program} {e : Env} {below : List Frame} {s : State} {sargs : Array Value} {y : MethodName} {len W9 : Nat}
theorem vx_back {ws : List Cond} {rm : Room} {Pc : Array Value → State → Prop} {Qc : Array Value → State → Outcome → State → Prop} {XC : String → State → State → Prop} {mc ms : Nat} {free : Addr → Prop} {bytes : ByteArray} {maxL : Nat} {ret : Option FieldType}
    (hM : vx_Met l y ws rm Pc Qc XC mc ms free) (hblind : FrameBlind Pc) (hrc : rm.cells = mc) (hrs : rm.slots = ms)
    (hframes : rm.frames + 1 ≤ R.frames) (hlocals : W9 + (maxL + 11) + rm.locals ≤ R.locals)
    (hws : ∀ w ∈ ws, ∀ a' U, s.WarmedH U.vm → w.before a' U = true) (hcode : Cond.code y bytes maxL ret ∈ ws) (hinit : ∀ a' U, s.WarmedH U.vm → (Cond.initialized y.cls).before a' U = true) :
    vx_Back l R p e below s sargs y len W9 (PreOf R mc ms Pc) (PostOf Qc mc ms free) (vx_Post XC mc ms free) := by
  intro m meth c A g ig mk a X hg hsize hdg hW hn hp
  have h1 : (headSpec ws rm).pre.before a A.U = true := atoms_intro fun w hw => hws w hw _ _ X.warmed
  have h2 : (Cond.code y bytes maxL ret).before a A.U = true := hws _ hcode _ _ X.warmed
  have h3 : (Cond.initialized y.cls).before a A.U = true := hinit _ _ X.warmed
  have h4 : A.cells + (headSpec ws rm).room.cells ≤ R.cells := by rw [show (headSpec ws rm).room.cells = mc from hrc]; exact hp.1
  have h5 : A.slots + (headSpec ws rm).room.slots ≤ R.slots := by rw [show (headSpec ws rm).room.slots = ms from hrs]; exact hp.2.1
  have hPc : Pc a (A.U.calling g mk a) := hblind _ _ _ _ hp.2.2
  obtain ⟨U, Ls, c0, s0⟩ := A
  dsimp only [Pt.U, Pt.locs, Pt.cells, Pt.slots] at h1 h2 h3 h4 h5 X hn hPc ⊢
  obtain ⟨methY, cY, hmY, hcY, -, hlY, -, -, -, -⟩ := Cond.code_spec hn h2
  obtain ⟨kY, hkY, -⟩ := className_of_methodNamed hn
  have hinitY : kY.init = .initialized := Cond.initialized_spec (findClass_of_methodNamed hn) hkY h3
  have h : At U g.method c below := by rw [hg]; exact X.here
  have hlocals9 : W9 + (maxL + 11) + (headSpec ws rm).room.locals ≤ R.locals := hlocals
  have happ : (headSpec ws rm).appliesLoose y e.platform (U.calling g mk a) = true :=
    Spec.appliesLoose_calling (g := g) h hdg hn hkY hinitY
      (X.room_calling (g := g) (R' := (headSpec ws rm).room) hsize hmY hcY hframes (by rw [hlY]; omega) h4 h5) h1
  obtain ⟨mid, hmid⟩ := h.above
  have hfr : (U.setTop g).frames = (.java g :: mid) ++ below := by rw [State.frames_setTop' g h.top, hmid]; rfl
  obtain ⟨o, s₂, hsteps, -, hend, hq⟩ := Steps.callFree hM p X.admits X.cas X.clock (acts := []) hfr happ hPc trivial
  have hq' : vx_Q Qc XC mc ms free a (U.calling g mk a) o s₂ := hq
  rw [State.frames_setTop' g h.top] at hend
  obtain ⟨g₀, hg0⟩ := Option.isSome_iff_exists.mp h.top
  obtain ⟨r, hr⟩ := State.topJava?_eq_some.mp hg0
  have hr' : (({ U with heap := s₂.heap, slotsUsed := s₂.slotsUsed } : State).setVm s₂.vm).frames = .java g₀ :: r := hr
  rcases hq' with ⟨hqc, L, hfe, hL⟩ | ⟨q, rfl, E, ce, L, hx, hce, hcv, hcl, hW₂, hsm, hL⟩
  · obtain ⟨⟨v, rfl⟩, hW₂, e2, q2, q3, q4, q5, q6⟩ := id hfe
    have e3 : s₂ = ({ (U.calling g mk a).setFrames s₂.frames with heap := s₂.heap, slotsUsed := s₂.slotsUsed } : State).setVm s₂.vm := by
      have : s₂ = ({ s₂ with vm := (U.calling g mk a).vm } : State).setVm s₂.vm := rfl
      rw [e2] at this
      exact this
    obtain ⟨c₂, i₂, len₂, hc₂, hd₂, hf₂⟩ := hend
    have hW' : U.WarmedH s₂.vm := hW₂
    have hcc : c₂ = c := by
      have h1 : s₂.code? g.method = U.code? g.method := by
        rw [State.code?_eq, State.code?_eq, hW'.alike.method?]
      exact Option.some.inj (hc₂.symm.trans (h1.trans h.code))
    subst hcc
    have hlen : len₂ = len := by rw [hdg] at hd₂; cases hd₂; rfl
    subst hlen
    have hs₂ : s₂ = (({ U with heap := s₂.heap, slotsUsed := s₂.slotsUsed } : State).setVm s₂.vm).setTop { g with pc := g.pc + len₂, stack := v.toList ++ g.stack } := by
      refine e3.trans ?_
      rw [hf₂, State.calling_eq h.top, State.setFrames_setFrames, State.setTop_of_frames _ hr', hr]
      rfl
    have hsame : U.sameButNew ({ U with heap := s₂.heap, slotsUsed := s₂.slotsUsed } : State) L mc ms := by
      refine ⟨?_, q2, q3, q4, q5, q6⟩
      obtain ⟨t, ht, -⟩ := State.frames_cons hr
      show ({ U with heap := s₂.heap, slotsUsed := s₂.slotsUsed } : State) = { U.setFrames U.frames with heap := s₂.heap, slotsUsed := s₂.slotsUsed }
      rw [State.setFrames_self ht]
    subst hg
    refine Or.inl ⟨v, ⟨(({ U with heap := s₂.heap, slotsUsed := s₂.slotsUsed } : State).setVm s₂.vm), Ls ++ L, c0 + mc, s0 + ms⟩,
      ⟨X.admits, X.cas, X.clock, X.frames, X.room, X.hears, X.method, X.code, (X.here.setHeapUsed s₂.heap s₂.slotsUsed).setVm hW'.alike, X.tail, State.WarmedH.trans X.warmed hW', X.limits, X.bytes, X.same.trans (hsame.setVm s.vm)⟩,
      ⟨g, mk, s₂, L, rfl, rfl, hqc, rfl, hL, rfl, rfl⟩, ?_⟩
    show Steps p.tables e below _ ((({ U with heap := s₂.heap, slotsUsed := s₂.slotsUsed } : State).setVm s₂.vm).setTop { g with pc := g.pc + len₂, stack := v.toList ++ g.stack })
    rw [← hs₂]
    exact hsteps
  · obtain ⟨e2, q2, q3, q4, q5, q6⟩ := id hsm
    have e3 : s₂ = ({ (U.calling g mk a).setFrames s₂.frames with heap := s₂.heap, slotsUsed := s₂.slotsUsed } : State).setVm s₂.vm := by
      have : s₂ = ({ s₂ with vm := (U.calling g mk a).vm } : State).setVm s₂.vm := rfl
      rw [e2] at this
      exact this
    have hf₂ : s₂.frames = .throwing q :: .java g :: U.frames.tail := hend
    have hW' : U.WarmedH s₂.vm := hW₂
    have hs₂ : s₂ = ((({ U with heap := s₂.heap, slotsUsed := s₂.slotsUsed } : State).setVm s₂.vm).setTop g).pushFrame (.throwing q) := by
      refine e3.trans ?_
      rw [hf₂, State.calling_eq h.top, State.setFrames_setFrames, State.pushFrame, State.frames_setTop _ hr', State.setTop_of_frames _ hr', State.setFrames_setFrames, hr]
      rfl
    have hsame : U.sameButNew ({ U with heap := s₂.heap, slotsUsed := s₂.slotsUsed } : State) L mc ms := by
      refine ⟨?_, q2, q3, q4, q5, q6⟩
      obtain ⟨t, ht, -⟩ := State.frames_cons hr
      show ({ U with heap := s₂.heap, slotsUsed := s₂.slotsUsed } : State) = { U.setFrames U.frames with heap := s₂.heap, slotsUsed := s₂.slotsUsed }
      rw [State.setFrames_self ht]
    subst hg
    refine Or.inr ⟨q, ⟨(({ U with heap := s₂.heap, slotsUsed := s₂.slotsUsed } : State).setVm s₂.vm), Ls ++ L, c0 + mc, s0 + ms⟩,
      ⟨X.admits, X.cas, X.clock, X.frames, X.room, X.hears, X.method, X.code, (X.here.setHeapUsed s₂.heap s₂.slotsUsed).setVm hW'.alike, X.tail, State.WarmedH.trans X.warmed hW', X.limits, X.bytes, X.same.trans (hsame.setVm s.vm)⟩,
      ⟨g, mk, s₂, L, E, ce, rfl, rfl, hx, hce, hcv, hcl, rfl, hL, rfl, rfl⟩, ?_⟩
    show Steps p.tables e below _ (((({ U with heap := s₂.heap, slotsUsed := s₂.slotsUsed } : State).setVm s₂.vm).setTop g).pushFrame (.throwing q))
    rw [← hs₂]
    exact hsteps
end Payer
section Calls
variable {p : Program} {l : Launch} {e : Env} {R : Room} {s : State} {m : MethodId} {args : Array Value} {below : List Frame} {meth : Method} {c : Code} {T : State} {locs : List Loc} {cells slots : Nat}
theorem vx_callV (X : Stand p l e R s m args below meth c T locs cells slots) (hexec : p.tables.exec = Jvm.exec) {own C : String} {index : Nat} {y : MethodName} {bytes : ByteArray} {maxL : Nat} {ret : Option FieldType}
    (hown : s.vm.findClass own = some m.cls) (hlink : (Cond.methodLink own index y).before args s = true) (hinst : (Cond.instanceMethod y).before args s = true) (hsel : (Cond.selects C y y).before args s = true)
    (hcode : (Cond.code y bytes maxL ret).before args s = true) (hy : y.cls ≠ "java/lang/invoke/MethodHandle" ∧ y.cls ≠ "java/lang/invoke/VarHandle")
    {W9 : Nat} {Pre : Pt → Array Value → Prop} {Post : Pt → Array Value → Option Value → Pt → Prop} {PostX : Pt → Array Value → Addr → Pt → Prop} (hK : vx_Back l R p e below s args y 3 W9 Pre Post PostX)
    {b : Addr} {cellB : Cell} (hcell : T.heap[b]? = some cellB) (hobj : cellB.vm.isStatics = false) (hcls : s.vm.findClass C = some cellB.cls)
    {g : JFrame} (hg : g.method = m) (hsize : g.locals.size = c.maxLocals) {argsL rest : List Value} (hlen : ∀ sig, parseMethodDescriptor y.desc = some sig → argsL.length = sig.parameters.length)
    (hstack : g.stack = argsL.reverse ++ .ref b :: rest) (hW : 2 * g.monitorRoom + (rest.map fun v => v.category).sum ≤ W9) (hdg : decode c.code g.pc = .ok (.invokevirtual index, 3))
    (hpre : ∀ vm₁, s.WarmedH vm₁ → Pre ⟨T.setVm vm₁, locs, cells, slots⟩ (Value.ref b :: argsL).toArray) :
    (∃ (v : Option Value) (vm₁ : Vm) (B : Pt), s.WarmedH vm₁ ∧ Stand p l e R s m args below meth c B.U B.locs B.cells B.slots ∧ Post ⟨T.setVm vm₁, locs, cells, slots⟩ (Value.ref b :: argsL).toArray v B ∧
      ∀ target, Steps p.tables e below (B.U.setTop { g with pc := g.pc + 3, stack := v.toList ++ rest }) target → Steps p.tables e below (T.setTop g) target) ∨
    (∃ (q : Addr) (vm₁ : Vm) (B : Pt), s.WarmedH vm₁ ∧ Stand p l e R s m args below meth c B.U B.locs B.cells B.slots ∧ PostX ⟨T.setVm vm₁, locs, cells, slots⟩ (Value.ref b :: argsL).toArray q B ∧
      Steps p.tables e below (T.setTop g) ((B.U.setTop { g with stack := rest }).pushFrame (.throwing q))) := by
  obtain ⟨mk, methM, hnamed, hmethM, hstM, habM⟩ := Cond.instanceMethod_spec hinst
  obtain ⟨methM', cM, hmethM', -, -, -, -, -, -, hsigM⟩ := Cond.code_spec hnamed hcode
  cases hmethM.symm.trans hmethM'
  obtain ⟨c2, r2, m2, q1, q2, q3, q4, kP, hkP, hkPi⟩ := Cond.selects_spec hsel
  cases hcls.symm.trans q1
  cases (State.methodFound?_of_named hnamed hy).symm.trans q2
  cases hnamed.symm.trans q3
  have hselP : selectMethod e.platform s.vm cellB.cls mk = .method mk := by rw [Launch.admits_selectMethod X.admits]; exact q4
  obtain ⟨vm₁, X₁, hstep₁⟩ := X.invokevirtual hexec hown hlink hnamed hmethM hstM hkP hkPi hy (a := b) (cell := cellB) hcell
    (fun z h => by rw [h] at hobj; cases hobj) hselP hmethM habM hkP hkPi (g := g) hg (argsL := argsL) (rest := rest) (hlen _ hsigM) hstack hdg
  rcases hK m meth c ⟨T.setVm vm₁, locs, cells, slots⟩ { g with stack := rest } (.invokevirtual index) mk (Value.ref b :: argsL).toArray X₁ hg hsize hdg hW (X₁.named hnamed) (hpre vm₁ X₁.warmed) with ⟨v, B, X', hpost, hsteps⟩ | ⟨q, B, X', hpost, hsteps⟩
  · exact Or.inl ⟨v, vm₁, B, X₁.warmed, X', hpost, fun target h => hstep₁ _ fun acts => by rw [doInvoke_state]; exact hsteps.trans h⟩
  · exact Or.inr ⟨q, vm₁, B, X₁.warmed, X', hpost, hstep₁ _ fun acts => by rw [doInvoke_state]; exact hsteps⟩
theorem vx_callS (X : Stand p l e R s m args below meth c T locs cells slots) (hexec : p.tables.exec = Jvm.exec) {own : String} {index : Nat} {y : MethodName} {bytes : ByteArray} {maxL : Nat} {ret : Option FieldType}
    (hown : s.vm.findClass own = some m.cls) (hlink : (Cond.methodLink own index y).before args s = true) (hstat : (Cond.static y).before args s = true) (hinit : (Cond.initialized y.cls).before args s = true)
    (hcode : (Cond.code y bytes maxL ret).before args s = true) (hy : y.cls ≠ "java/lang/invoke/MethodHandle" ∧ y.cls ≠ "java/lang/invoke/VarHandle")
    {W9 : Nat} {Pre : Pt → Array Value → Prop} {Post : Pt → Array Value → Option Value → Pt → Prop} {PostX : Pt → Array Value → Addr → Pt → Prop} (hK : vx_Back l R p e below s args y 3 W9 Pre Post PostX)
    {g : JFrame} (hg : g.method = m) (hsize : g.locals.size = c.maxLocals) {argsL rest : List Value} (hlen : ∀ sig, parseMethodDescriptor y.desc = some sig → argsL.length = sig.parameters.length)
    (hstack : g.stack = argsL.reverse ++ rest) (hW : 2 * g.monitorRoom + (rest.map fun v => v.category).sum ≤ W9) (hdg : decode c.code g.pc = .ok (.invokestatic index, 3))
    (hpre : ∀ vm₁, s.WarmedH vm₁ → Pre ⟨T.setVm vm₁, locs, cells, slots⟩ argsL.toArray) :
    (∃ (v : Option Value) (vm₁ : Vm) (B : Pt), s.WarmedH vm₁ ∧ Stand p l e R s m args below meth c B.U B.locs B.cells B.slots ∧ Post ⟨T.setVm vm₁, locs, cells, slots⟩ argsL.toArray v B ∧
      ∀ target, Steps p.tables e below (B.U.setTop { g with pc := g.pc + 3, stack := v.toList ++ rest }) target → Steps p.tables e below (T.setTop g) target) ∨
    (∃ (q : Addr) (vm₁ : Vm) (B : Pt), s.WarmedH vm₁ ∧ Stand p l e R s m args below meth c B.U B.locs B.cells B.slots ∧ PostX ⟨T.setVm vm₁, locs, cells, slots⟩ argsL.toArray q B ∧
      Steps p.tables e below (T.setTop g) ((B.U.setTop { g with stack := rest }).pushFrame (.throwing q))) := by
  obtain ⟨mk, hnamed⟩ := Cond.code_named hcode
  obtain ⟨methM, cM, hmethM, -, -, -, -, -, -, hsigM⟩ := Cond.code_spec hnamed hcode
  have hstatic : methM.isStatic = true := Cond.static_spec hnamed hmethM hstat
  obtain ⟨kP, hkP, -⟩ := className_of_methodNamed hnamed
  have hinitP : kP.init = .initialized := Cond.initialized_spec (findClass_of_methodNamed hnamed) hkP hinit
  obtain ⟨vm₁, X₁, hstep₁⟩ := X.invokestatic hexec hown hlink hnamed hmethM hstatic hkP hinitP hy (g := g) hg (argsL := argsL) (rest := rest) (hlen _ hsigM) hstack hdg
  rcases hK m meth c ⟨T.setVm vm₁, locs, cells, slots⟩ { g with stack := rest } (.invokestatic index) mk argsL.toArray X₁ hg hsize hdg hW (X₁.named hnamed) (hpre vm₁ X₁.warmed) with ⟨v, B, X', hpost, hsteps⟩ | ⟨q, B, X', hpost, hsteps⟩
  · exact Or.inl ⟨v, vm₁, B, X₁.warmed, X', hpost, fun target h => hstep₁ _ fun acts => by rw [doInvoke_state]; exact hsteps.trans h⟩
  · exact Or.inr ⟨q, vm₁, B, X₁.warmed, X', hpost, hstep₁ _ fun acts => by rw [doInvoke_state]; exact hsteps⟩
end Calls
theorem vx_cls {s : State} {T : State} {vm₁ : Vm} {E : String} {k : ClassId} (hW : s.WarmedH vm₁) (h : (T.setVm vm₁).vm.findClass E = some k) : s.vm.findClass E = some k := by
  have h1 : vm₁.findClass E = some k := h
  rw [hW.alike.findClass] at h1
  exact h1
/-- the method's frame g, with q thrown over it -/
def vx_W (p : Program) (l : Launch) (e : Env) (R : Room) (s : State) (m : MethodId) (args : Array Value) (below : List Frame) (meth : Method) (c : Code) (H : Heap) (locs : List Loc) (cells slots : Nat) (Q : State → Prop) (g : JFrame) (q : Addr) : Prop :=
  ∀ T : State, T.heap = H → Stand p l e R s m args below meth c T locs cells slots → ∃ t, Steps p.tables e below ((T.setTop g).pushFrame (.throwing q)) t ∧ Q t
def vx_Run (p : Program) (l : Launch) (e : Env) (R : Room) (s : State) (m : MethodId) (args : Array Value) (below : List Frame) (meth : Method) (c : Code) (H : Heap) (locs : List Loc) (cells slots mc ms : Nat) (g : JFrame) (rest : List Value) (Qa : State → Outcome → State → Prop) (XC : String → State → State → Prop) (free : Addr → Prop) : Prop :=
  ∀ T : State, T.heap = H → Stand p l e R s m args below meth c T locs cells slots →
    (∃ (v : Option Value) (st₀ t T' : State) (L : List Loc), st₀.heap = H ∧ Stand p l e R s m args below meth c T' (locs ++ L) (cells + mc) (slots + ms) ∧ (∀ q ∈ L, free q.base) ∧ T'.heap = t.heap ∧ T'.vm = t.vm ∧ Qa st₀ (.returned v) t ∧
      Goes p e below T g T' { g with pc := g.pc + 3, stack := v.toList ++ rest }) ∨
    (∃ (q : Addr) (st₀ t T' : State) (L : List Loc) (E : String) (ce : Cell), st₀.heap = H ∧ Stand p l e R s m args below meth c T' (locs ++ L) (cells + mc) (slots + ms) ∧ (∀ z ∈ L, free z.base) ∧ T'.heap = t.heap ∧ T'.vm = t.vm ∧ XC E st₀ t ∧ t.heap[q]? = some ce ∧ ce.vm = .none ∧ s.vm.findClass E = some ce.cls ∧
      Steps p.tables e below (T.setTop g) ((T'.setTop { g with stack := rest }).pushFrame (.throwing q)))
def vx_X {S : Type} (px : S → Prop) (B : String → S → State → Prop) (A : Nat → Prop) : String → State → State → Prop := fun E st t => ∃ u : S, px u ∧ B E u t ∧ va_F A st t
section Runs
variable {p : Program} {l : Launch} {e : Env} {R : Room} {s : State} {m : MethodId} {args : Array Value} {below : List Frame} {meth : Method} {c : Code} {H : Heap} {locs : List Loc} {cells slots : Nat}
variable {y : MethodName} {bytes cc : ByteArray} {maxL nL mc ms n index : Nat} {ret : Option FieldType} {ws : List Cond} {rm : Room} {Pc : Array Value → State → Prop} {Qc : Array Value → State → Outcome → State → Prop} {XC : String → State → State → Prop} {free : Addr → Prop} {Ts : List Cond} {own C : String} {b : Addr} {As rest : List Value} {g : JFrame}
theorem vx_callBack (cb : CallB R s args own index y bytes maxL ret ws rm mc ms n) (hM : vx_Met l y ws rm Pc Qc XC mc ms free) (hbl : FrameBlind Pc) : vx_Back l R p e below s args y 3 8 (PreOf R mc ms Pc) (PostOf Qc mc ms free) (vx_Post XC mc ms free) := by
  obtain ⟨hrc, hrs, hfr, hlo, hws, hcw, -, hini, -⟩ := cb
  exact vx_back (bytes := bytes) (maxL := maxL) (ret := ret) hM hbl hrc hrs hfr hlo hws hcw (fun a' U hW => word_at hW (Or.inl (by first | rfl | simp [Cond.onTables, Cond.keeps, Cond.steady])) hini)
theorem vx_runV (S : CallFix p m c cc nL s args Ts own) (hM : vx_Met l y ws rm Pc Qc XC mc ms free) (cw : CallW R s args own C index y bytes maxL ret ws rm mc ms n) (hp : PreV s H C b Pc As)
    (hg : g.method = m) (hn : As.length = n) (hsize : g.locals.size = nL) (hstack : g.stack = As.reverse ++ .ref b :: rest) (hW : 2 * g.monitorRoom + (rest.map fun v => v.category).sum ≤ 8) (hdg : decode cc g.pc = .ok (.invokevirtual index, 3)) (hf : cells + mc ≤ R.cells ∧ slots + ms ≤ R.slots) :
    vx_Run p l e R s m args below meth c H locs cells slots mc ms g rest (Qc (Value.ref b :: As).toArray) XC free := by
  have hK : vx_Back l R p e below s args y 3 8 (PreOf R mc ms Pc) (PostOf Qc mc ms free) (vx_Post XC mc ms free) := vx_callBack cw.1 hM hp.1
  obtain ⟨⟨-, -, -, -, -, -, hcode, -, hy, hlen, hl⟩, hin, hse⟩ := cw
  obtain ⟨hx, hb, hml, ho, -⟩ := S
  obtain ⟨-, ⟨cellB, hcB, hoB, hclB⟩, hPc⟩ := hp
  intro T hT X
  rcases vx_callV X hx (C := C) (bytes := bytes) (maxL := maxL) (ret := ret) ho hl hin hse hcode hy hK (by rw [hT]; exact hcB) hoB hclB hg (hsize.trans hml.symm) (argsL := As) (rest := rest) (fun sig h => hn.trans (hlen sig h)) hstack hW (by rw [hb]; exact hdg)
    (fun vm₁ hW₁ => ⟨hf.1, hf.2, hPc (T.setVm vm₁) hT hW₁⟩) with ⟨v, vm₁, ⟨U', l2, c2, s2⟩, hW₁, X', ⟨g', mk, t, L, e1, e2, hq, h1, hL, h2, h3⟩, st⟩ | ⟨q, vm₁, ⟨U', l2, c2, s2⟩, hW₁, X', ⟨g', mk, t, L, E, ce, e1, e2, hq, hce, hcv, hcl, h1, hL, h2, h3⟩, st⟩
  · dsimp only [Pt.U, Pt.locs, Pt.cells, Pt.slots] at X' e1 e2 h1 h2 h3 st
    subst h1; subst h2; subst h3
    exact Or.inl ⟨v, (T.setVm vm₁).calling g' mk (Value.ref b :: As).toArray, t, U', L, hT, X', hL, e1, e2, hq, st⟩
  · dsimp only [Pt.U, Pt.locs, Pt.cells, Pt.slots] at X' e1 e2 h1 h2 h3 st hcl
    subst h1; subst h2; subst h3
    exact Or.inr ⟨q, (T.setVm vm₁).calling g' mk (Value.ref b :: As).toArray, t, U', L, E, ce, hT, X', hL, e1, e2, hq, hce, hcv, vx_cls hW₁ hcl, st⟩
theorem vx_runS (S : CallFix p m c cc nL s args Ts own) (hM : vx_Met l y ws rm Pc Qc XC mc ms free) (cw : CallB R s args own index y bytes maxL ret ws rm mc ms n ∧ (Cond.static y).before args s = true) (hp : PreS s H Pc As)
    (hg : g.method = m) (hn : As.length = n) (hsize : g.locals.size = nL) (hstack : g.stack = As.reverse ++ rest) (hW : 2 * g.monitorRoom + (rest.map fun v => v.category).sum ≤ 8) (hdg : decode cc g.pc = .ok (.invokestatic index, 3)) (hf : cells + mc ≤ R.cells ∧ slots + ms ≤ R.slots) :
    vx_Run p l e R s m args below meth c H locs cells slots mc ms g rest (Qc As.toArray) XC free := by
  have hK : vx_Back l R p e below s args y 3 8 (PreOf R mc ms Pc) (PostOf Qc mc ms free) (vx_Post XC mc ms free) := vx_callBack cw.1 hM hp.1
  obtain ⟨⟨-, -, -, -, -, -, hcode, hini, hy, hlen, hl⟩, hstt⟩ := cw
  obtain ⟨hx, hb, hml, ho, -⟩ := S
  intro T hT X
  rcases vx_callS X hx (bytes := bytes) (maxL := maxL) (ret := ret) ho hl hstt hini hcode hy hK hg (hsize.trans hml.symm) (argsL := As) (rest := rest) (fun sig h => hn.trans (hlen sig h)) hstack hW (by rw [hb]; exact hdg)
    (fun vm₁ hW₁ => ⟨hf.1, hf.2, hp.2 (T.setVm vm₁) hT hW₁⟩) with ⟨v, vm₁, ⟨U', l2, c2, s2⟩, hW₁, X', ⟨g', mk, t, L, e1, e2, hq, h1, hL, h2, h3⟩, st⟩ | ⟨q, vm₁, ⟨U', l2, c2, s2⟩, hW₁, X', ⟨g', mk, t, L, E, ce, e1, e2, hq, hce, hcv, hcl, h1, hL, h2, h3⟩, st⟩
  · dsimp only [Pt.U, Pt.locs, Pt.cells, Pt.slots] at X' e1 e2 h1 h2 h3 st
    subst h1; subst h2; subst h3
    exact Or.inl ⟨v, (T.setVm vm₁).calling g' mk As.toArray, t, U', L, hT, X', hL, e1, e2, hq, st⟩
  · dsimp only [Pt.U, Pt.locs, Pt.cells, Pt.slots] at X' e1 e2 h1 h2 h3 st hcl
    subst h1; subst h2; subst h3
    exact Or.inr ⟨q, (T.setVm vm₁).calling g' mk As.toArray, t, U', L, E, ce, hT, X', hL, e1, e2, hq, hce, hcv, vx_cls hW₁ hcl, st⟩
end Runs
section Rows
variable {p : Program} {l : Launch} {e : Env} {R : Room} {s : State} {m : MethodId} {args : Array Value} {below : List Frame} {meth : Method} {c : Code} {H : Heap} {locs : List Loc} {cells slots : Nat} {Q : State → Prop}
variable {mc ms : Nat} {free : Addr → Prop} {A0 A1 : Nat → Prop} {H0 : Heap} {a : Array Value} {pc : Nat} {ls : Array Slot} {st0 rest : List Value}
theorem vx_keep {st₀ t T' : State} {L : List Loc} (h0 : st₀.heap = H) (e1 : T'.heap = t.heap) (hS : va_S A0 H0 H locs) (hA : ∀ q, q < H.size → A1 q → A0 q) (hf : ∀ q, free q → A0 q) (hL : ∀ q ∈ L, free q.base) (hF : va_F A1 st₀ t) :
    H.size ≤ T'.heap.size ∧ (∀ q : Nat, q < H.size → ¬ A1 q → T'.heap[q]? = H[q]?) ∧ va_S A0 H0 T'.heap (locs ++ L) := by
  obtain ⟨hz, hk⟩ := hF
  rw [h0] at hz hk
  exact ⟨by rw [e1]; exact hz, fun q h1 h2 => by rw [e1]; exact hk q h1 h2,
    ⟨Nat.le_trans hS.1 (by rw [e1]; exact hz), fun q h1 h2 => by rw [e1, hk q (Nat.lt_of_lt_of_le h1 hS.1) (fun z => h2 (hA q (Nat.lt_of_lt_of_le h1 hS.1) z))]; exact hS.2.1 q h1 h2, fun q hq => by
      rcases List.mem_append.mp hq with h | h
      · exact hS.2.2 q h
      · exact hf _ (hL q h)⟩⟩
theorem vx_calli {S SX : Type} {post : Int32 → S → Prop} {px : SX → Prop} {B : S → State → Prop} {BX : String → SX → State → Prop} {AX : Nat → Prop} (hr : vx_Run p l e R s m args below meth c H locs cells slots mc ms (F0 m pc ls st0) rest (va_Qi post B A1 a) (vx_X px BX AX) free) (hS : va_S A0 H0 H locs) (hA : ∀ q, q < H.size → A1 q → A0 q) (hf : ∀ q, free q → A0 q) (hAX : ∀ q, q < H.size → AX q → A0 q)
    (kx : ∀ (E : String) (ce : Cell) (q9 : Addr) (u : SX) (t : State) (H1 : Heap) (locs1 : List Loc), t.heap = H1 → s.vm.Alike t.vm → px u → BX E u t → H.size ≤ H1.size → (∀ q : Nat, q < H.size → ¬ AX q → H1[q]? = H[q]?) → va_S A0 H0 H1 locs1 → H1[q9]? = some ce → ce.vm = .none → s.vm.findClass E = some ce.cls → vx_W p l e R s m args below meth c H1 locs1 (cells + mc) (slots + ms) Q (F0 m pc ls rest) q9)
    (kk : ∀ (r : Int32) (u : S) (t : State) (H1 : Heap) (locs1 : List Loc), t.heap = H1 → s.vm.Alike t.vm → post r u → B u t → H.size ≤ H1.size → (∀ q : Nat, q < H.size → ¬ A1 q → H1[q]? = H[q]?) → va_S A0 H0 H1 locs1 → W p l e R s m args below meth c H1 locs1 (cells + mc) (slots + ms) Q (F0 m (pc + 3) ls (.int r :: rest))) : W p l e R s m args below meth c H locs cells slots Q (F0 m pc ls st0) := by
  intro T hT X
  rcases hr T hT X with ⟨v, st₀, t, T', L, h0, X', hL, e1, e2, ⟨⟨r, u, hv, hp, hb⟩, hF⟩, st⟩ | ⟨q, st₀, t, T', L, E, ce, h0, X', hL, e1, e2, ⟨u, hp, hb, hF⟩, hce, hcv, hcl, st⟩
  · cases hv
    obtain ⟨k1, k2, k3⟩ := vx_keep h0 e1 hS hA hf hL hF
    obtain ⟨t2, a1, b1⟩ := kk r u t T'.heap (locs ++ L) e1.symm (by rw [← e2]; exact X'.warmed.alike) hp hb k1 k2 k3 T' rfl X'
    exact ⟨t2, st t2 a1, b1⟩
  · obtain ⟨k1, k2, k3⟩ := vx_keep h0 e1 hS hAX hf hL hF
    obtain ⟨t2, a1, b1⟩ := kx E ce q u t T'.heap (locs ++ L) e1.symm (by rw [← e2]; exact X'.warmed.alike) hp hb k1 k2 k3 (by rw [e1]; exact hce) hcv hcl T' rfl X'
    exact ⟨t2, st.trans a1, b1⟩
theorem vx_calll {S SX : Type} {post : Int64 → S → Prop} {px : SX → Prop} {B : S → State → Prop} {BX : String → SX → State → Prop} {AX : Nat → Prop} (hr : vx_Run p l e R s m args below meth c H locs cells slots mc ms (F0 m pc ls st0) rest (va_Ql post B A1 a) (vx_X px BX AX) free) (hS : va_S A0 H0 H locs) (hA : ∀ q, q < H.size → A1 q → A0 q) (hf : ∀ q, free q → A0 q) (hAX : ∀ q, q < H.size → AX q → A0 q)
    (kx : ∀ (E : String) (ce : Cell) (q9 : Addr) (u : SX) (t : State) (H1 : Heap) (locs1 : List Loc), t.heap = H1 → s.vm.Alike t.vm → px u → BX E u t → H.size ≤ H1.size → (∀ q : Nat, q < H.size → ¬ AX q → H1[q]? = H[q]?) → va_S A0 H0 H1 locs1 → H1[q9]? = some ce → ce.vm = .none → s.vm.findClass E = some ce.cls → vx_W p l e R s m args below meth c H1 locs1 (cells + mc) (slots + ms) Q (F0 m pc ls rest) q9)
    (kk : ∀ (r : Int64) (u : S) (t : State) (H1 : Heap) (locs1 : List Loc), t.heap = H1 → s.vm.Alike t.vm → post r u → B u t → H.size ≤ H1.size → (∀ q : Nat, q < H.size → ¬ A1 q → H1[q]? = H[q]?) → va_S A0 H0 H1 locs1 → W p l e R s m args below meth c H1 locs1 (cells + mc) (slots + ms) Q (F0 m (pc + 3) ls (.long r :: rest))) : W p l e R s m args below meth c H locs cells slots Q (F0 m pc ls st0) := by
  intro T hT X
  rcases hr T hT X with ⟨v, st₀, t, T', L, h0, X', hL, e1, e2, ⟨⟨r, u, hv, hp, hb⟩, hF⟩, st⟩ | ⟨q, st₀, t, T', L, E, ce, h0, X', hL, e1, e2, ⟨u, hp, hb, hF⟩, hce, hcv, hcl, st⟩
  · cases hv
    obtain ⟨k1, k2, k3⟩ := vx_keep h0 e1 hS hA hf hL hF
    obtain ⟨t2, a1, b1⟩ := kk r u t T'.heap (locs ++ L) e1.symm (by rw [← e2]; exact X'.warmed.alike) hp hb k1 k2 k3 T' rfl X'
    exact ⟨t2, st t2 a1, b1⟩
  · obtain ⟨k1, k2, k3⟩ := vx_keep h0 e1 hS hAX hf hL hF
    obtain ⟨t2, a1, b1⟩ := kx E ce q u t T'.heap (locs ++ L) e1.symm (by rw [← e2]; exact X'.warmed.alike) hp hb k1 k2 k3 (by rw [e1]; exact hce) hcv hcl T' rfl X'
    exact ⟨t2, st.trans a1, b1⟩
theorem vx_callf {S SX : Type} {post : UInt32 → S → Prop} {px : SX → Prop} {B : S → State → Prop} {BX : String → SX → State → Prop} {AX : Nat → Prop} (hr : vx_Run p l e R s m args below meth c H locs cells slots mc ms (F0 m pc ls st0) rest (va_Qf post B A1 a) (vx_X px BX AX) free) (hS : va_S A0 H0 H locs) (hA : ∀ q, q < H.size → A1 q → A0 q) (hf : ∀ q, free q → A0 q) (hAX : ∀ q, q < H.size → AX q → A0 q)
    (kx : ∀ (E : String) (ce : Cell) (q9 : Addr) (u : SX) (t : State) (H1 : Heap) (locs1 : List Loc), t.heap = H1 → s.vm.Alike t.vm → px u → BX E u t → H.size ≤ H1.size → (∀ q : Nat, q < H.size → ¬ AX q → H1[q]? = H[q]?) → va_S A0 H0 H1 locs1 → H1[q9]? = some ce → ce.vm = .none → s.vm.findClass E = some ce.cls → vx_W p l e R s m args below meth c H1 locs1 (cells + mc) (slots + ms) Q (F0 m pc ls rest) q9)
    (kk : ∀ (r : UInt32) (u : S) (t : State) (H1 : Heap) (locs1 : List Loc), t.heap = H1 → s.vm.Alike t.vm → post r u → B u t → H.size ≤ H1.size → (∀ q : Nat, q < H.size → ¬ A1 q → H1[q]? = H[q]?) → va_S A0 H0 H1 locs1 → W p l e R s m args below meth c H1 locs1 (cells + mc) (slots + ms) Q (F0 m (pc + 3) ls (.float r :: rest))) : W p l e R s m args below meth c H locs cells slots Q (F0 m pc ls st0) := by
  intro T hT X
  rcases hr T hT X with ⟨v, st₀, t, T', L, h0, X', hL, e1, e2, ⟨⟨r, u, hv, hp, hb⟩, hF⟩, st⟩ | ⟨q, st₀, t, T', L, E, ce, h0, X', hL, e1, e2, ⟨u, hp, hb, hF⟩, hce, hcv, hcl, st⟩
  · cases hv
    obtain ⟨k1, k2, k3⟩ := vx_keep h0 e1 hS hA hf hL hF
    obtain ⟨t2, a1, b1⟩ := kk r u t T'.heap (locs ++ L) e1.symm (by rw [← e2]; exact X'.warmed.alike) hp hb k1 k2 k3 T' rfl X'
    exact ⟨t2, st t2 a1, b1⟩
  · obtain ⟨k1, k2, k3⟩ := vx_keep h0 e1 hS hAX hf hL hF
    obtain ⟨t2, a1, b1⟩ := kx E ce q u t T'.heap (locs ++ L) e1.symm (by rw [← e2]; exact X'.warmed.alike) hp hb k1 k2 k3 (by rw [e1]; exact hce) hcv hcl T' rfl X'
    exact ⟨t2, st.trans a1, b1⟩
theorem vx_calld {S SX : Type} {post : UInt64 → S → Prop} {px : SX → Prop} {B : S → State → Prop} {BX : String → SX → State → Prop} {AX : Nat → Prop} (hr : vx_Run p l e R s m args below meth c H locs cells slots mc ms (F0 m pc ls st0) rest (va_Qd post B A1 a) (vx_X px BX AX) free) (hS : va_S A0 H0 H locs) (hA : ∀ q, q < H.size → A1 q → A0 q) (hf : ∀ q, free q → A0 q) (hAX : ∀ q, q < H.size → AX q → A0 q)
    (kx : ∀ (E : String) (ce : Cell) (q9 : Addr) (u : SX) (t : State) (H1 : Heap) (locs1 : List Loc), t.heap = H1 → s.vm.Alike t.vm → px u → BX E u t → H.size ≤ H1.size → (∀ q : Nat, q < H.size → ¬ AX q → H1[q]? = H[q]?) → va_S A0 H0 H1 locs1 → H1[q9]? = some ce → ce.vm = .none → s.vm.findClass E = some ce.cls → vx_W p l e R s m args below meth c H1 locs1 (cells + mc) (slots + ms) Q (F0 m pc ls rest) q9)
    (kk : ∀ (r : UInt64) (u : S) (t : State) (H1 : Heap) (locs1 : List Loc), t.heap = H1 → s.vm.Alike t.vm → post r u → B u t → H.size ≤ H1.size → (∀ q : Nat, q < H.size → ¬ A1 q → H1[q]? = H[q]?) → va_S A0 H0 H1 locs1 → W p l e R s m args below meth c H1 locs1 (cells + mc) (slots + ms) Q (F0 m (pc + 3) ls (.double r :: rest))) : W p l e R s m args below meth c H locs cells slots Q (F0 m pc ls st0) := by
  intro T hT X
  rcases hr T hT X with ⟨v, st₀, t, T', L, h0, X', hL, e1, e2, ⟨⟨r, u, hv, hp, hb⟩, hF⟩, st⟩ | ⟨q, st₀, t, T', L, E, ce, h0, X', hL, e1, e2, ⟨u, hp, hb, hF⟩, hce, hcv, hcl, st⟩
  · cases hv
    obtain ⟨k1, k2, k3⟩ := vx_keep h0 e1 hS hA hf hL hF
    obtain ⟨t2, a1, b1⟩ := kk r u t T'.heap (locs ++ L) e1.symm (by rw [← e2]; exact X'.warmed.alike) hp hb k1 k2 k3 T' rfl X'
    exact ⟨t2, st t2 a1, b1⟩
  · obtain ⟨k1, k2, k3⟩ := vx_keep h0 e1 hS hAX hf hL hF
    obtain ⟨t2, a1, b1⟩ := kx E ce q u t T'.heap (locs ++ L) e1.symm (by rw [← e2]; exact X'.warmed.alike) hp hb k1 k2 k3 (by rw [e1]; exact hce) hcv hcl T' rfl X'
    exact ⟨t2, st.trans a1, b1⟩
theorem vx_callv {S SX : Type} {post : S → Prop} {px : SX → Prop} {B : S → State → Prop} {BX : String → SX → State → Prop} {AX : Nat → Prop} (hr : vx_Run p l e R s m args below meth c H locs cells slots mc ms (F0 m pc ls st0) rest (va_Qv post B A1 a) (vx_X px BX AX) free) (hS : va_S A0 H0 H locs) (hA : ∀ q, q < H.size → A1 q → A0 q) (hf : ∀ q, free q → A0 q) (hAX : ∀ q, q < H.size → AX q → A0 q)
    (kx : ∀ (E : String) (ce : Cell) (q9 : Addr) (u : SX) (t : State) (H1 : Heap) (locs1 : List Loc), t.heap = H1 → s.vm.Alike t.vm → px u → BX E u t → H.size ≤ H1.size → (∀ q : Nat, q < H.size → ¬ AX q → H1[q]? = H[q]?) → va_S A0 H0 H1 locs1 → H1[q9]? = some ce → ce.vm = .none → s.vm.findClass E = some ce.cls → vx_W p l e R s m args below meth c H1 locs1 (cells + mc) (slots + ms) Q (F0 m pc ls rest) q9)
    (kk : ∀ (u : S) (t : State) (H1 : Heap) (locs1 : List Loc), t.heap = H1 → s.vm.Alike t.vm → post u → B u t → H.size ≤ H1.size → (∀ q : Nat, q < H.size → ¬ A1 q → H1[q]? = H[q]?) → va_S A0 H0 H1 locs1 → W p l e R s m args below meth c H1 locs1 (cells + mc) (slots + ms) Q (F0 m (pc + 3) ls (rest))) : W p l e R s m args below meth c H locs cells slots Q (F0 m pc ls st0) := by
  intro T hT X
  rcases hr T hT X with ⟨v, st₀, t, T', L, h0, X', hL, e1, e2, ⟨⟨u, hv, hp, hb⟩, hF⟩, st⟩ | ⟨q, st₀, t, T', L, E, ce, h0, X', hL, e1, e2, ⟨u, hp, hb, hF⟩, hce, hcv, hcl, st⟩
  · cases hv
    obtain ⟨k1, k2, k3⟩ := vx_keep h0 e1 hS hA hf hL hF
    obtain ⟨t2, a1, b1⟩ := kk u t T'.heap (locs ++ L) e1.symm (by rw [← e2]; exact X'.warmed.alike) hp hb k1 k2 k3 T' rfl X'
    exact ⟨t2, st t2 a1, b1⟩
  · obtain ⟨k1, k2, k3⟩ := vx_keep h0 e1 hS hAX hf hL hF
    obtain ⟨t2, a1, b1⟩ := kx E ce q u t T'.heap (locs ++ L) e1.symm (by rw [← e2]; exact X'.warmed.alike) hp hb k1 k2 k3 (by rw [e1]; exact hce) hcv hcl T' rfl X'
    exact ⟨t2, st.trans a1, b1⟩
/-- caught by the row x of this method's table; the rows ahead don't take it -/
theorem vx_catch {own name : String} {E : String} {ce : Cell} {q : Addr} (hown : s.vm.findClass own = some m.cls) (pre : List ExceptionTableEntry) (x : ExceptionTableEntry) (suf : List ExceptionTableEntry) (hsplit : c.exceptionTable.toList = pre ++ x :: suf)
    (hpass : ∀ z ∈ pre, covers z pc = false ∨ (z.catchType ≠ 0 ∧ ∃ nm : String, (Cond.classLink own z.catchType nm).before args s = true ∧ va_Nc E nm s)) (hx : covers x pc = true) (h0 : x.catchType ≠ 0)
    (hlink : (Cond.classLink own x.catchType name).before args s = true) (hcast : (Cond.castable E name).before args s = true) (hcell : H[q]? = some ce) (hv : ce.vm = .none) (hcl : s.vm.findClass E = some ce.cls)
    (kk : W p l e R s m args below meth c H locs cells slots Q (F0 m x.handlerPc ls [.ref q])) : vx_W p l e R s m args below meth c H locs cells slots Q (F0 m pc ls rest) q := by
  intro T hT X
  have hpl : e.platform.magicAccessors = ({} : Platform).magicAccessors := by rw [X.admits.platform]
  obtain ⟨c3, c4, hc3, hc4, hasg⟩ := Cond.castable_spec hcast
  cases Option.some.inj (hc3.symm.trans hcl)
  obtain ⟨c5, hc5, hcl5⟩ := Cond.classLink_spec hown hlink e.platform hpl
  cases Option.some.inj (hc4.symm.trans hc5)
  obtain ⟨vm', X', st⟩ := X.thenCaughtThrough q (g := F0 m pc ls rest) rfl (Steps.refl _) (by rw [hT]; exact hcell) (by rw [hv]; rfl) (by obtain ⟨k9, h9, -⟩ := Vm.findClass_spec hcl; exact ⟨k9, h9⟩) pre x suf hsplit
    (fun z hz => by
      rcases hpass z hz with h | ⟨hz0, nm, hl1, hn1⟩
      · exact Or.inl h
      · obtain ⟨c6, hc6, hcl6⟩ := Cond.classLink_spec hown hl1 e.platform hpl
        obtain ⟨a8, b8, h1, h2, h3⟩ := hn1
        cases Option.some.inj (h1.symm.trans hcl)
        cases Option.some.inj (h2.symm.trans hc6)
        exact Or.inr ⟨hz0, _, hcl6, h3⟩) hx (Or.inr ⟨h0, c4, hcl5, hasg⟩)
  obtain ⟨t, a1, b1⟩ := kk (T.setVm vm') hT X'
  exact ⟨t, st.trans a1, b1⟩
end Rows
section Ends
variable {p : Program} {l : Launch} {e : Env} {R : Room} {s : State} {m : MethodId} {args : Array Value} {below : List Frame} {meth : Method} {c : Code} {H : Heap} {locs : List Loc} {cells slots : Nat} {Q : State → Prop}
variable {mc ms : Nat} {free : Addr → Prop} {A0 A1 : Nat → Prop} {H0 : Heap} {a : Array Value} {ls : Array Slot} {st0 rest : List Value}
variable {Qc : Array Value → State → Outcome → State → Prop} {XC : String → State → State → Prop}
/-- what a body that may throw owes at its end -/
def vx_MQ (below : List Frame) (Qc : Array Value → State → Outcome → State → Prop) (XC : String → State → State → Prop) (a : Array Value) (s : State) (mc ms : Nat) (free : Addr → Prop) : State → Prop := fun t =>
  ∃ o, t.status = .running ∧ Ended t below o ∧ vx_Q Qc XC mc ms free a s o t
theorem vx_ret {g : JFrame} {mc ms : Nat} (k : W p l e R s m args below meth c H locs cells slots (MQ below Qc args s mc ms free) g) : W p l e R s m args below meth c H locs cells slots (vx_MQ below Qc XC args s mc ms free) g := by
  intro T hT X
  obtain ⟨t, a1, o, b1, b2, b3, b4⟩ := k T hT X
  exact ⟨t, a1, o, b1, b2, Or.inl ⟨b3, b4⟩⟩
/-- not caught here: it goes on to the caller -/
theorem vx_widen {g : JFrame} {q : Addr} {k n : Nat} (h1 : cells ≤ k) (h2 : slots ≤ n) (kk : vx_W p l e R s m args below meth c H locs k n Q g q) : vx_W p l e R s m args below meth c H locs cells slots Q g q := fun T hT X => kk T hT (stand_widen X h1 h2)
theorem vx_out {pc : Nat} {E : String} {ce : Cell} {q : Addr} {mc ms : Nat} (hout : ∀ x ∈ c.exceptionTable.toList, covers x pc = false) (hlocks : meth.locks = false) (hcell : H[q]? = some ce) (hv : ce.vm = .none) (hcl : s.vm.findClass E = some ce.cls)
    (hx : ∀ t : State, t.heap = H → s.vm.Alike t.vm → XC E s t) (hf : ∀ z ∈ locs, free z.base) (hc : cells ≤ mc) (hs : slots ≤ ms) :
    vx_W p l e R s m args below meth c H locs cells slots (vx_MQ below Qc XC args s mc ms free) (F0 m pc ls rest) q := by
  intro T hT X
  obtain ⟨st1, hrun, hend, hW, hsm⟩ := X.leaveThrown q (g := F0 m pc ls rest) rfl rfl rfl hout hlocks
  have hcell9 : (T.setFrames (.throwing q :: below)).heap[q]? = some ce := by
    show T.heap[q]? = some ce
    rw [hT]; exact hcell
  exact ⟨_, st1, .threw q, hrun, hend, Or.inr ⟨q, rfl, E, ce, locs, hx _ hT hW.alike, hcell9, hv, hcl, hW, hsm.mono hc hs, hf⟩⟩
theorem vx_frame {U : State} {k n : Nat} (h : s.sameButNew ({ U with vm := s.vm } : State) locs k n) : s.heap.size ≤ U.heap.size ∧ ∀ q : Nat, q < s.heap.size → (∀ z ∈ locs, z.base ≠ q) → U.heap[q]? = s.heap[q]? := by
  obtain ⟨-, h2, -, -, -, h6⟩ := h
  refine ⟨h2, fun q hq hz => ?_⟩
  obtain ⟨c9, e1, e2, e3, e4⟩ := h6 q _ (Array.getElem?_eq_getElem hq)
  have hs : c9.slots = (s.heap[q]).slots := Array.ext_getElem? fun i => e4 i fun hm => hz _ hm rfl
  have h9 : c9 = s.heap[q] := by
    rw [hs] at e2
    exact e2
  have e5 : U.heap[q]? = some c9 := e1
  rw [e5, h9, Array.getElem?_eq_getElem hq]
/-- the words of a throw but the four that speak of the heap -/
def vx_no (w : Cond) : Bool := decide (w ≠ .isRef (.static Bundle.tN "UNASSIGNED_STACK" Bundle.steD)) && decide (w ≠ .isRef (.static Bundle.tN "SUPPRESSED_SENTINEL" Bundle.listD)) && decide (w ≠ .laysStatic Bundle.tN "UNASSIGNED_STACK" Bundle.steD) && decide (w ≠ .laysStatic Bundle.tN "SUPPRESSED_SENTINEL" Bundle.listD)
def vx_at0 (own : String) (ic : Nat) (X : String) (names : List String) : List Cond := (Bundle.ownAtoms0 own ic X names).filter vx_no
def vx_atS (own : String) (ic : Nat) (X : String) (names : List String) : List Cond := (Bundle.ownAtoms own ic X names).filter vx_no
/-- a word that the tables alone decide, or a good one -/
def vx_ot (w : Cond) : Bool := w.onTables || goodWord w
theorem vx_ot_at {args a' : Array Value} {s U : State} {w : Cond} (hW : s.WarmedH U.vm) (hvm : s.vm = U.vm) (hg : vx_ot w = true) (h : w.before args s = true) : w.before a' U = true := by
  simp only [vx_ot, Bool.or_eq_true] at hg
  rcases hg with hg | hg
  · exact va_tabs hg hvm h
  · exact word_at hW (good_of_word hg) h
/-- a list's words: the good ones out of the method's own list, the others by premises of their own -/
theorem vx_hat {args : Array Value} {s : State} {L B : List Cond} (h1 : ∀ w ∈ L.filter goodWord, w.before args s = true) (h2 : ∀ w ∈ L.filter (fun w => !goodWord w), w ∈ B) (h3 : ∀ w ∈ B, w.before args s = true) : ∀ w ∈ L, w.before args s = true := by
  intro w hw
  by_cases g : goodWord w = true
  · exact h1 w (List.mem_filter.mpr ⟨hw, g⟩)
  · refine h3 w (h2 w (List.mem_filter.mpr ⟨hw, ?_⟩))
    show (!goodWord w) = true
    cases hgw : goodWord w
    · rfl
    · exact absurd hgw g
theorem vx_c {args : Array Value} {s : State} {w : Cond} {B : List Cond} (h : w.before args s = true) (t : ∀ w ∈ B, w.before args s = true) : ∀ w' ∈ w :: B, w'.before args s = true := fun w' h' => (List.mem_cons.mp h').elim (fun e => by rw [e]; exact h) (t w')
theorem vx_n {args : Array Value} {s : State} : ∀ w ∈ ([] : List Cond), w.before args s = true := fun _ h => nomatch h
theorem vx_own {args : Array Value} {s : State} {L : List Cond} (h1 : ∀ w ∈ L.filter vx_no, w.before args s = true)
    (hU : (Cond.isRef (.static Bundle.tN "UNASSIGNED_STACK" Bundle.steD)).before args s = true) (hN : (Cond.isRef (.static Bundle.tN "SUPPRESSED_SENTINEL" Bundle.listD)).before args s = true)
    (lU : (Cond.laysStatic Bundle.tN "UNASSIGNED_STACK" Bundle.steD).before args s = true) (lN : (Cond.laysStatic Bundle.tN "SUPPRESSED_SENTINEL" Bundle.listD).before args s = true) : ∀ w ∈ L, w.before args s = true := by
  intro w hw
  by_cases e1 : w = .isRef (.static Bundle.tN "UNASSIGNED_STACK" Bundle.steD)
  · rw [e1]; exact hU
  · by_cases e2 : w = .isRef (.static Bundle.tN "SUPPRESSED_SENTINEL" Bundle.listD)
    · rw [e2]; exact hN
    · by_cases e3 : w = .laysStatic Bundle.tN "UNASSIGNED_STACK" Bundle.steD
      · rw [e3]; exact lU
      · by_cases e4 : w = .laysStatic Bundle.tN "SUPPRESSED_SENTINEL" Bundle.listD
        · rw [e4]; exact lN
        · exact h1 w (List.mem_filter.mpr ⟨hw, by unfold vx_no; rw [decide_eq_true e1, decide_eq_true e2, decide_eq_true e3, decide_eq_true e4]; rfl⟩)
/-- where a static field lies, its class's statics cell in H -/
def vx_L (C n d : String) (A : Nat → Prop) (U : State) (H : Heap) : Prop := ∃ (c : ClassId) (k : Class) (i : Nat) (f : Field) (a : Nat) (cell : Cell), U.vm.findClass C = some c ∧ U.fieldFound? C n d = some (c, k, i, f) ∧ f.isStatic = true ∧ k.statics = some a ∧ H[a]? = some cell ∧ cell.vm.isStatics = true ∧ cell.cls = c ∧ f.slot < cell.slots.size ∧ k.staticTypes[f.slot]? = some f.type ∧ ¬ A a
theorem vx_L.moved {C n d : String} {A : Nat → Prop} {u U : State} {H : Heap} (hvm : u.vm.Alike U.vm) (h : vx_L C n d A u H) : vx_L C n d A U H := by
  obtain ⟨c, k, i, f, a, cell, h1, h2, h3, h4, h5, h6, h7, h8, h9, h10⟩ := h
  obtain ⟨k', hi', he⟩ := State.fieldFound?_setVm hvm h2
  exact ⟨c, k', i, f, a, cell, by rw [hvm.findClass]; exact h1, hi', h3, by rw [he]; exact h4, h5, h6, h7, h8, by rw [he]; exact h9, h10⟩
theorem vx_L.kept {C n d : String} {A : Nat → Prop} {U : State} {H H1 : Heap} (h : vx_L C n d A U H) (hq : ∀ a : Nat, a < H.size → ¬ A a → H1[a]? = H[a]?) : vx_L C n d A U H1 := by
  obtain ⟨c, k, i, f, a, cell, h1, h2, h3, h4, h5, h6, h7, h8, h9, h10⟩ := h
  exact ⟨c, k, i, f, a, cell, h1, h2, h3, h4, by rw [hq a (Array.getElem?_eq_some_iff.mp h5).1 h10]; exact h5, h6, h7, h8, h9, h10⟩
theorem vx_L.narrow {C n d : String} {A B : Nat → Prop} {U : State} {H : Heap} (h : vx_L C n d A U H) (hAB : ∀ q, B q → A q) : vx_L C n d B U H := by
  obtain ⟨c, k, i, f, a, cell, h1, h2, h3, h4, h5, h6, h7, h8, h9, h10⟩ := h
  exact ⟨c, k, i, f, a, cell, h1, h2, h3, h4, h5, h6, h7, h8, h9, fun z => h10 (hAB _ z)⟩
theorem vx_L.word {C n d : String} {A : Nat → Prop} {s : State} {args : Array Value} (h : vx_L C n d A s s.heap) : (Cond.laysStatic C n d).before args s = true := by
  obtain ⟨c, k, i, f, a, cell, h1, h2, h3, h4, h5, h6, h7, h8, h9, -⟩ := h
  show (Cond.laysStatic C n d).holds args s none s [] = true
  exact Cond.laysStatic_of h1 h2 h3 h4 h5 h6 h7 h8 h9
/-- .. and what it holds: null or some reference -/
def vx_Zq (C n d : String) (A : Nat → Prop) (U : State) (H : Heap) : Prop := va_Zq C n d A U H ∧ vx_L C n d A U H
theorem vx_Zq.moved {C n d : String} {A : Nat → Prop} {u U : State} {H : Heap} (hvm : u.vm.Alike U.vm) (h : vx_Zq C n d A u H) : vx_Zq C n d A U H := ⟨va_Zq.moved hvm h.1, vx_L.moved hvm h.2⟩
theorem vx_Zq.kept {C n d : String} {A : Nat → Prop} {U : State} {H H1 : Heap} (h : vx_Zq C n d A U H) (hq : ∀ a : Nat, a < H.size → ¬ A a → H1[a]? = H[a]?) : vx_Zq C n d A U H1 := ⟨va_Zq.kept h.1 hq, vx_L.kept h.2 hq⟩
theorem vx_Zq.narrow {C n d : String} {A B : Nat → Prop} {U : State} {H : Heap} (h : vx_Zq C n d A U H) (hAB : ∀ q, B q → A q) : vx_Zq C n d B U H := ⟨va_Zq.narrow h.1 hAB, vx_L.narrow h.2 hAB⟩
theorem vx_Zqof {args : Array Value} {s : State} {C n d : String} {A : Nat → Prop} (hl : (Cond.laysStatic C n d).before args s = true) (hini : (Cond.initialized C).before args s = true) (h : (Cond.isRef (.static C n d)).before args s = true) (hA : ∀ a : Nat, a < s.heap.size → ¬ A a) : vx_Zq C n d A s s.heap := by
  refine ⟨va_Zqof hl hini h hA, ?_⟩
  obtain ⟨c, k, i, f, a, cell, h1, h2, h3, h4, h5, h6, h7, h8, h9⟩ := Cond.laysStatic_spec hl
  exact ⟨c, k, i, f, a, cell, h1, h2, h3, h4, h5, h6, h7, h8, h9, hA a (Array.getElem?_eq_some_iff.mp h5).1⟩
theorem vx_isRef {C n d : String} {v : Value} {A : Nat → Prop} {s : State} {args : Array Value} (h : va_Z C n d v A s s.heap) (hv : v.isRef = true) : (Cond.isRef (.static C n d)).before args s = true := by
  obtain ⟨cf, kf, fi, f, a, cell, h1, h2, h3, h4, h5, h6, h7, -⟩ := h
  have he : (Term.static C n d).eval args s none [] s = some v := by
    simp [Term.eval, State.fieldNamed?, h1, h2, h4, h5, h6, h7]
  simp only [Cond.before, Cond.holds, Cond.value, he]
  cases v <;> simp_all [Value.isRef]
theorem vx_isRefq {C n d : String} {A : Nat → Prop} {s : State} {args : Array Value} (h : va_Zq C n d A s s.heap) : (Cond.isRef (.static C n d)).before args s = true := by
  rcases h with h | ⟨t, h⟩
  · exact vx_isRef h rfl
  · exact vx_isRef h rfl
/-- the same frame, seen from here: as if the method were called anew in this heap -/
theorem vx_rebase {T : State} (X : Stand p l e R s m args below meth c T locs cells slots) {R' : Room} (hf : R'.frames ≤ R.frames) (hl : R'.locals ≤ R.locals) (hc : cells + R'.cells ≤ R.cells) (hs : slots + R'.slots ≤ R.slots) :
    Stand p l e R' ((T.setVm s.vm).setFrames (.invoking m args :: below)) m args below meth c T [] 0 0 := by
  have htop : (T.setVm s.vm).topJava?.isSome := X.here.top
  have hF : ((T.setVm s.vm).setFrames (.invoking m args :: below)).frames = .invoking m args :: below := State.frames_setFrames _ (State.cur_lt_of_top htop)
  obtain ⟨g₀, hg0⟩ := Option.isSome_iff_exists.mp htop
  obtain ⟨r, hr⟩ := State.topJava?_eq_some.mp hg0
  have hl9 : e.platform.stackLimits (T.setVm s.vm).me = e.platform.stackLimits s.me := X.limits
  have hb9 : (T.setVm s.vm).me.stackBytes = s.me.stackBytes := X.bytes
  refine ⟨X.admits, X.cas, X.clock, hF, ?_, X.hears, X.method, X.code, X.here, X.tail, X.warmed, ?_, ?_, ?_⟩
  · have h := X.room
    have hU : ((T.setVm s.vm).setFrames (.invoking m args :: below)).localsInUse = s.localsInUse := by
      rw [State.localsInUse_invoking hF (meth := meth) (c := c) X.method X.code, State.localsInUse_invoking X.frames X.method X.code]
    simp only [State.hasRoom, Bool.and_eq_true, decide_eq_true_eq] at h ⊢
    obtain ⟨⟨⟨⟨h1, h2, h3, h4, h5, h6⟩, h7⟩, h8⟩, h9⟩ := h
    rw [X.frames, List.length_cons] at h2 h3
    have q1 := X.heapSize
    have q2 := X.used
    simp only [hF, hU, List.length_cons, State.stackLimits_setFrames, State.stackBytes_setFrames, hl9, hb9]
    refine ⟨⟨⟨⟨by omega, by omega, by omega, by omega, by omega, h6⟩, ?_⟩, ?_⟩, X.book⟩
    · show T.heap.size + R'.cells ≤ e.platform.maxCells
      omega
    · show T.slotsUsed + R'.slots ≤ e.platform.maxSlots
      omega
  · rw [State.stackLimits_setFrames]; rfl
  · rw [State.stackBytes_setFrames]; rfl
  · refine ⟨?_, Nat.le_refl _, Nat.le_refl _, ?_, ?_, fun a c9 h9 => ⟨c9, h9, rfl, rfl, fun _ _ => rfl⟩⟩
    · obtain ⟨t, ht, -⟩ := State.frames_cons hr
      show T.setVm s.vm = { ((T.setVm s.vm).setFrames (.invoking m args :: below)).setFrames (T.setVm s.vm).frames with heap := T.heap, slotsUsed := T.slotsUsed }
      rw [State.setFrames_setFrames, State.setFrames_self ht]
      rfl
    · show T.slotsUsed = T.slotsUsed + ((T.heap.toList.drop T.heap.size).map (·.slots.size)).sum
      rw [List.drop_eq_nil_of_le (Nat.le_of_eq Array.length_toList)]
      rfl
    · show ((T.heap.toList.drop T.heap.size).map (·.slots.size)).sum ≤ 0
      rw [List.drop_eq_nil_of_le (Nat.le_of_eq Array.length_toList)]
      exact Nat.le_refl _
/-- 'throw new E()': new; dup; invokespecial; athrow -/
theorem vx_throw0 {cc : ByteArray} {pc : Nat} (hexec : p.tables.exec = Jvm.exec) (hb : c.code = cc) (hl : l.stackTraces = false) {own cls : String} {names : List String} {ik ic mc ms : Nat} {A : Nat → Prop}
    (hown : s.vm.findClass own = some m.cls) (hcls : Bundle.fit cls = true) (hnames : ∀ n ∈ names, Bundle.fit n = true)
    (hk : (Cond.classLink own ik cls).before args s = true) (hini : (Cond.initialized cls).before args s = true) (hat : ∀ w ∈ vx_at0 own ic cls names, w.before args s = true)
    (hgood : ∀ w ∈ Cond.classLink own ik cls :: Cond.initialized cls :: vx_at0 own ic cls names, vx_ot w = true)
    (hU : vx_Zq Bundle.tN "UNASSIGNED_STACK" Bundle.steD A s s.heap) (hN : vx_Zq Bundle.tN "SUPPRESSED_SENTINEL" Bundle.listD A s s.heap) (hS : va_S A s.heap H locs) (hsize : ls.size = c.maxLocals)
    (d0 : decode cc pc = .ok (.new ik, 3)) (d3 : decode cc (pc + 3) = .ok (.dup, 1)) (d4 : decode cc (pc + 4) = .ok (.invokespecial ic, 3)) (d7 : decode cc (pc + 7) = .ok (.athrow, 1))
    (hout : ∀ x ∈ c.exceptionTable.toList, covers x (pc + 7) = false)
    (hRframes : names.length + 3 < R.frames) (hRlocals : (rest.map fun v => v.category).sum + (13 * (names.length + 1) + 42) ≤ R.locals) (hRcells : cells + 1 ≤ R.cells) (hRslots : slots + 6 ≤ R.slots) (hlocks : meth.locks = false)
    (hx : ∀ t : State, s.vm.Alike t.vm → H.size ≤ t.heap.size → (∀ q : Nat, q < H.size → t.heap[q]? = H[q]?) → XC cls s t)
    (hf : ∀ z ∈ locs, free z.base) (hc : cells + 1 ≤ mc) (hs : slots + 6 ≤ ms) :
    W p l e R s m args below meth c H locs cells slots (vx_MQ below Qc XC args s mc ms free) (F0 m pc ls rest) := by
  intro T hT X
  have htr : e.platform.stackTraces = false := (show e.platform.stackTraces = l.stackTraces by rw [X.admits.platform]).trans hl
  have Y := vx_rebase X (R' := { frames := R.frames, locals := R.locals, cells := 1, slots := 6 }) (Nat.le_refl _) (Nat.le_refl _) hRcells hRslots
  obtain ⟨s', hA⟩ : ∃ z, z = (T.setVm s.vm).setFrames (.invoking m args :: below) := ⟨_, rfl⟩
  rw [← hA] at Y
  have hvm : s'.vm = s.vm := by rw [hA]; rfl
  have hhp : s'.heap = H := by rw [hA]; exact hT
  have hW0 : s.WarmedH s'.vm := by rw [hvm]; exact State.WarmedH.refl s
  have hat' : ∀ w ∈ vx_at0 own ic cls names, w.before args s' = true := fun w hw => vx_ot_at hW0 hvm.symm (hgood w (List.mem_cons_of_mem _ (List.mem_cons_of_mem _ hw))) (hat w hw)
  have hk' : (Cond.classLink own ik cls).before args s' = true := vx_ot_at hW0 hvm.symm (hgood _ List.mem_cons_self) hk
  have hini' : (Cond.initialized cls).before args s' = true := vx_ot_at hW0 hvm.symm (hgood _ (List.mem_cons_of_mem _ List.mem_cons_self)) hini
  have hU' : vx_Zq Bundle.tN "UNASSIGNED_STACK" Bundle.steD A s' s'.heap := by rw [hhp]; exact vx_Zq.moved hW0.alike (hU.kept hS.2.1)
  have hN' : vx_Zq Bundle.tN "SUPPRESSED_SENTINEL" Bundle.listD A s' s'.heap := by rw [hhp]; exact vx_Zq.moved hW0.alike (hN.kept hS.2.1)
  have h : ∀ w ∈ Bundle.ownAtoms0 own ic cls names, w.before args s' = true := vx_own hat' (vx_isRefq hU'.1) (vx_isRefq hN'.1) hU'.2.word hN'.2.word
  have hown' : s'.vm.findClass own = some m.cls := by rw [hvm]; exact hown
  have hins : (Cond.instantiable cls 6).before args s' = true := h _ (by simp [Bundle.ownAtoms0])
  obtain ⟨vm₁, cX, kX, hfX, hkX, -, -, X₁, st1⟩ := Y.newCold hexec (own := own) (C := cls) (index := ik) (n := 6) hown' hk' hins hini'
    (g := F0 m pc ls rest) rfl (by rw [hb]; exact d0) (Nat.le_refl _) (Nat.le_refl _)
  generalize hT1 : (T.setVm vm₁).pushCell { cls := cX, slots := kX.instanceTypes.map defaultValue, vm := .none } = T1 at X₁ st1
  have hcat : (Value.ref T.heap.size).category = 1 := rfl
  have hcellA : T1.heap[T.heap.size]? = some (freshCell cX kX) := by rw [← hT1]; exact State.heap_pushCell_size _ _
  have d3' : decode c.code (pc + 3) = .ok (.dup, 1) := by rw [hb]; exact d3
  obtain ⟨U, hsteps, hrun, hend, hW, hsame, ce, hce, hO⟩ := X₁.ctorThrow0 hexec htr (own := own) (cls := cls) (names := names) (ic := ic) hown' hcls hnames h (fun x hx => nomatch hx) hfX hkX hcellA (by rw [hhp, hT]; exact Nat.le_refl _)
    (g := { method := m, pc := pc + 4, locals := ls, stack := .ref T.heap.size :: .ref T.heap.size :: rest, locked := none }) rfl hsize rfl rfl (rest := rest) rfl
    (by rw [hb]; exact d4) (by rw [hb]; exact d7) hout hRframes (by simp only [List.map_cons, List.sum_cons, hcat]; omega) hlocks
  obtain ⟨f1, f2⟩ := vx_frame hsame
  rw [hhp] at f1 f2
  have hWs : s.WarmedH U.vm := State.WarmedH.trans hW0 hW
  have hcl : s.vm.findClass cls = some ce.cls := by
    have h9 := hO.cls
    rw [hvm] at h9
    exact h9
  have hall : s.sameButNew ({ U with vm := s.vm } : State) locs mc ms := by
    subst hA
    obtain ⟨e1, e2⟩ := hsame
    rw [State.setFrames_setFrames] at e1
    have h2 : (T.setVm s.vm).sameButNew ({ U with vm := s.vm } : State) [] (0 + 1) (0 + 6) := ⟨e1, e2⟩
    have h3 := X.same.trans h2
    rw [List.append_nil] at h3
    exact h3.mono hc hs
  refine ⟨U, ?_, .threw T.heap.size, hrun, hend, Or.inr ⟨T.heap.size, rfl, cls, ce, locs, hx U hWs.alike f1 (fun q hq => f2 q hq (fun z hz => nomatch hz)), hce, hO.vm, hcl, hWs, hall, hf⟩⟩
  refine st1 _ ?_
  show Steps p.tables e below (T1.setTop { method := m, pc := pc + 3, locals := ls, stack := .ref T.heap.size :: rest, locked := none }) _
  jvm_step X₁.here [X₁.here.top, hexec, d3', Value.category]
  exact hsteps
/-- 'throw new E("text")': new; dup; ldc; invokespecial; athrow -/
theorem vx_throwS {cc : ByteArray} {pc : Nat} (hexec : p.tables.exec = Jvm.exec) (hb : c.code = cc) (hl : l.stackTraces = false) {own cls text : String} {names : List String} {ik is ic mc ms sa : Nat} {A : Nat → Prop}
    (hown : s.vm.findClass own = some m.cls) (hcls : Bundle.fit cls = true) (hnames : ∀ n ∈ names, Bundle.fit n = true)
    (hk : (Cond.classLink own ik cls).before args s = true) (hini : (Cond.initialized cls).before args s = true) (hstr : vk_R own is text sa s) (hat : ∀ w ∈ vx_atS own ic cls names, w.before args s = true)
    (hgood : ∀ w ∈ Cond.classLink own ik cls :: Cond.initialized cls :: vx_atS own ic cls names, vx_ot w = true)
    (hU : vx_Zq Bundle.tN "UNASSIGNED_STACK" Bundle.steD A s s.heap) (hN : vx_Zq Bundle.tN "SUPPRESSED_SENTINEL" Bundle.listD A s s.heap) (hS : va_S A s.heap H locs) (hsize : ls.size = c.maxLocals)
    (d0 : decode cc pc = .ok (.new ik, 3)) (d3 : decode cc (pc + 3) = .ok (.dup, 1)) (d4 : decode cc (pc + 4) = .ok (.ldc is, 2)) (d6 : decode cc (pc + 6) = .ok (.invokespecial ic, 3)) (d9 : decode cc (pc + 9) = .ok (.athrow, 1))
    (hout : ∀ x ∈ c.exceptionTable.toList, covers x (pc + 9) = false)
    (hRframes : names.length + 3 < R.frames) (hRlocals : (rest.map fun v => v.category).sum + (13 * (names.length + 1) + 43) ≤ R.locals) (hRcells : cells + 1 ≤ R.cells) (hRslots : slots + 6 ≤ R.slots) (hlocks : meth.locks = false)
    (hx : ∀ t : State, s.vm.Alike t.vm → H.size ≤ t.heap.size → (∀ q : Nat, q < H.size → t.heap[q]? = H[q]?) → XC cls s t)
    (hf : ∀ z ∈ locs, free z.base) (hc : cells + 1 ≤ mc) (hs : slots + 6 ≤ ms) :
    W p l e R s m args below meth c H locs cells slots (vx_MQ below Qc XC args s mc ms free) (F0 m pc ls rest) := by
  intro T hT X
  have htr : e.platform.stackTraces = false := (show e.platform.stackTraces = l.stackTraces by rw [X.admits.platform]).trans hl
  have Y := vx_rebase X (R' := { frames := R.frames, locals := R.locals, cells := 1, slots := 6 }) (Nat.le_refl _) (Nat.le_refl _) hRcells hRslots
  obtain ⟨s', hA⟩ : ∃ z, z = (T.setVm s.vm).setFrames (.invoking m args :: below) := ⟨_, rfl⟩
  rw [← hA] at Y
  have hvm : s'.vm = s.vm := by rw [hA]; rfl
  have hhp : s'.heap = H := by rw [hA]; exact hT
  have hW0 : s.WarmedH s'.vm := by rw [hvm]; exact State.WarmedH.refl s
  have hat' : ∀ w ∈ vx_atS own ic cls names, w.before args s' = true := fun w hw => vx_ot_at hW0 hvm.symm (hgood w (List.mem_cons_of_mem _ (List.mem_cons_of_mem _ hw))) (hat w hw)
  have hk' : (Cond.classLink own ik cls).before args s' = true := vx_ot_at hW0 hvm.symm (hgood _ List.mem_cons_self) hk
  have hini' : (Cond.initialized cls).before args s' = true := vx_ot_at hW0 hvm.symm (hgood _ (List.mem_cons_of_mem _ List.mem_cons_self)) hini
  have hU' : vx_Zq Bundle.tN "UNASSIGNED_STACK" Bundle.steD A s' s'.heap := by rw [hhp]; exact vx_Zq.moved hW0.alike (hU.kept hS.2.1)
  have hN' : vx_Zq Bundle.tN "SUPPRESSED_SENTINEL" Bundle.listD A s' s'.heap := by rw [hhp]; exact vx_Zq.moved hW0.alike (hN.kept hS.2.1)
  have h : ∀ w ∈ Bundle.ownAtoms own ic cls names, w.before args s' = true := vx_own hat' (vx_isRefq hU'.1) (vx_isRefq hN'.1) hU'.2.word hN'.2.word
  have hown' : s'.vm.findClass own = some m.cls := by rw [hvm]; exact hown
  have hins : (Cond.instantiable cls 6).before args s' = true := h _ (by simp [Bundle.ownAtoms])
  obtain ⟨vm₁, cX, kX, hfX, hkX, -, -, X₁, st1⟩ := Y.newCold hexec (own := own) (C := cls) (index := ik) (n := 6) hown' hk' hins hini'
    (g := F0 m pc ls rest) rfl (by rw [hb]; exact d0) (Nat.le_refl _) (Nat.le_refl _)
  generalize hT1 : (T.setVm vm₁).pushCell { cls := cX, slots := kX.instanceTypes.map defaultValue, vm := .none } = T1 at X₁ st1
  have hcat : (Value.ref T.heap.size).category = 1 := rfl
  have hcellA : T1.heap[T.heap.size]? = some (freshCell cX kX) := by rw [← hT1]; exact State.heap_pushCell_size _ _
  have d3' : decode c.code (pc + 3) = .ok (.dup, 1) := by rw [hb]; exact d3
  have d4' : decode c.code (pc + 4) = .ok (.ldc is, 2) := by rw [hb]; exact d4
  have hstr' : vk_R own is text sa s' := vk_R.warm hW0 hstr
  obtain ⟨U, hsteps, hrun, hend, hW, hsame, ce, hce, hO⟩ := X₁.ctorThrowS hexec htr (own := own) (cls := cls) (names := names) (ic := ic) hown' hcls hnames h (fun x hx => nomatch hx) hfX hkX hcellA (by rw [hhp, hT]; exact Nat.le_refl _) (msg := .ref sa) rfl
    (g := { method := m, pc := pc + 6, locals := ls, stack := .ref sa :: .ref T.heap.size :: .ref T.heap.size :: rest, locked := none }) rfl hsize rfl rfl (rest := rest) rfl
    (by rw [hb]; exact d6) (by rw [hb]; exact d9) hout hRframes (by simp only [List.map_cons, List.sum_cons, hcat]; omega) hlocks
  obtain ⟨f1, f2⟩ := vx_frame hsame
  rw [hhp] at f1 f2
  have hWs : s.WarmedH U.vm := State.WarmedH.trans hW0 hW
  have hcl : s.vm.findClass cls = some ce.cls := by
    have h9 := hO.cls
    rw [hvm] at h9
    exact h9
  have hall : s.sameButNew ({ U with vm := s.vm } : State) locs mc ms := by
    subst hA
    obtain ⟨e1, e2⟩ := hsame
    rw [State.setFrames_setFrames] at e1
    have h2 : (T.setVm s.vm).sameButNew ({ U with vm := s.vm } : State) [] (0 + 1) (0 + 6) := ⟨e1, e2⟩
    have h3 := X.same.trans h2
    rw [List.append_nil] at h3
    exact h3.mono hc hs
  refine ⟨U, ?_, .threw T.heap.size, hrun, hend, Or.inr ⟨T.heap.size, rfl, cls, ce, locs, hx U hWs.alike f1 (fun q hq => f2 q hq (fun z hz => nomatch hz)), hce, hO.vm, hcl, hWs, hall, hf⟩⟩
  refine st1 _ ?_
  show Steps p.tables e below (T1.setTop { method := m, pc := pc + 3, locals := ls, stack := .ref T.heap.size :: rest, locked := none }) _
  jvm_step X₁.here [X₁.here.top, hexec, d3', Value.category]
  exact X₁.ldcString hexec (own := own) (text := text) (index := is) (a := sa) hown' hstr'.1 hstr'.2
    (g := { method := m, pc := pc + 4, locals := ls, stack := .ref T.heap.size :: .ref T.heap.size :: rest, locked := none }) rfl d4' _ hsteps
/-- 'throw new E("text")', the text by a wide index -/
theorem vx_throwSW {cc : ByteArray} {pc : Nat} (hexec : p.tables.exec = Jvm.exec) (hb : c.code = cc) (hl : l.stackTraces = false) {own cls text : String} {names : List String} {ik is ic mc ms sa : Nat} {A : Nat → Prop}
    (hown : s.vm.findClass own = some m.cls) (hcls : Bundle.fit cls = true) (hnames : ∀ n ∈ names, Bundle.fit n = true)
    (hk : (Cond.classLink own ik cls).before args s = true) (hini : (Cond.initialized cls).before args s = true) (hstr : vk_R own is text sa s) (hat : ∀ w ∈ vx_atS own ic cls names, w.before args s = true)
    (hgood : ∀ w ∈ Cond.classLink own ik cls :: Cond.initialized cls :: vx_atS own ic cls names, vx_ot w = true)
    (hU : vx_Zq Bundle.tN "UNASSIGNED_STACK" Bundle.steD A s s.heap) (hN : vx_Zq Bundle.tN "SUPPRESSED_SENTINEL" Bundle.listD A s s.heap) (hS : va_S A s.heap H locs) (hsize : ls.size = c.maxLocals)
    (d0 : decode cc pc = .ok (.new ik, 3)) (d3 : decode cc (pc + 3) = .ok (.dup, 1)) (d4 : decode cc (pc + 4) = .ok (.ldc_w is, 3)) (d7 : decode cc (pc + 7) = .ok (.invokespecial ic, 3)) (d10 : decode cc (pc + 10) = .ok (.athrow, 1))
    (hout : ∀ x ∈ c.exceptionTable.toList, covers x (pc + 10) = false)
    (hRframes : names.length + 3 < R.frames) (hRlocals : (rest.map fun v => v.category).sum + (13 * (names.length + 1) + 43) ≤ R.locals) (hRcells : cells + 1 ≤ R.cells) (hRslots : slots + 6 ≤ R.slots) (hlocks : meth.locks = false)
    (hx : ∀ t : State, s.vm.Alike t.vm → H.size ≤ t.heap.size → (∀ q : Nat, q < H.size → t.heap[q]? = H[q]?) → XC cls s t)
    (hf : ∀ z ∈ locs, free z.base) (hc : cells + 1 ≤ mc) (hs : slots + 6 ≤ ms) :
    W p l e R s m args below meth c H locs cells slots (vx_MQ below Qc XC args s mc ms free) (F0 m pc ls rest) := by
  intro T hT X
  have htr : e.platform.stackTraces = false := (show e.platform.stackTraces = l.stackTraces by rw [X.admits.platform]).trans hl
  have Y := vx_rebase X (R' := { frames := R.frames, locals := R.locals, cells := 1, slots := 6 }) (Nat.le_refl _) (Nat.le_refl _) hRcells hRslots
  obtain ⟨s', hA⟩ : ∃ z, z = (T.setVm s.vm).setFrames (.invoking m args :: below) := ⟨_, rfl⟩
  rw [← hA] at Y
  have hvm : s'.vm = s.vm := by rw [hA]; rfl
  have hhp : s'.heap = H := by rw [hA]; exact hT
  have hW0 : s.WarmedH s'.vm := by rw [hvm]; exact State.WarmedH.refl s
  have hat' : ∀ w ∈ vx_atS own ic cls names, w.before args s' = true := fun w hw => vx_ot_at hW0 hvm.symm (hgood w (List.mem_cons_of_mem _ (List.mem_cons_of_mem _ hw))) (hat w hw)
  have hk' : (Cond.classLink own ik cls).before args s' = true := vx_ot_at hW0 hvm.symm (hgood _ List.mem_cons_self) hk
  have hini' : (Cond.initialized cls).before args s' = true := vx_ot_at hW0 hvm.symm (hgood _ (List.mem_cons_of_mem _ List.mem_cons_self)) hini
  have hU' : vx_Zq Bundle.tN "UNASSIGNED_STACK" Bundle.steD A s' s'.heap := by rw [hhp]; exact vx_Zq.moved hW0.alike (hU.kept hS.2.1)
  have hN' : vx_Zq Bundle.tN "SUPPRESSED_SENTINEL" Bundle.listD A s' s'.heap := by rw [hhp]; exact vx_Zq.moved hW0.alike (hN.kept hS.2.1)
  have h : ∀ w ∈ Bundle.ownAtoms own ic cls names, w.before args s' = true := vx_own hat' (vx_isRefq hU'.1) (vx_isRefq hN'.1) hU'.2.word hN'.2.word
  have hown' : s'.vm.findClass own = some m.cls := by rw [hvm]; exact hown
  have hins : (Cond.instantiable cls 6).before args s' = true := h _ (by simp [Bundle.ownAtoms])
  obtain ⟨vm₁, cX, kX, hfX, hkX, -, -, X₁, st1⟩ := Y.newCold hexec (own := own) (C := cls) (index := ik) (n := 6) hown' hk' hins hini'
    (g := F0 m pc ls rest) rfl (by rw [hb]; exact d0) (Nat.le_refl _) (Nat.le_refl _)
  generalize hT1 : (T.setVm vm₁).pushCell { cls := cX, slots := kX.instanceTypes.map defaultValue, vm := .none } = T1 at X₁ st1
  have hcat : (Value.ref T.heap.size).category = 1 := rfl
  have hcellA : T1.heap[T.heap.size]? = some (freshCell cX kX) := by rw [← hT1]; exact State.heap_pushCell_size _ _
  have d3' : decode c.code (pc + 3) = .ok (.dup, 1) := by rw [hb]; exact d3
  have d4' : decode c.code (pc + 4) = .ok (.ldc_w is, 3) := by rw [hb]; exact d4
  have hstr' : vk_R own is text sa s' := vk_R.warm hW0 hstr
  obtain ⟨U, hsteps, hrun, hend, hW, hsame, ce, hce, hO⟩ := X₁.ctorThrowS hexec htr (own := own) (cls := cls) (names := names) (ic := ic) hown' hcls hnames h (fun x hx => nomatch hx) hfX hkX hcellA (by rw [hhp, hT]; exact Nat.le_refl _) (msg := .ref sa) rfl
    (g := { method := m, pc := pc + 7, locals := ls, stack := .ref sa :: .ref T.heap.size :: .ref T.heap.size :: rest, locked := none }) rfl hsize rfl rfl (rest := rest) rfl
    (by rw [hb]; exact d7) (by rw [hb]; exact d10) hout hRframes (by simp only [List.map_cons, List.sum_cons, hcat]; omega) hlocks
  obtain ⟨f1, f2⟩ := vx_frame hsame
  rw [hhp] at f1 f2
  have hWs : s.WarmedH U.vm := State.WarmedH.trans hW0 hW
  have hcl : s.vm.findClass cls = some ce.cls := by
    have h9 := hO.cls
    rw [hvm] at h9
    exact h9
  have hall : s.sameButNew ({ U with vm := s.vm } : State) locs mc ms := by
    subst hA
    obtain ⟨e1, e2⟩ := hsame
    rw [State.setFrames_setFrames] at e1
    have h2 : (T.setVm s.vm).sameButNew ({ U with vm := s.vm } : State) [] (0 + 1) (0 + 6) := ⟨e1, e2⟩
    have h3 := X.same.trans h2
    rw [List.append_nil] at h3
    exact h3.mono hc hs
  refine ⟨U, ?_, .threw T.heap.size, hrun, hend, Or.inr ⟨T.heap.size, rfl, cls, ce, locs, hx U hWs.alike f1 (fun q hq => f2 q hq (fun z hz => nomatch hz)), hce, hO.vm, hcl, hWs, hall, hf⟩⟩
  refine st1 _ ?_
  show Steps p.tables e below (T1.setTop { method := m, pc := pc + 3, locals := ls, stack := .ref T.heap.size :: rest, locked := none }) _
  jvm_step X₁.here [X₁.here.top, hexec, d3', Value.category]
  exact X₁.ldcStringW hexec (own := own) (text := text) (index := is) (a := sa) hown' hstr'.1 hstr'.2
    (g := { method := m, pc := pc + 4, locals := ls, stack := .ref T.heap.size :: .ref T.heap.size :: rest, locked := none }) rfl d4' _ hsteps
end Ends
section Bodies
variable {l : Launch}
theorem vx_ofW {y : MethodName} {ws ws' : List Cond} {rm : Room} {Pc : Array Value → State → Prop} {Qc : Array Value → State → Outcome → State → Prop} {XC : String → State → State → Prop} {mc ms : Nat} {free : Addr → Prop} {cc : ByteArray} {maxL : Nat} {ret : Option FieldType}
    (hy : plainName y.cls = true) (hw : ws = Cond.code y cc maxL ret :: ws')
    (body : ∀ p e s m args below meth c s₁, BodyLoose p l y (headSpec ws rm) cc maxL ret e s m args below meth c s₁ → c.maxLocals = maxL → (∀ x ∈ c.exceptionTable.toList, False) → Pc args s →
      W p l e (headSpec ws rm).room s m args below meth c s.heap [] 0 0 (vx_MQ below Qc XC args s mc ms free) (entryFrame m args maxL)) : vx_Met l y ws rm Pc Qc XC mc ms free := by
  refine MetFree.of_bodyS (code := cc) (maxLocals := maxL) (ret := ret) hy ?_ ?_
  · intro args s m h hn
    obtain ⟨meth, c, h1, h2, h3, h4, h5, h6, -, -⟩ := Cond.code_spec hn (atoms_spec (ws := ws) h _ (by rw [hw]; exact List.mem_cons_self))
    exact ⟨meth, c, h1, h2, h3, h4, h5, h6⟩
  · intro p e s m args below meth c s₁ B hml hP _
    have hh0 : s₁.heap = s.heap := by rw [B.state]; rfl
    have ht : ∀ x ∈ c.exceptionTable.toList, False := by
      obtain ⟨meth9, c9, h1, h2, -, -, -, -, h7, -⟩ := Cond.code_spec B.named (atoms_spec (ws := ws) B.pre _ (by rw [hw]; exact List.mem_cons_self))
      cases Option.some.inj (h1.symm.trans B.method)
      cases Option.some.inj (h2.symm.trans (Stand.of_body B).code)
      intro x hx
      rw [Array.isEmpty_iff.mp h7] at hx
      cases hx
    obtain ⟨t, a1, o, b1, b2, b3⟩ := body p e s m args below meth c s₁ B hml ht hP s₁ hh0 (Stand.of_body B)
    exact ⟨t, o, a1, b1, b2, b3⟩
/-- the table of a body with handlers -/
theorem vx_table {p : Program} {x y : MethodName} {S : Spec} {cc bytes : ByteArray} {maxL maxL' : Nat} {ret ret' : Option FieldType} {e : Env} {s s₁ : State} {m : MethodId} {args : Array Value} {below : List Frame} {meth : Method} {c : Code} {hh : List (Nat × Nat × Nat × Nat)}
    (B : BodyLoose p l y S cc maxL ret e s m args below meth c s₁) (h : (Cond.codeWith y bytes maxL' ret' hh).before args s = true) : c.exceptionTable.toList = tableOf hh := by
  obtain ⟨m9, meth9, c9, hn9, h1, h2, -, -, h6, -⟩ := Cond.codeWith_spec h
  cases Option.some.inj (hn9.symm.trans B.named)
  cases Option.some.inj (h1.symm.trans B.method)
  cases Option.some.inj (h2.symm.trans (Stand.of_body B).code)
  rw [← h6, table_eq]
end Bodies
end VXA
/-! ===== END ===== -/
/-! ===== BEGIN a static call of a method with an exception table ===== -/
section VXS
variable {p : Program} {l : Launch} {e : Env} {R : Room} {s : State} {m : MethodId} {args : Array Value} {below : List Frame} {meth : Method} {c : Code} {T : State} {H : Heap} {locs : List Loc} {cells slots : Nat}
abbrev vx_CSW (R : Room) (s : State) (args : Array Value) (own : String) (index : Nat) (y : MethodName) (bytes : ByteArray) (maxL : Nat) (ret : Option FieldType) (hh : List (Nat × Nat × Nat × Nat)) (ws : List Cond) (rm : Room) (mc ms n : Nat) : Prop :=
  (rm.cells = mc ∧ rm.slots = ms ∧ rm.frames + 1 ≤ R.frames ∧ 8 + (maxL + 11) + rm.locals ≤ R.locals ∧ (∀ w ∈ ws, ∀ (a' : Array Value) (U : State), s.WarmedH U.vm → w.before a' U = true) ∧ Cond.codeWith y bytes maxL ret hh ∈ ws) ∧
  (Cond.codeWith y bytes maxL ret hh).before args s = true ∧ (Cond.initialized y.cls).before args s = true ∧ (y.cls ≠ "java/lang/invoke/MethodHandle" ∧ y.cls ≠ "java/lang/invoke/VarHandle") ∧
  (∀ sig, parseMethodDescriptor y.desc = some sig → n = sig.parameters.length) ∧ (Cond.methodLink own index y).before args s = true ∧ (Cond.static y).before args s = true
theorem vx_cwSW {own : String} {index maxL mc ms : Nat} {y : MethodName} {bytes : ByteArray} {ret : Option FieldType} {hh : List (Nat × Nat × Nat × Nat)} {Ts ws ws' : List Cond} {rm : Room} (n : Nat) (ht : ∀ w ∈ Ts, w.before args s = true) (hT : GoodIn Ts (va_wsS own index y ws)) (hw : ws = Cond.codeWith y bytes maxL ret hh :: ws') (hrc : rm.cells = mc) (hrs : rm.slots = ms)
    (hd : y.cls ≠ "java/lang/invoke/MethodHandle" ∧ y.cls ≠ "java/lang/invoke/VarHandle" ∧ (parseMethodDescriptor y.desc).map (fun d => d.parameters.length) = some n) (hR : rm.frames + 1 ≤ R.frames ∧ 8 + (maxL + 11) + rm.locals ≤ R.locals) :
    vx_CSW R s args own index y bytes maxL ret hh ws rm mc ms n := by
  have ok : ∀ w ∈ va_wsS own index y ws, w.before args s = true := fun w h => ht w (hT w h).1
  have hG : GoodIn Ts ws := fun w h => hT w (by unfold va_wsS; exact List.mem_append_right _ h)
  have hc : Cond.codeWith y bytes maxL ret hh ∈ ws := by rw [hw]; exact List.mem_cons_self
  refine ⟨⟨hrc, hrs, hR.1, hR.2, pay_in ht hG, hc⟩, ht _ (hG _ hc).1, ok _ (by simp [va_wsS]), ⟨hd.1, hd.2.1⟩, fun sig h => ?_, ok _ (by simp [va_wsS]), ok _ (by simp [va_wsS])⟩
  have h2 := hd.2.2
  rw [h] at h2
  exact (Option.some.inj h2).symm
theorem vx_callSW (X : Stand p l e R s m args below meth c T locs cells slots) (hexec : p.tables.exec = Jvm.exec) {own : String} {index : Nat} {y : MethodName} {bytes : ByteArray} {maxL : Nat} {ret : Option FieldType} {hh : List (Nat × Nat × Nat × Nat)}
    (hown : s.vm.findClass own = some m.cls) (hlink : (Cond.methodLink own index y).before args s = true) (hstat : (Cond.static y).before args s = true) (hinit : (Cond.initialized y.cls).before args s = true)
    (hcode : (Cond.codeWith y bytes maxL ret hh).before args s = true) (hy : y.cls ≠ "java/lang/invoke/MethodHandle" ∧ y.cls ≠ "java/lang/invoke/VarHandle")
    {W9 : Nat} {Pre : Pt → Array Value → Prop} {Post : Pt → Array Value → Option Value → Pt → Prop} (hK : Back l R p e below s args y 3 W9 Pre Post)
    {g : JFrame} (hg : g.method = m) (hsize : g.locals.size = c.maxLocals) {argsL rest : List Value} (hlen : ∀ sig, parseMethodDescriptor y.desc = some sig → argsL.length = sig.parameters.length)
    (hstack : g.stack = argsL.reverse ++ rest) (hW : 2 * g.monitorRoom + (rest.map fun v => v.category).sum ≤ W9) (hdg : decode c.code g.pc = .ok (.invokestatic index, 3))
    (hpre : ∀ vm₁, s.WarmedH vm₁ → Pre ⟨T.setVm vm₁, locs, cells, slots⟩ argsL.toArray) :
    ∃ (v : Option Value) (vm₁ : Vm) (B : Pt), s.WarmedH vm₁ ∧ Stand p l e R s m args below meth c B.U B.locs B.cells B.slots ∧ Post ⟨T.setVm vm₁, locs, cells, slots⟩ argsL.toArray v B ∧
      ∀ target, Steps p.tables e below (B.U.setTop { g with pc := g.pc + 3, stack := v.toList ++ rest }) target → Steps p.tables e below (T.setTop g) target := by
  obtain ⟨mk, methM, cM, hnamed, hmethM, -, -, -, -, -, -, hsigM⟩ := Cond.codeWith_spec hcode
  have hstatic : methM.isStatic = true := Cond.static_spec hnamed hmethM hstat
  obtain ⟨kP, hkP, -⟩ := className_of_methodNamed hnamed
  have hinitP : kP.init = .initialized := Cond.initialized_spec (findClass_of_methodNamed hnamed) hkP hinit
  obtain ⟨vm₁, X₁, hstep₁⟩ := X.invokestatic hexec hown hlink hnamed hmethM hstatic hkP hinitP hy (g := g) hg (argsL := argsL) (rest := rest) (hlen _ hsigM) hstack hdg
  obtain ⟨v, B, X', hpost, hsteps⟩ := hK m meth c ⟨T.setVm vm₁, locs, cells, slots⟩ { g with stack := rest } (.invokestatic index) mk argsL.toArray X₁ hg hsize hdg hW (X₁.named hnamed) (hpre vm₁ X₁.warmed)
  exact ⟨v, vm₁, B, X₁.warmed, X', hpost, fun target h => hstep₁ _ fun acts => by rw [doInvoke_state]; exact hsteps.trans h⟩
theorem vx_runSW {y : MethodName} {bytes cc : ByteArray} {maxL nL mc ms n index : Nat} {ret : Option FieldType} {hh : List (Nat × Nat × Nat × Nat)} {ws : List Cond} {rm : Room} {Pc : Array Value → State → Prop} {Qc : Array Value → State → Outcome → State → Prop} {free : Addr → Prop} {Ts : List Cond} {own : String} {As rest : List Value} {g : JFrame}
    (S : CallFix p m c cc nL s args Ts own) (hM : Met l y ws rm Pc Qc mc ms free) (cw : vx_CSW R s args own index y bytes maxL ret hh ws rm mc ms n) (hp : PreS s H Pc As)
    (hg : g.method = m) (hn : As.length = n) (hsize : g.locals.size = nL) (hstack : g.stack = As.reverse ++ rest) (hW : 2 * g.monitorRoom + (rest.map fun v => v.category).sum ≤ 8) (hdg : decode cc g.pc = .ok (.invokestatic index, 3)) (hf : cells + mc ≤ R.cells ∧ slots + ms ≤ R.slots) :
    va_Run p l e R s m args below meth c H locs cells slots mc ms g rest (Qc As.toArray) (free) := by
  obtain ⟨⟨hrc, hrs, hfr, hlo, hws, hcw⟩, hcode, hini, hy, hlen, hl, hstt⟩ := cw
  have hK : Back l R p e below s args y 3 8 (PreOf R mc ms Pc) (PostOf Qc mc ms free) := va_backW (hh := hh) (bytes := bytes) (maxL := maxL) (ret := ret) hM hp.1 hrc hrs hfr hlo hws hcw (fun a' U hW => word_at hW (Or.inl (by first | rfl | simp [Cond.onTables, Cond.keeps, Cond.steady])) hini)
  obtain ⟨hx, hb, hml, ho, -⟩ := S
  intro T hT X
  obtain ⟨v, vm₁, ⟨U', l2, c2, s2⟩, hW₁, X', ⟨g', mk, t, L, e1, e2, hq, h1, hL, h2, h3⟩, st⟩ := vx_callSW X hx (hh := hh) (bytes := bytes) (maxL := maxL) (ret := ret) ho hl hstt hini hcode hy hK hg (hsize.trans hml.symm) (argsL := As) (rest := rest) (fun sig h => hn.trans (hlen sig h)) hstack hW (by rw [hb]; exact hdg)
    (fun vm₁ hW₁ => ⟨hf.1, hf.2, hp.2 (T.setVm vm₁) hT hW₁⟩)
  dsimp only [Pt.U, Pt.locs, Pt.cells, Pt.slots] at X' e1 e2 h1 h2 h3 st
  subst h1; subst h2; subst h3
  exact ⟨v, (T.setVm vm₁).calling g' mk As.toArray, t, U', L, hT, X', hL, e1, e2, hq, st⟩
/-- not caught here, past rows that name other classes: it goes on to the caller -/
theorem vx_outP {p : Program} {l : Launch} {e : Env} {R : Room} {s : State} {m : MethodId} {args : Array Value} {below : List Frame} {meth : Method} {c : Code} {H : Heap} {locs : List Loc} {cells slots : Nat} {free : Addr → Prop} {ls : Array Slot} {rest : List Value} {Qc : Array Value → State → Outcome → State → Prop} {XC : String → State → State → Prop}
    {pc : Nat} {own E : String} {ce : Cell} {q : Addr} {mc ms : Nat} (hown : s.vm.findClass own = some m.cls) (hlocks : meth.locks = false)
    (hpass : ∀ z ∈ c.exceptionTable.toList, covers z pc = false ∨ (z.catchType ≠ 0 ∧ ∃ nm : String, (Cond.classLink own z.catchType nm).before args s = true ∧ va_Nc E nm s)) (hcell : H[q]? = some ce) (hv : ce.vm = .none) (hcl : s.vm.findClass E = some ce.cls)
    (hx : ∀ t : State, t.heap = H → s.vm.Alike t.vm → XC E s t) (hf : ∀ z ∈ locs, free z.base) (hc : cells ≤ mc) (hs : slots ≤ ms) :
    vx_W p l e R s m args below meth c H locs cells slots (vx_MQ below Qc XC args s mc ms free) (F0 m pc ls rest) q := by
  intro T hT X
  have hpl : e.platform.magicAccessors = ({} : Platform).magicAccessors := by rw [X.admits.platform]
  obtain ⟨vm', hW', X', st⟩ := X.outThrough hlocks q (g := F0 m pc ls rest) rfl rfl rfl (cell := ce) (by rw [hT]; exact hcell) (by rw [hv]; rfl)
    (by obtain ⟨k9, h9, -⟩ := Vm.findClass_spec hcl; exact ⟨k9, h9⟩) (fun z hz => by
      rcases hpass z hz with h | ⟨hz0, nm, hl1, hn1⟩
      · exact Or.inl h
      · obtain ⟨c6, hc6, hcl6⟩ := Cond.classLink_spec hown hl1 e.platform hpl
        obtain ⟨a8, b8, h1, h2, h3⟩ := hn1
        cases Option.some.inj (h1.symm.trans hcl)
        cases Option.some.inj (h2.symm.trans hc6)
        exact Or.inr ⟨hz0, _, hcl6, h3⟩)
  obtain ⟨g₀, hfr⟩ := X'.frames_eq
  have hcell9 : ((T.setVm vm').setFrames (.throwing q :: below)).heap[q]? = some ce := by
    show T.heap[q]? = some ce
    rw [hT]; exact hcell
  have hend : Ended ((T.setVm vm').setFrames (.throwing q :: below)) below (.threw q) := State.frames_setFrames _ (State.cur_lt_of_frames hfr)
  refine ⟨(T.setVm vm').setFrames (.throwing q :: below), ?_, .threw q, X'.here.running, hend, Or.inr ⟨q, rfl, E, ce, locs, hx _ hT (X'.ends _).1.alike, hcell9, hv, hcl, (X'.ends _).1, (X'.ends _).2.mono hc hs, hf⟩⟩
  rw [X.pushThrowing_eq]
  exact st
/-- a thing of a world lies in the heap -/
theorem vx_lt {D : va_G} {cl : List vw_C} {ws : va_W} {H1 : Heap} (h : va_P D cl ws H1) {k : Nat} {q : Nat × va_E} (hk : ws[k]? = some q) : q.1 < H1.size := (h k q hk).lt
end VXS
/-! ===== END ===== -/
/-! ===== BEGIN methods with a table of their own: called by a name, returning or throwing ===== -/
section VXH
/-! vx_backW, vx_callVX, vx_callSX, vx_callVW, vx_runVW, vx_runVX, vx_runSX, vx_ofWH follow the same proofs as their sisters above (Free/Laws.lean, Shelf42/LK1.lean); vx_outP calls Shelf42/NT130.lean (outThrough). -/
section
variable {l : Launch} {R : Room} {p : Program} {e : Env} {below : List Frame} {s : State} {sargs : Array Value} {y : MethodName} {len W9 : Nat}
theorem vx_backW {ws : List Cond} {rm : Room} {Pc : Array Value → State → Prop} {Qc : Array Value → State → Outcome → State → Prop} {XC : String → State → State → Prop} {mc ms : Nat} {free : Addr → Prop} {bytes : ByteArray} {maxL : Nat} {ret : Option FieldType} {hh : List (Nat × Nat × Nat × Nat)}
    (hM : vx_Met l y ws rm Pc Qc XC mc ms free) (hblind : FrameBlind Pc) (hrc : rm.cells = mc) (hrs : rm.slots = ms)
    (hframes : rm.frames + 1 ≤ R.frames) (hlocals : W9 + (maxL + 11) + rm.locals ≤ R.locals)
    (hws : ∀ w ∈ ws, ∀ a' U, s.WarmedH U.vm → w.before a' U = true) (hcode : Cond.codeWith y bytes maxL ret hh ∈ ws) (hinit : ∀ a' U, s.WarmedH U.vm → (Cond.initialized y.cls).before a' U = true) :
    vx_Back l R p e below s sargs y len W9 (PreOf R mc ms Pc) (PostOf Qc mc ms free) (vx_Post XC mc ms free) := by
  intro m meth c A g ig mk a X hg hsize hdg hW hn hp
  have h1 : (headSpec ws rm).pre.before a A.U = true := atoms_intro fun w hw => hws w hw _ _ X.warmed
  have h2 : (Cond.codeWith y bytes maxL ret hh).before a A.U = true := hws _ hcode _ _ X.warmed
  have h3 : (Cond.initialized y.cls).before a A.U = true := hinit _ _ X.warmed
  have h4 : A.cells + (headSpec ws rm).room.cells ≤ R.cells := by rw [show (headSpec ws rm).room.cells = mc from hrc]; exact hp.1
  have h5 : A.slots + (headSpec ws rm).room.slots ≤ R.slots := by rw [show (headSpec ws rm).room.slots = ms from hrs]; exact hp.2.1
  have hPc : Pc a (A.U.calling g mk a) := hblind _ _ _ _ hp.2.2
  obtain ⟨U, Ls, c0, s0⟩ := A
  dsimp only [Pt.U, Pt.locs, Pt.cells, Pt.slots] at h1 h2 h3 h4 h5 X hn hPc ⊢
  obtain ⟨m9, methY, cY, hn9, hmY, hcY, -, hlY, -⟩ := Cond.codeWith_spec h2
  cases Option.some.inj (hn9.symm.trans hn)
  obtain ⟨kY, hkY, -⟩ := className_of_methodNamed hn
  have hinitY : kY.init = .initialized := Cond.initialized_spec (findClass_of_methodNamed hn) hkY h3
  have h : At U g.method c below := by rw [hg]; exact X.here
  have hlocals9 : W9 + (maxL + 11) + (headSpec ws rm).room.locals ≤ R.locals := hlocals
  have happ : (headSpec ws rm).appliesLoose y e.platform (U.calling g mk a) = true :=
    Spec.appliesLoose_calling (g := g) h hdg hn hkY hinitY
      (X.room_calling (g := g) (R' := (headSpec ws rm).room) hsize hmY hcY hframes (by rw [hlY]; omega) h4 h5) h1
  obtain ⟨mid, hmid⟩ := h.above
  have hfr : (U.setTop g).frames = (.java g :: mid) ++ below := by rw [State.frames_setTop' g h.top, hmid]; rfl
  obtain ⟨o, s₂, hsteps, -, hend, hq⟩ := Steps.callFree hM p X.admits X.cas X.clock (acts := []) hfr happ hPc trivial
  have hq' : vx_Q Qc XC mc ms free a (U.calling g mk a) o s₂ := hq
  rw [State.frames_setTop' g h.top] at hend
  obtain ⟨g₀, hg0⟩ := Option.isSome_iff_exists.mp h.top
  obtain ⟨r, hr⟩ := State.topJava?_eq_some.mp hg0
  have hr' : (({ U with heap := s₂.heap, slotsUsed := s₂.slotsUsed } : State).setVm s₂.vm).frames = .java g₀ :: r := hr
  rcases hq' with ⟨hqc, L, hfe, hL⟩ | ⟨q, rfl, E, ce, L, hx, hce, hcv, hcl, hW₂, hsm, hL⟩
  · obtain ⟨⟨v, rfl⟩, hW₂, e2, q2, q3, q4, q5, q6⟩ := id hfe
    have e3 : s₂ = ({ (U.calling g mk a).setFrames s₂.frames with heap := s₂.heap, slotsUsed := s₂.slotsUsed } : State).setVm s₂.vm := by
      have : s₂ = ({ s₂ with vm := (U.calling g mk a).vm } : State).setVm s₂.vm := rfl
      rw [e2] at this
      exact this
    obtain ⟨c₂, i₂, len₂, hc₂, hd₂, hf₂⟩ := hend
    have hW' : U.WarmedH s₂.vm := hW₂
    have hcc : c₂ = c := by
      have h1 : s₂.code? g.method = U.code? g.method := by
        rw [State.code?_eq, State.code?_eq, hW'.alike.method?]
      exact Option.some.inj (hc₂.symm.trans (h1.trans h.code))
    subst hcc
    have hlen : len₂ = len := by rw [hdg] at hd₂; cases hd₂; rfl
    subst hlen
    have hs₂ : s₂ = (({ U with heap := s₂.heap, slotsUsed := s₂.slotsUsed } : State).setVm s₂.vm).setTop { g with pc := g.pc + len₂, stack := v.toList ++ g.stack } := by
      refine e3.trans ?_
      rw [hf₂, State.calling_eq h.top, State.setFrames_setFrames, State.setTop_of_frames _ hr', hr]
      rfl
    have hsame : U.sameButNew ({ U with heap := s₂.heap, slotsUsed := s₂.slotsUsed } : State) L mc ms := by
      refine ⟨?_, q2, q3, q4, q5, q6⟩
      obtain ⟨t, ht, -⟩ := State.frames_cons hr
      show ({ U with heap := s₂.heap, slotsUsed := s₂.slotsUsed } : State) = { U.setFrames U.frames with heap := s₂.heap, slotsUsed := s₂.slotsUsed }
      rw [State.setFrames_self ht]
    subst hg
    refine Or.inl ⟨v, ⟨(({ U with heap := s₂.heap, slotsUsed := s₂.slotsUsed } : State).setVm s₂.vm), Ls ++ L, c0 + mc, s0 + ms⟩,
      ⟨X.admits, X.cas, X.clock, X.frames, X.room, X.hears, X.method, X.code, (X.here.setHeapUsed s₂.heap s₂.slotsUsed).setVm hW'.alike, X.tail, State.WarmedH.trans X.warmed hW', X.limits, X.bytes, X.same.trans (hsame.setVm s.vm)⟩,
      ⟨g, mk, s₂, L, rfl, rfl, hqc, rfl, hL, rfl, rfl⟩, ?_⟩
    show Steps p.tables e below _ ((({ U with heap := s₂.heap, slotsUsed := s₂.slotsUsed } : State).setVm s₂.vm).setTop { g with pc := g.pc + len₂, stack := v.toList ++ g.stack })
    rw [← hs₂]
    exact hsteps
  · obtain ⟨e2, q2, q3, q4, q5, q6⟩ := id hsm
    have e3 : s₂ = ({ (U.calling g mk a).setFrames s₂.frames with heap := s₂.heap, slotsUsed := s₂.slotsUsed } : State).setVm s₂.vm := by
      have : s₂ = ({ s₂ with vm := (U.calling g mk a).vm } : State).setVm s₂.vm := rfl
      rw [e2] at this
      exact this
    have hf₂ : s₂.frames = .throwing q :: .java g :: U.frames.tail := hend
    have hW' : U.WarmedH s₂.vm := hW₂
    have hs₂ : s₂ = ((({ U with heap := s₂.heap, slotsUsed := s₂.slotsUsed } : State).setVm s₂.vm).setTop g).pushFrame (.throwing q) := by
      refine e3.trans ?_
      rw [hf₂, State.calling_eq h.top, State.setFrames_setFrames, State.pushFrame, State.frames_setTop _ hr', State.setTop_of_frames _ hr', State.setFrames_setFrames, hr]
      rfl
    have hsame : U.sameButNew ({ U with heap := s₂.heap, slotsUsed := s₂.slotsUsed } : State) L mc ms := by
      refine ⟨?_, q2, q3, q4, q5, q6⟩
      obtain ⟨t, ht, -⟩ := State.frames_cons hr
      show ({ U with heap := s₂.heap, slotsUsed := s₂.slotsUsed } : State) = { U.setFrames U.frames with heap := s₂.heap, slotsUsed := s₂.slotsUsed }
      rw [State.setFrames_self ht]
    subst hg
    refine Or.inr ⟨q, ⟨(({ U with heap := s₂.heap, slotsUsed := s₂.slotsUsed } : State).setVm s₂.vm), Ls ++ L, c0 + mc, s0 + ms⟩,
      ⟨X.admits, X.cas, X.clock, X.frames, X.room, X.hears, X.method, X.code, (X.here.setHeapUsed s₂.heap s₂.slotsUsed).setVm hW'.alike, X.tail, State.WarmedH.trans X.warmed hW', X.limits, X.bytes, X.same.trans (hsame.setVm s.vm)⟩,
      ⟨g, mk, s₂, L, E, ce, rfl, rfl, hx, hce, hcv, hcl, rfl, hL, rfl, rfl⟩, ?_⟩
    show Steps p.tables e below _ (((({ U with heap := s₂.heap, slotsUsed := s₂.slotsUsed } : State).setVm s₂.vm).setTop g).pushFrame (.throwing q))
    rw [← hs₂]
    exact hsteps
end
variable {p : Program} {l : Launch} {e : Env} {R : Room} {s : State} {m : MethodId} {args : Array Value} {below : List Frame} {meth : Method} {c : Code} {T : State} {H : Heap} {locs : List Loc} {cells slots : Nat}
theorem vx_callVX (X : Stand p l e R s m args below meth c T locs cells slots) (hexec : p.tables.exec = Jvm.exec) {own C : String} {index : Nat} {y : MethodName} {bytes : ByteArray} {maxL : Nat} {ret : Option FieldType} {hh : List (Nat × Nat × Nat × Nat)}
    (hown : s.vm.findClass own = some m.cls) (hlink : (Cond.methodLink own index y).before args s = true) (hinst : (Cond.instanceMethod y).before args s = true) (hsel : (Cond.selects C y y).before args s = true)
    (hcode : (Cond.codeWith y bytes maxL ret hh).before args s = true) (hy : y.cls ≠ "java/lang/invoke/MethodHandle" ∧ y.cls ≠ "java/lang/invoke/VarHandle")
    {W9 : Nat} {Pre : Pt → Array Value → Prop} {Post : Pt → Array Value → Option Value → Pt → Prop} {PostX : Pt → Array Value → Addr → Pt → Prop} (hK : vx_Back l R p e below s args y 3 W9 Pre Post PostX)
    {b : Addr} {cellB : Cell} (hcell : T.heap[b]? = some cellB) (hobj : cellB.vm.isStatics = false) (hcls : s.vm.findClass C = some cellB.cls)
    {g : JFrame} (hg : g.method = m) (hsize : g.locals.size = c.maxLocals) {argsL rest : List Value} (hlen : ∀ sig, parseMethodDescriptor y.desc = some sig → argsL.length = sig.parameters.length)
    (hstack : g.stack = argsL.reverse ++ .ref b :: rest) (hW : 2 * g.monitorRoom + (rest.map fun v => v.category).sum ≤ W9) (hdg : decode c.code g.pc = .ok (.invokevirtual index, 3))
    (hpre : ∀ vm₁, s.WarmedH vm₁ → Pre ⟨T.setVm vm₁, locs, cells, slots⟩ (Value.ref b :: argsL).toArray) :
    (∃ (v : Option Value) (vm₁ : Vm) (B : Pt), s.WarmedH vm₁ ∧ Stand p l e R s m args below meth c B.U B.locs B.cells B.slots ∧ Post ⟨T.setVm vm₁, locs, cells, slots⟩ (Value.ref b :: argsL).toArray v B ∧
      ∀ target, Steps p.tables e below (B.U.setTop { g with pc := g.pc + 3, stack := v.toList ++ rest }) target → Steps p.tables e below (T.setTop g) target) ∨
    (∃ (q : Addr) (vm₁ : Vm) (B : Pt), s.WarmedH vm₁ ∧ Stand p l e R s m args below meth c B.U B.locs B.cells B.slots ∧ PostX ⟨T.setVm vm₁, locs, cells, slots⟩ (Value.ref b :: argsL).toArray q B ∧
      Steps p.tables e below (T.setTop g) ((B.U.setTop { g with stack := rest }).pushFrame (.throwing q))) := by
  obtain ⟨mk, methM, hnamed, hmethM, hstM, habM⟩ := Cond.instanceMethod_spec hinst
  obtain ⟨m8, methM', cM, hn8, hmethM', -, -, -, -, -, -, hsigM⟩ := Cond.codeWith_spec hcode
  cases Option.some.inj (hn8.symm.trans hnamed)
  cases hmethM.symm.trans hmethM'
  obtain ⟨c2, r2, m2, q1, q2, q3, q4, kP, hkP, hkPi⟩ := Cond.selects_spec hsel
  cases hcls.symm.trans q1
  cases (State.methodFound?_of_named hnamed hy).symm.trans q2
  cases hnamed.symm.trans q3
  have hselP : selectMethod e.platform s.vm cellB.cls mk = .method mk := by rw [Launch.admits_selectMethod X.admits]; exact q4
  obtain ⟨vm₁, X₁, hstep₁⟩ := X.invokevirtual hexec hown hlink hnamed hmethM hstM hkP hkPi hy (a := b) (cell := cellB) hcell
    (fun z h => by rw [h] at hobj; cases hobj) hselP hmethM habM hkP hkPi (g := g) hg (argsL := argsL) (rest := rest) (hlen _ hsigM) hstack hdg
  rcases hK m meth c ⟨T.setVm vm₁, locs, cells, slots⟩ { g with stack := rest } (.invokevirtual index) mk (Value.ref b :: argsL).toArray X₁ hg hsize hdg hW (X₁.named hnamed) (hpre vm₁ X₁.warmed) with ⟨v, B, X', hpost, hsteps⟩ | ⟨q, B, X', hpost, hsteps⟩
  · exact Or.inl ⟨v, vm₁, B, X₁.warmed, X', hpost, fun target h => hstep₁ _ fun acts => by rw [doInvoke_state]; exact hsteps.trans h⟩
  · exact Or.inr ⟨q, vm₁, B, X₁.warmed, X', hpost, hstep₁ _ fun acts => by rw [doInvoke_state]; exact hsteps⟩
theorem vx_callSX (X : Stand p l e R s m args below meth c T locs cells slots) (hexec : p.tables.exec = Jvm.exec) {own : String} {index : Nat} {y : MethodName} {bytes : ByteArray} {maxL : Nat} {ret : Option FieldType} {hh : List (Nat × Nat × Nat × Nat)}
    (hown : s.vm.findClass own = some m.cls) (hlink : (Cond.methodLink own index y).before args s = true) (hstat : (Cond.static y).before args s = true) (hinit : (Cond.initialized y.cls).before args s = true)
    (hcode : (Cond.codeWith y bytes maxL ret hh).before args s = true) (hy : y.cls ≠ "java/lang/invoke/MethodHandle" ∧ y.cls ≠ "java/lang/invoke/VarHandle")
    {W9 : Nat} {Pre : Pt → Array Value → Prop} {Post : Pt → Array Value → Option Value → Pt → Prop} {PostX : Pt → Array Value → Addr → Pt → Prop} (hK : vx_Back l R p e below s args y 3 W9 Pre Post PostX)
    {g : JFrame} (hg : g.method = m) (hsize : g.locals.size = c.maxLocals) {argsL rest : List Value} (hlen : ∀ sig, parseMethodDescriptor y.desc = some sig → argsL.length = sig.parameters.length)
    (hstack : g.stack = argsL.reverse ++ rest) (hW : 2 * g.monitorRoom + (rest.map fun v => v.category).sum ≤ W9) (hdg : decode c.code g.pc = .ok (.invokestatic index, 3))
    (hpre : ∀ vm₁, s.WarmedH vm₁ → Pre ⟨T.setVm vm₁, locs, cells, slots⟩ argsL.toArray) :
    (∃ (v : Option Value) (vm₁ : Vm) (B : Pt), s.WarmedH vm₁ ∧ Stand p l e R s m args below meth c B.U B.locs B.cells B.slots ∧ Post ⟨T.setVm vm₁, locs, cells, slots⟩ argsL.toArray v B ∧
      ∀ target, Steps p.tables e below (B.U.setTop { g with pc := g.pc + 3, stack := v.toList ++ rest }) target → Steps p.tables e below (T.setTop g) target) ∨
    (∃ (q : Addr) (vm₁ : Vm) (B : Pt), s.WarmedH vm₁ ∧ Stand p l e R s m args below meth c B.U B.locs B.cells B.slots ∧ PostX ⟨T.setVm vm₁, locs, cells, slots⟩ argsL.toArray q B ∧
      Steps p.tables e below (T.setTop g) ((B.U.setTop { g with stack := rest }).pushFrame (.throwing q))) := by
  obtain ⟨mk, methM, cM, hnamed, hmethM, -, -, -, -, -, -, hsigM⟩ := Cond.codeWith_spec hcode
  have hstatic : methM.isStatic = true := Cond.static_spec hnamed hmethM hstat
  obtain ⟨kP, hkP, -⟩ := className_of_methodNamed hnamed
  have hinitP : kP.init = .initialized := Cond.initialized_spec (findClass_of_methodNamed hnamed) hkP hinit
  obtain ⟨vm₁, X₁, hstep₁⟩ := X.invokestatic hexec hown hlink hnamed hmethM hstatic hkP hinitP hy (g := g) hg (argsL := argsL) (rest := rest) (hlen _ hsigM) hstack hdg
  rcases hK m meth c ⟨T.setVm vm₁, locs, cells, slots⟩ { g with stack := rest } (.invokestatic index) mk argsL.toArray X₁ hg hsize hdg hW (X₁.named hnamed) (hpre vm₁ X₁.warmed) with ⟨v, B, X', hpost, hsteps⟩ | ⟨q, B, X', hpost, hsteps⟩
  · exact Or.inl ⟨v, vm₁, B, X₁.warmed, X', hpost, fun target h => hstep₁ _ fun acts => by rw [doInvoke_state]; exact hsteps.trans h⟩
  · exact Or.inr ⟨q, vm₁, B, X₁.warmed, X', hpost, hstep₁ _ fun acts => by rw [doInvoke_state]; exact hsteps⟩
theorem vx_callVW (X : Stand p l e R s m args below meth c T locs cells slots) (hexec : p.tables.exec = Jvm.exec) {own C : String} {index : Nat} {y : MethodName} {bytes : ByteArray} {maxL : Nat} {ret : Option FieldType} {hh : List (Nat × Nat × Nat × Nat)}
    (hown : s.vm.findClass own = some m.cls) (hlink : (Cond.methodLink own index y).before args s = true) (hinst : (Cond.instanceMethod y).before args s = true) (hsel : (Cond.selects C y y).before args s = true)
    (hcode : (Cond.codeWith y bytes maxL ret hh).before args s = true) (hy : y.cls ≠ "java/lang/invoke/MethodHandle" ∧ y.cls ≠ "java/lang/invoke/VarHandle")
    {W9 : Nat} {Pre : Pt → Array Value → Prop} {Post : Pt → Array Value → Option Value → Pt → Prop} (hK : Back l R p e below s args y 3 W9 Pre Post)
    {b : Addr} {cellB : Cell} (hcell : T.heap[b]? = some cellB) (hobj : cellB.vm.isStatics = false) (hcls : s.vm.findClass C = some cellB.cls)
    {g : JFrame} (hg : g.method = m) (hsize : g.locals.size = c.maxLocals) {argsL rest : List Value} (hlen : ∀ sig, parseMethodDescriptor y.desc = some sig → argsL.length = sig.parameters.length)
    (hstack : g.stack = argsL.reverse ++ .ref b :: rest) (hW : 2 * g.monitorRoom + (rest.map fun v => v.category).sum ≤ W9) (hdg : decode c.code g.pc = .ok (.invokevirtual index, 3))
    (hpre : ∀ vm₁, s.WarmedH vm₁ → Pre ⟨T.setVm vm₁, locs, cells, slots⟩ (Value.ref b :: argsL).toArray) :
    ∃ (v : Option Value) (vm₁ : Vm) (B : Pt), s.WarmedH vm₁ ∧ Stand p l e R s m args below meth c B.U B.locs B.cells B.slots ∧ Post ⟨T.setVm vm₁, locs, cells, slots⟩ (Value.ref b :: argsL).toArray v B ∧
      ∀ target, Steps p.tables e below (B.U.setTop { g with pc := g.pc + 3, stack := v.toList ++ rest }) target → Steps p.tables e below (T.setTop g) target := by
  obtain ⟨mk, methM, hnamed, hmethM, hstM, habM⟩ := Cond.instanceMethod_spec hinst
  obtain ⟨m8, methM', cM, hn8, hmethM', -, -, -, -, -, -, hsigM⟩ := Cond.codeWith_spec hcode
  cases Option.some.inj (hn8.symm.trans hnamed)
  cases hmethM.symm.trans hmethM'
  obtain ⟨c2, r2, m2, q1, q2, q3, q4, kP, hkP, hkPi⟩ := Cond.selects_spec hsel
  cases hcls.symm.trans q1
  cases (State.methodFound?_of_named hnamed hy).symm.trans q2
  cases hnamed.symm.trans q3
  have hselP : selectMethod e.platform s.vm cellB.cls mk = .method mk := by rw [Launch.admits_selectMethod X.admits]; exact q4
  obtain ⟨vm₁, X₁, hstep₁⟩ := X.invokevirtual hexec hown hlink hnamed hmethM hstM hkP hkPi hy (a := b) (cell := cellB) hcell
    (fun z h => by rw [h] at hobj; cases hobj) hselP hmethM habM hkP hkPi (g := g) hg (argsL := argsL) (rest := rest) (hlen _ hsigM) hstack hdg
  obtain ⟨v, B, X', hpost, hsteps⟩ := hK m meth c ⟨T.setVm vm₁, locs, cells, slots⟩ { g with stack := rest } (.invokevirtual index) mk (Value.ref b :: argsL).toArray X₁ hg hsize hdg hW (X₁.named hnamed) (hpre vm₁ X₁.warmed)
  exact ⟨v, vm₁, B, X₁.warmed, X', hpost, fun target h => hstep₁ _ fun acts => by rw [doInvoke_state]; exact hsteps.trans h⟩
abbrev vx_CVW (R : Room) (s : State) (args : Array Value) (own C : String) (index : Nat) (y : MethodName) (bytes : ByteArray) (maxL : Nat) (ret : Option FieldType) (hh : List (Nat × Nat × Nat × Nat)) (ws : List Cond) (rm : Room) (mc ms n : Nat) : Prop :=
  (rm.cells = mc ∧ rm.slots = ms ∧ rm.frames + 1 ≤ R.frames ∧ 8 + (maxL + 11) + rm.locals ≤ R.locals ∧ (∀ w ∈ ws, ∀ (a' : Array Value) (U : State), s.WarmedH U.vm → w.before a' U = true) ∧ Cond.codeWith y bytes maxL ret hh ∈ ws) ∧
  (Cond.codeWith y bytes maxL ret hh).before args s = true ∧ (Cond.initialized y.cls).before args s = true ∧ (y.cls ≠ "java/lang/invoke/MethodHandle" ∧ y.cls ≠ "java/lang/invoke/VarHandle") ∧
  (∀ sig, parseMethodDescriptor y.desc = some sig → n = sig.parameters.length) ∧ (Cond.methodLink own index y).before args s = true ∧ (Cond.instanceMethod y).before args s = true ∧ (Cond.selects C y y).before args s = true
theorem vx_cwVW {own C : String} {index maxL mc ms : Nat} {y : MethodName} {bytes : ByteArray} {ret : Option FieldType} {hh : List (Nat × Nat × Nat × Nat)} {Ts ws ws' : List Cond} {rm : Room} (n : Nat) (ht : ∀ w ∈ Ts, w.before args s = true) (hT : GoodIn Ts (wsV own index C y ws)) (hw : ws = Cond.codeWith y bytes maxL ret hh :: ws') (hrc : rm.cells = mc) (hrs : rm.slots = ms)
    (hd : y.cls = C ∧ y.cls ≠ "java/lang/invoke/MethodHandle" ∧ y.cls ≠ "java/lang/invoke/VarHandle" ∧ (parseMethodDescriptor y.desc).map (fun d => d.parameters.length) = some n) (hR : rm.frames + 1 ≤ R.frames ∧ 8 + (maxL + 11) + rm.locals ≤ R.locals) :
    vx_CVW R s args own C index y bytes maxL ret hh ws rm mc ms n := by
  obtain ⟨hC, hd⟩ := hd
  subst hC
  have ok : ∀ w ∈ wsV own index y.cls y ws, w.before args s = true := fun w h => ht w (hT w h).1
  have hG : GoodIn Ts ws := fun w h => hT w (by unfold wsV; exact List.mem_append_right _ h)
  have hc : Cond.codeWith y bytes maxL ret hh ∈ ws := by rw [hw]; exact List.mem_cons_self
  refine ⟨⟨hrc, hrs, hR.1, hR.2, pay_in ht hG, hc⟩, ht _ (hG _ hc).1, ok _ (by simp [wsV]), ⟨hd.1, hd.2.1⟩, fun sig h => ?_, ok _ (by simp [wsV]), ok _ (by simp [wsV]), ok _ (by simp [wsV])⟩
  have h2 := hd.2.2
  rw [h] at h2
  exact (Option.some.inj h2).symm
theorem vx_runVW {y : MethodName} {bytes cc : ByteArray} {maxL nL mc ms n index : Nat} {ret : Option FieldType} {hh : List (Nat × Nat × Nat × Nat)} {ws : List Cond} {rm : Room} {Pc : Array Value → State → Prop} {Qc : Array Value → State → Outcome → State → Prop} {free : Addr → Prop} {Ts : List Cond} {own C : String} {b : Addr} {As rest : List Value} {g : JFrame}
    (S : CallFix p m c cc nL s args Ts own) (hM : Met l y ws rm Pc Qc mc ms free) (cw : vx_CVW R s args own C index y bytes maxL ret hh ws rm mc ms n) (hp : PreV s H C b Pc As)
    (hg : g.method = m) (hn : As.length = n) (hsize : g.locals.size = nL) (hstack : g.stack = As.reverse ++ .ref b :: rest) (hW : 2 * g.monitorRoom + (rest.map fun v => v.category).sum ≤ 8) (hdg : decode cc g.pc = .ok (.invokevirtual index, 3)) (hf : cells + mc ≤ R.cells ∧ slots + ms ≤ R.slots) :
    va_Run p l e R s m args below meth c H locs cells slots mc ms g rest (Qc (Value.ref b :: As).toArray) free := by
  obtain ⟨⟨hrc, hrs, hfr, hlo, hws, hcw⟩, hcode, hini, hy, hlen, hl, hin, hse⟩ := cw
  have hK : Back l R p e below s args y 3 8 (PreOf R mc ms Pc) (PostOf Qc mc ms free) := va_backW (hh := hh) (bytes := bytes) (maxL := maxL) (ret := ret) hM hp.1 hrc hrs hfr hlo hws hcw (fun a' U hW => word_at hW (Or.inl (by first | rfl | simp [Cond.onTables, Cond.keeps, Cond.steady])) hini)
  obtain ⟨hx, hb, hml, ho, -⟩ := S
  obtain ⟨-, ⟨cellB, hcB, hoB, hclB⟩, hPc⟩ := hp
  intro T hT X
  obtain ⟨v, vm₁, ⟨U', l2, c2, s2⟩, hW₁, X', ⟨g', mk, t, L, e1, e2, hq, h1, hL, h2, h3⟩, st⟩ := vx_callVW X hx (C := C) (hh := hh) (bytes := bytes) (maxL := maxL) (ret := ret) ho hl hin hse hcode hy hK (by rw [hT]; exact hcB) hoB hclB hg (hsize.trans hml.symm) (argsL := As) (rest := rest) (fun sig h => hn.trans (hlen sig h)) hstack hW (by rw [hb]; exact hdg)
    (fun vm₁ hW₁ => ⟨hf.1, hf.2, hPc (T.setVm vm₁) hT hW₁⟩)
  dsimp only [Pt.U, Pt.locs, Pt.cells, Pt.slots] at X' e1 e2 h1 h2 h3 st
  subst h1; subst h2; subst h3
  exact ⟨v, (T.setVm vm₁).calling g' mk (Value.ref b :: As).toArray, t, U', L, hT, X', hL, e1, e2, hq, st⟩
section
variable {y : MethodName} {bytes cc : ByteArray} {maxL nL mc ms n index : Nat} {ret : Option FieldType} {ws : List Cond} {rm : Room} {Pc : Array Value → State → Prop} {Qc : Array Value → State → Outcome → State → Prop} {XC : String → State → State → Prop} {free : Addr → Prop} {Ts : List Cond} {own C : String} {b : Addr} {As rest : List Value} {g : JFrame}
theorem vx_runVX {hh : List (Nat × Nat × Nat × Nat)} (S : CallFix p m c cc nL s args Ts own) (hM : vx_Met l y ws rm Pc Qc XC mc ms free) (cw : vx_CVW R s args own C index y bytes maxL ret hh ws rm mc ms n) (hp : PreV s H C b Pc As)
    (hg : g.method = m) (hn : As.length = n) (hsize : g.locals.size = nL) (hstack : g.stack = As.reverse ++ .ref b :: rest) (hW : 2 * g.monitorRoom + (rest.map fun v => v.category).sum ≤ 8) (hdg : decode cc g.pc = .ok (.invokevirtual index, 3)) (hf : cells + mc ≤ R.cells ∧ slots + ms ≤ R.slots) :
    vx_Run p l e R s m args below meth c H locs cells slots mc ms g rest (Qc (Value.ref b :: As).toArray) XC free := by
  obtain ⟨⟨hrc, hrs, hfr, hlo, hws, hcw⟩, hcode, hini, hy, hlen, hl, hin, hse⟩ := cw
  have hK : vx_Back l R p e below s args y 3 8 (PreOf R mc ms Pc) (PostOf Qc mc ms free) (vx_Post XC mc ms free) := vx_backW (hh := hh) (bytes := bytes) (maxL := maxL) (ret := ret) hM hp.1 hrc hrs hfr hlo hws hcw (fun a' U hW => word_at hW (Or.inl (by first | rfl | simp [Cond.onTables, Cond.keeps, Cond.steady])) hini)
  obtain ⟨hx, hb, hml, ho, -⟩ := S
  obtain ⟨-, ⟨cellB, hcB, hoB, hclB⟩, hPc⟩ := hp
  intro T hT X
  rcases vx_callVX X hx (C := C) (hh := hh) (bytes := bytes) (maxL := maxL) (ret := ret) ho hl hin hse hcode hy hK (by rw [hT]; exact hcB) hoB hclB hg (hsize.trans hml.symm) (argsL := As) (rest := rest) (fun sig h => hn.trans (hlen sig h)) hstack hW (by rw [hb]; exact hdg)
    (fun vm₁ hW₁ => ⟨hf.1, hf.2, hPc (T.setVm vm₁) hT hW₁⟩) with ⟨v, vm₁, ⟨U', l2, c2, s2⟩, hW₁, X', ⟨g', mk, t, L, e1, e2, hq, h1, hL, h2, h3⟩, st⟩ | ⟨q, vm₁, ⟨U', l2, c2, s2⟩, hW₁, X', ⟨g', mk, t, L, E, ce, e1, e2, hq, hce, hcv, hcl, h1, hL, h2, h3⟩, st⟩
  · dsimp only [Pt.U, Pt.locs, Pt.cells, Pt.slots] at X' e1 e2 h1 h2 h3 st
    subst h1; subst h2; subst h3
    exact Or.inl ⟨v, (T.setVm vm₁).calling g' mk (Value.ref b :: As).toArray, t, U', L, hT, X', hL, e1, e2, hq, st⟩
  · dsimp only [Pt.U, Pt.locs, Pt.cells, Pt.slots] at X' e1 e2 h1 h2 h3 st hcl
    subst h1; subst h2; subst h3
    exact Or.inr ⟨q, (T.setVm vm₁).calling g' mk (Value.ref b :: As).toArray, t, U', L, E, ce, hT, X', hL, e1, e2, hq, hce, hcv, vx_cls hW₁ hcl, st⟩
theorem vx_runSX {hh : List (Nat × Nat × Nat × Nat)} (S : CallFix p m c cc nL s args Ts own) (hM : vx_Met l y ws rm Pc Qc XC mc ms free) (cw : vx_CSW R s args own index y bytes maxL ret hh ws rm mc ms n) (hp : PreS s H Pc As)
    (hg : g.method = m) (hn : As.length = n) (hsize : g.locals.size = nL) (hstack : g.stack = As.reverse ++ rest) (hW : 2 * g.monitorRoom + (rest.map fun v => v.category).sum ≤ 8) (hdg : decode cc g.pc = .ok (.invokestatic index, 3)) (hf : cells + mc ≤ R.cells ∧ slots + ms ≤ R.slots) :
    vx_Run p l e R s m args below meth c H locs cells slots mc ms g rest (Qc As.toArray) XC free := by
  obtain ⟨⟨hrc, hrs, hfr, hlo, hws, hcw⟩, hcode, hini, hy, hlen, hl, hstt⟩ := cw
  have hK : vx_Back l R p e below s args y 3 8 (PreOf R mc ms Pc) (PostOf Qc mc ms free) (vx_Post XC mc ms free) := vx_backW (hh := hh) (bytes := bytes) (maxL := maxL) (ret := ret) hM hp.1 hrc hrs hfr hlo hws hcw (fun a' U hW => word_at hW (Or.inl (by first | rfl | simp [Cond.onTables, Cond.keeps, Cond.steady])) hini)
  obtain ⟨hx, hb, hml, ho, -⟩ := S
  intro T hT X
  rcases vx_callSX X hx (hh := hh) (bytes := bytes) (maxL := maxL) (ret := ret) ho hl hstt hini hcode hy hK hg (hsize.trans hml.symm) (argsL := As) (rest := rest) (fun sig h => hn.trans (hlen sig h)) hstack hW (by rw [hb]; exact hdg)
    (fun vm₁ hW₁ => ⟨hf.1, hf.2, hp.2 (T.setVm vm₁) hT hW₁⟩) with ⟨v, vm₁, ⟨U', l2, c2, s2⟩, hW₁, X', ⟨g', mk, t, L, e1, e2, hq, h1, hL, h2, h3⟩, st⟩ | ⟨q, vm₁, ⟨U', l2, c2, s2⟩, hW₁, X', ⟨g', mk, t, L, E, ce, e1, e2, hq, hce, hcv, hcl, h1, hL, h2, h3⟩, st⟩
  · dsimp only [Pt.U, Pt.locs, Pt.cells, Pt.slots] at X' e1 e2 h1 h2 h3 st
    subst h1; subst h2; subst h3
    exact Or.inl ⟨v, (T.setVm vm₁).calling g' mk As.toArray, t, U', L, hT, X', hL, e1, e2, hq, st⟩
  · dsimp only [Pt.U, Pt.locs, Pt.cells, Pt.slots] at X' e1 e2 h1 h2 h3 st hcl
    subst h1; subst h2; subst h3
    exact Or.inr ⟨q, (T.setVm vm₁).calling g' mk As.toArray, t, U', L, E, ce, hT, X', hL, e1, e2, hq, hce, hcv, vx_cls hW₁ hcl, st⟩
end
end VXH
theorem vx_ofWH {l : Launch} {y : MethodName} {ws ws' : List Cond} {rm : Room} {Pc : Array Value → State → Prop} {Qc : Array Value → State → Outcome → State → Prop} {XC : String → State → State → Prop} {mc ms : Nat} {free : Addr → Prop} {cc : ByteArray} {maxL : Nat} {ret : Option FieldType} {hh : List (Nat × Nat × Nat × Nat)}
    (hy : plainName y.cls = true) (hw : ws = Cond.codeWith y cc maxL ret hh :: ws')
    (body : ∀ p e s m args below meth c s₁, BodyLoose p l y (headSpec ws rm) cc maxL ret e s m args below meth c s₁ → c.maxLocals = maxL → Pc args s →
      W p l e (headSpec ws rm).room s m args below meth c s.heap [] 0 0 (vx_MQ below Qc XC args s mc ms free) (entryFrame m args maxL)) : vx_Met l y ws rm Pc Qc XC mc ms free := by
  refine MetFree.of_bodyS (code := cc) (maxLocals := maxL) (ret := ret) hy ?_ ?_
  · intro args s m h hn
    obtain ⟨m9, meth, c, hn9, h1, h2, h3, h4, -, h5, h6, -⟩ := Cond.codeWith_spec (atoms_spec (ws := ws) h _ (by rw [hw]; exact List.mem_cons_self))
    cases hn.symm.trans hn9
    exact ⟨meth, c, h1, h2, h3, h4, h5, h6⟩
  · intro p e s m args below meth c s₁ B hml hP _
    have hh0 : s₁.heap = s.heap := by rw [B.state]; rfl
    obtain ⟨t, a1, o, b1, b2, b3⟩ := body p e s m args below meth c s₁ B hml hP s₁ hh0 (Stand.of_body B)
    exact ⟨t, o, a1, b1, b2, b3⟩
/-! ===== END ===== -/

/-! ===== BEGIN printed: names, fields, word lists, decode rows ===== -/
def RX0 : String := "BarrelRaft$Barrels"
def TX0 : u_T := fun k => match k with
  | 0 => ("BarrelRaft$Barrels", "column", "[I", true)
  | 1 => ("BarrelRaft$Barrels", "row", "[I", true)
  | 2 => ("BarrelRaft$Barrels", "lift", "[I", true)
  | 3 => ("BarrelRaft$Barrels", "leak", "[I", true)
  | 4 => ("BarrelRaft$Barrels", "water", "[I", true)
  | 5 => ("BarrelRaft$Barrels", "goods", "[I", true)
  | 6 => ("BarrelRaft$Barrels", "people", "[I", true)
  | 7 => ("BarrelRaft$Barrels", "state", "[I", true)
  | 8 => ("BarrelRaft$Barrels", "x", "[I", true)
  | 9 => ("BarrelRaft$Barrels", "y", "[I", true)
  | 10 => ("BarrelRaft$Barrels", "piece", "[I", true)
  | _ => ("BarrelRaft$Barrels", "number", "I", false)
def tyX0 : Nat → FieldType := fun k => match k with
  | 0 => .array .int
  | 1 => .array .int
  | 2 => .array .int
  | 3 => .array .int
  | 4 => .array .int
  | 5 => .array .int
  | 6 => .array .int
  | 7 => .array .int
  | 8 => .array .int
  | 9 => .array .int
  | 10 => .array .int
  | _ => .int
abbrev wsX00 : List Cond := u_ws RX0 TX0 12
theorem nmX0 : ∀ a, a < 12 → ∀ b, b < 12 → a ≠ b → (TX0 a).2.1 ≠ (TX0 b).2.1 := by decide +kernel
theorem tyX0_ok : ∀ k, k < 12 → parseFieldDescriptor (TX0 k).2.2.1 = some (tyX0 k) := by decide +kernel
abbrev cX0_init : ByteArray := prog_2_method_1_code
def yX0_init : MethodName := ⟨RX0, "<init>", "()V"⟩
abbrev cX0_has : ByteArray := prog_2_method_2_code
def yX0_has : MethodName := ⟨RX0, "has", "(I)Z"⟩
abbrev cX0_floats : ByteArray := prog_2_method_3_code
def yX0_floats : MethodName := ⟨RX0, "floats", "(I)Z"⟩
abbrev cX0_liftNow : ByteArray := prog_2_method_4_code
def yX0_liftNow : MethodName := ⟨RX0, "liftNow", "(I)I"⟩
abbrev cX0_loadOf : ByteArray := prog_2_method_5_code
def yX0_loadOf : MethodName := ⟨RX0, "loadOf", "(I)I"⟩
abbrev cX0_firstAfloat : ByteArray := prog_2_method_6_code
def yX0_firstAfloat : MethodName := ⟨RX0, "firstAfloat", "()I"⟩
abbrev cX0_countOf : ByteArray := prog_2_method_7_code
def yX0_countOf : MethodName := ⟨RX0, "countOf", "(I)I"⟩
abbrev cX0_pieces : ByteArray := prog_2_method_9_code
def yX0_pieces : MethodName := ⟨RX0, "pieces", "()I"⟩
abbrev cX0_goodsSaved : ByteArray := prog_2_method_10_code
def yX0_goodsSaved : MethodName := ⟨RX0, "goodsSaved", "()I"⟩
abbrev cX0_liesAt : ByteArray := prog_2_method_11_code
def yX0_liesAt : MethodName := ⟨RX0, "liesAt", "(II)Z"⟩
abbrev cX0_canBeTied : ByteArray := prog_2_method_12_code
def yX0_canBeTied : MethodName := ⟨RX0, "canBeTied", "(II)Z"⟩
abbrev cX0_append : ByteArray := prog_2_method_13_code
def yX0_append : MethodName := ⟨RX0, "append", "(IIII)I"⟩
abbrev cX0_takeInWater : ByteArray := prog_2_method_14_code
def yX0_takeInWater : MethodName := ⟨RX0, "takeInWater", "()V"⟩
abbrev cX0_end : ByteArray := prog_2_method_15_code
def yX0_end : MethodName := ⟨RX0, "end", "(II)V"⟩
abbrev cX0_standAlone : ByteArray := prog_2_method_16_code
def yX0_standAlone : MethodName := ⟨RX0, "standAlone", "()V"⟩
abbrev cX0_join : ByteArray := prog_2_method_17_code
def yX0_join : MethodName := ⟨RX0, "join", "(II)V"⟩
abbrev cX0_copyFrom : ByteArray := prog_2_method_18_code
def yX0_copyFrom : MethodName := ⟨RX0, "copyFrom", "(LBarrelRaft$Barrels;)V"⟩
def RX1 : String := "BarrelRaft$Castaways"
def TX1 : u_T := fun k => match k with
  | 0 => ("BarrelRaft$Castaways", "seat", "[I", true)
  | 1 => ("BarrelRaft$Castaways", "state", "[I", true)
  | _ => ("BarrelRaft$Castaways", "number", "I", false)
def tyX1 : Nat → FieldType := fun k => match k with
  | 0 => .array .int
  | 1 => .array .int
  | _ => .int
abbrev wsX10 : List Cond := u_ws RX1 TX1 3
theorem nmX1 : ∀ a, a < 3 → ∀ b, b < 3 → a ≠ b → (TX1 a).2.1 ≠ (TX1 b).2.1 := by decide +kernel
theorem tyX1_ok : ∀ k, k < 3 → parseFieldDescriptor (TX1 k).2.2.1 = some (tyX1 k) := by decide +kernel
abbrev cX1_init : ByteArray := prog_3_method_1_code
def yX1_init : MethodName := ⟨RX1, "<init>", "()V"⟩
abbrev cX1_has : ByteArray := prog_3_method_2_code
def yX1_has : MethodName := ⟨RX1, "has", "(I)Z"⟩
abbrev cX1_append : ByteArray := prog_3_method_3_code
def yX1_append : MethodName := ⟨RX1, "append", "(I)I"⟩
abbrev cX1_countOf : ByteArray := prog_3_method_4_code
def yX1_countOf : MethodName := ⟨RX1, "countOf", "(I)I"⟩
abbrev cX1_shareFate : ByteArray := prog_3_method_5_code
def yX1_shareFate : MethodName := ⟨RX1, "shareFate", "(LBarrelRaft$Barrels;)V"⟩
abbrev cX1_copyFrom : ByteArray := prog_3_method_6_code
def yX1_copyFrom : MethodName := ⟨RX1, "copyFrom", "(LBarrelRaft$Castaways;)V"⟩
def RX2 : String := "BarrelRaft$Lashings"
def TX2 : u_T := fun k => match k with
  | 0 => ("BarrelRaft$Lashings", "first", "[I", true)
  | 1 => ("BarrelRaft$Lashings", "second", "[I", true)
  | 2 => ("BarrelRaft$Lashings", "strength", "[I", true)
  | 3 => ("BarrelRaft$Lashings", "wear", "[I", true)
  | _ => ("BarrelRaft$Lashings", "number", "I", false)
def tyX2 : Nat → FieldType := fun k => match k with
  | 0 => .array .int
  | 1 => .array .int
  | 2 => .array .int
  | 3 => .array .int
  | _ => .int
abbrev wsX20 : List Cond := u_ws RX2 TX2 5
theorem nmX2 : ∀ a, a < 5 → ∀ b, b < 5 → a ≠ b → (TX2 a).2.1 ≠ (TX2 b).2.1 := by decide +kernel
theorem tyX2_ok : ∀ k, k < 5 → parseFieldDescriptor (TX2 k).2.2.1 = some (tyX2 k) := by decide +kernel
abbrev cX2_init : ByteArray := prog_4_method_1_code
def yX2_init : MethodName := ⟨RX2, "<init>", "()V"⟩
abbrev cX2_find : ByteArray := prog_4_method_2_code
def yX2_find : MethodName := ⟨RX2, "find", "(II)I"⟩
abbrev cX2_countAt : ByteArray := prog_4_method_3_code
def yX2_countAt : MethodName := ⟨RX2, "countAt", "(I)I"⟩
abbrev cX2_leadsTo : ByteArray := prog_4_method_4_code
def yX2_leadsTo : MethodName := ⟨RX2, "leadsTo", "(II)I"⟩
abbrev cX2_left : ByteArray := prog_4_method_5_code
def yX2_left : MethodName := ⟨RX2, "left", "(I)I"⟩
abbrev cX2_make : ByteArray := prog_4_method_6_code
def yX2_make : MethodName := ⟨RX2, "make", "(III)V"⟩
abbrev cX2_renew : ByteArray := prog_4_method_7_code
def yX2_renew : MethodName := ⟨RX2, "renew", "(II)V"⟩
abbrev cX2_insert : ByteArray := prog_4_method_8_code
def yX2_insert : MethodName := ⟨RX2, "insert", "(III)V"⟩
abbrev cX2_isAfter : ByteArray := prog_4_method_9_code
def yX2_isAfter : MethodName := ⟨RX2, "isAfter", "(III)Z"⟩
abbrev cX2_move : ByteArray := prog_4_method_10_code
def yX2_move : MethodName := ⟨RX2, "move", "(II)V"⟩
abbrev cX2_undo : ByteArray := prog_4_method_11_code
def yX2_undo : MethodName := ⟨RX2, "undo", "(I)V"⟩
abbrev cX2_sweep : ByteArray := prog_4_method_12_code
def yX2_sweep : MethodName := ⟨RX2, "sweep", "()V"⟩
abbrev cX2_copyFrom : ByteArray := prog_4_method_13_code
def yX2_copyFrom : MethodName := ⟨RX2, "copyFrom", "(LBarrelRaft$Lashings;)V"⟩
def RX3 : String := "BarrelRaft$Raft"
def TX3 : u_T := fun k => match k with
  | 0 => ("BarrelRaft$Raft", "barrels", "LBarrelRaft$Barrels;", true)
  | 1 => ("BarrelRaft$Raft", "castaways", "LBarrelRaft$Castaways;", true)
  | 2 => ("BarrelRaft$Raft", "lashings", "LBarrelRaft$Lashings;", true)
  | 3 => ("BarrelRaft$Raft", "pieceLift", "[I", true)
  | 4 => ("BarrelRaft$Raft", "pieceLoad", "[I", true)
  | 5 => ("BarrelRaft$Raft", "hour", "I", false)
  | _ => ("BarrelRaft$Raft", "broken", "I", false)
def tyX3 : Nat → FieldType := fun k => match k with
  | 0 => .object "BarrelRaft$Barrels"
  | 1 => .object "BarrelRaft$Castaways"
  | 2 => .object "BarrelRaft$Lashings"
  | 3 => .array .int
  | 4 => .array .int
  | 5 => .int
  | _ => .int
abbrev wsX30 : List Cond := u_ws RX3 TX3 7
theorem nmX3 : ∀ a, a < 7 → ∀ b, b < 7 → a ≠ b → (TX3 a).2.1 ≠ (TX3 b).2.1 := by decide +kernel
theorem tyX3_ok : ∀ k, k < 7 → parseFieldDescriptor (TX3 k).2.2.1 = some (tyX3 k) := by decide +kernel
abbrev cX3_init : ByteArray := prog_5_method_1_code
def yX3_init : MethodName := ⟨RX3, "<init>", "()V"⟩
abbrev cX3_copyFrom : ByteArray := prog_5_method_2_code
def yX3_copyFrom : MethodName := ⟨RX3, "copyFrom", "(LBarrelRaft$Raft;)V"⟩
abbrev cX3_findPieces : ByteArray := prog_5_method_3_code
def yX3_findPieces : MethodName := ⟨RX3, "findPieces", "()V"⟩
abbrev cX3_stress : ByteArray := prog_5_method_4_code
def yX3_stress : MethodName := ⟨RX3, "stress", "(ILBarrelRaft$Waters;)I"⟩
abbrev cX3_passHours : ByteArray := prog_5_method_5_code
def yX3_passHours : MethodName := ⟨RX3, "passHours", "(ILBarrelRaft$Waters;)V"⟩
abbrev cX3_loseOverloaded : ByteArray := prog_5_method_6_code
def yX3_loseOverloaded : MethodName := ⟨RX3, "loseOverloaded", "()V"⟩
abbrev cX3_wearLashings : ByteArray := prog_5_method_7_code
def yX3_wearLashings : MethodName := ⟨RX3, "wearLashings", "(LBarrelRaft$Waters;)V"⟩
abbrev cX3_drift : ByteArray := prog_5_method_8_code
def yX3_drift : MethodName := ⟨RX3, "drift", "(LBarrelRaft$Waters;)V"⟩
abbrev cX3_driftPiece : ByteArray := prog_5_method_9_code
def yX3_driftPiece : MethodName := ⟨RX3, "driftPiece", "(ILBarrelRaft$Waters;)V"⟩
abbrev cX3_saveAshore : ByteArray := prog_5_method_10_code
def yX3_saveAshore : MethodName := ⟨RX3, "saveAshore", "()V"⟩
abbrev cX3_leaveEnded : ByteArray := prog_5_method_11_code
def yX3_leaveEnded : MethodName := ⟨RX3, "leaveEnded", "()V"⟩
abbrev cX3_weighPieces : ByteArray := prog_5_method_12_code
def yX3_weighPieces : MethodName := ⟨RX3, "weighPieces", "()V"⟩
def RX4 : String := "BarrelRaft$Waters"
def TX4 : u_T := fun k => match k with
  | 0 => ("BarrelRaft$Waters", "dx", "[I", true)
  | 1 => ("BarrelRaft$Waters", "dy", "[I", true)
  | 2 => ("BarrelRaft$Waters", "wave", "[I", true)
  | 3 => ("BarrelRaft$Waters", "counting", "[I", true)
  | 4 => ("BarrelRaft$Waters", "number", "I", false)
  | 5 => ("BarrelRaft$Waters", "windDx", "I", false)
  | _ => ("BarrelRaft$Waters", "windDy", "I", false)
def tyX4 : Nat → FieldType := fun k => match k with
  | 0 => .array .int
  | 1 => .array .int
  | 2 => .array .int
  | 3 => .array .int
  | 4 => .int
  | 5 => .int
  | _ => .int
abbrev wsX40 : List Cond := u_ws RX4 TX4 7
theorem nmX4 : ∀ a, a < 7 → ∀ b, b < 7 → a ≠ b → (TX4 a).2.1 ≠ (TX4 b).2.1 := by decide +kernel
theorem tyX4_ok : ∀ k, k < 7 → parseFieldDescriptor (TX4 k).2.2.1 = some (tyX4 k) := by decide +kernel
abbrev cX4_init : ByteArray := prog_6_method_1_code
def yX4_init : MethodName := ⟨RX4, "<init>", "()V"⟩
abbrev cX4_cover : ByteArray := prog_6_method_2_code
def yX4_cover : MethodName := ⟨RX4, "cover", "(IIII)V"⟩
abbrev cX4_append : ByteArray := prog_6_method_3_code
def yX4_append : MethodName := ⟨RX4, "append", "(III)I"⟩
abbrev cX4_at : ByteArray := prog_6_method_4_code
def yX4_at : MethodName := ⟨RX4, "at", "(II)I"⟩
abbrev cX4_has : ByteArray := prog_6_method_5_code
def yX4_has : MethodName := ⟨RX4, "has", "(I)Z"⟩
abbrev cX4_dxOf : ByteArray := prog_6_method_6_code
def yX4_dxOf : MethodName := ⟨RX4, "dxOf", "(I)I"⟩
abbrev cX4_dyOf : ByteArray := prog_6_method_7_code
def yX4_dyOf : MethodName := ⟨RX4, "dyOf", "(I)I"⟩
abbrev cX4_waveOf : ByteArray := prog_6_method_8_code
def yX4_waveOf : MethodName := ⟨RX4, "waveOf", "(I)I"⟩
def RX5 : String := "BarrelRaft$Ways"
def TX5 : u_T := fun k => match k with
  | 0 => ("BarrelRaft$Ways", "used", "[I", true)
  | 1 => ("BarrelRaft$Ways", "cameBy", "[I", true)
  | 2 => ("BarrelRaft$Ways", "reached", "[I", true)
  | _ => ("BarrelRaft$Ways", "best", "[I", true)
def tyX5 : Nat → FieldType := fun k => match k with
  | 0 => .array .int
  | 1 => .array .int
  | 2 => .array .int
  | _ => .array .int
abbrev wsX50 : List Cond := u_ws RX5 TX5 4
theorem nmX5 : ∀ a, a < 4 → ∀ b, b < 4 → a ≠ b → (TX5 a).2.1 ≠ (TX5 b).2.1 := by decide +kernel
theorem tyX5_ok : ∀ k, k < 4 → parseFieldDescriptor (TX5 k).2.2.1 = some (tyX5 k) := by decide +kernel
abbrev cX5_init : ByteArray := prog_7_method_1_code
def yX5_init : MethodName := ⟨RX5, "<init>", "()V"⟩
abbrev cX5_countApart : ByteArray := prog_7_method_2_code
def yX5_countApart : MethodName := ⟨RX5, "countApart", "(LBarrelRaft$Lashings;II)I"⟩
abbrev cX5_findWay : ByteArray := prog_7_method_3_code
def yX5_findWay : MethodName := ⟨RX5, "findWay", "(LBarrelRaft$Lashings;II)Z"⟩
abbrev cX5_reachFrom : ByteArray := prog_7_method_4_code
def yX5_reachFrom : MethodName := ⟨RX5, "reachFrom", "(LBarrelRaft$Lashings;III)I"⟩
abbrev cX5_direction : ByteArray := prog_7_method_5_code
def yX5_direction : MethodName := ⟨RX5, "direction", "(LBarrelRaft$Lashings;II)I"⟩
abbrev cX5_useWay : ByteArray := prog_7_method_6_code
def yX5_useWay : MethodName := ⟨RX5, "useWay", "(LBarrelRaft$Lashings;II)V"⟩
abbrev cX5_strongest : ByteArray := prog_7_method_7_code
def yX5_strongest : MethodName := ⟨RX5, "strongest", "(LBarrelRaft$Lashings;II)I"⟩
abbrev cX5_strengthen : ByteArray := prog_7_method_8_code
def yX5_strengthen : MethodName := ⟨RX5, "strengthen", "(LBarrelRaft$Lashings;)Z"⟩
def RX6 : String := "BarrelRaft"
def TX6 : u_T := fun k => match k with
  | 0 => ("BarrelRaft", "waters", "LBarrelRaft$Waters;", true)
  | 1 => ("BarrelRaft", "raft", "LBarrelRaft$Raft;", true)
  | 2 => ("BarrelRaft", "trial", "LBarrelRaft$Raft;", true)
  | 3 => ("BarrelRaft", "ways", "LBarrelRaft$Ways;", true)
  | _ => ("BarrelRaft", "ropes", "I", false)
def tyX6 : Nat → FieldType := fun k => match k with
  | 0 => .object "BarrelRaft$Waters"
  | 1 => .object "BarrelRaft$Raft"
  | 2 => .object "BarrelRaft$Raft"
  | 3 => .object "BarrelRaft$Ways"
  | _ => .int
abbrev wsX60 : List Cond := u_ws RX6 TX6 5
theorem nmX6 : ∀ a, a < 5 → ∀ b, b < 5 → a ≠ b → (TX6 a).2.1 ≠ (TX6 b).2.1 := by decide +kernel
theorem tyX6_ok : ∀ k, k < 5 → parseFieldDescriptor (TX6 k).2.2.1 = some (tyX6 k) := by decide +kernel
abbrev cX6_init : ByteArray := prog_1_method_1_code
def yX6_init : MethodName := ⟨RX6, "<init>", "()V"⟩
abbrev cX6_addWater : ByteArray := prog_1_method_2_code
def yX6_addWater : MethodName := ⟨RX6, "addWater", "(IIIIIII)I"⟩
abbrev cX6_setWind : ByteArray := prog_1_method_4_code
def yX6_setWind : MethodName := ⟨RX6, "setWind", "(II)I"⟩
abbrev cX6_addBarrel : ByteArray := prog_1_method_5_code
def yX6_addBarrel : MethodName := ⟨RX6, "addBarrel", "(IIII)I"⟩
abbrev cX6_tie : ByteArray := prog_1_method_6_code
def yX6_tie : MethodName := ⟨RX6, "tie", "(III)I"⟩
abbrev cX6_cut : ByteArray := prog_1_method_7_code
def yX6_cut : MethodName := ⟨RX6, "cut", "(II)I"⟩
abbrev cX6_load : ByteArray := prog_1_method_8_code
def yX6_load : MethodName := ⟨RX6, "load", "(II)I"⟩
abbrev cX6_barrel : ByteArray := prog_1_method_9_code
def yX6_barrel : MethodName := ⟨RX6, "barrel", "(II)I"⟩
abbrev cX6_lashing : ByteArray := prog_1_method_10_code
def yX6_lashing : MethodName := ⟨RX6, "lashing", "(III)I"⟩
abbrev cX6_addCastaway : ByteArray := prog_1_method_11_code
def yX6_addCastaway : MethodName := ⟨RX6, "addCastaway", "(I)I"⟩
abbrev cX6_go : ByteArray := prog_1_method_12_code
def yX6_go : MethodName := ⟨RX6, "go", "(II)I"⟩
abbrev cX6_bail : ByteArray := prog_1_method_13_code
def yX6_bail : MethodName := ⟨RX6, "bail", "(I)I"⟩
abbrev cX6_castaway : ByteArray := prog_1_method_14_code
def yX6_castaway : MethodName := ⟨RX6, "castaway", "(II)I"⟩
abbrev cX6_pass : ByteArray := prog_1_method_15_code
def yX6_pass : MethodName := ⟨RX6, "pass", "(I)I"⟩
abbrev cX6_count : ByteArray := prog_1_method_16_code
def yX6_count : MethodName := ⟨RX6, "count", "(I)I"⟩
abbrev cX6_firm : ByteArray := prog_1_method_17_code
def yX6_firm : MethodName := ⟨RX6, "firm", "(II)I"⟩
abbrev cX6_hold : ByteArray := prog_1_method_18_code
def yX6_hold : MethodName := ⟨RX6, "hold", "(II)I"⟩
abbrev cX6_piece : ByteArray := prog_1_method_19_code
def yX6_piece : MethodName := ⟨RX6, "piece", "(II)I"⟩
abbrev cX6_foresee : ByteArray := prog_1_method_20_code
def yX6_foresee : MethodName := ⟨RX6, "foresee", "(II)I"⟩
abbrev cX6_isBelow : ByteArray := prog_1_method_24_code
def yX6_isBelow : MethodName := ⟨RX6, "isBelow", "(II)Z"⟩
abbrev cX6_isSea : ByteArray := prog_1_method_25_code
def yX6_isSea : MethodName := ⟨RX6, "isSea", "(II)Z"⟩
abbrev cX6_isFlow : ByteArray := prog_1_method_26_code
def yX6_isFlow : MethodName := ⟨RX6, "isFlow", "(I)Z"⟩
abbrev cX6_barrelFact : ByteArray := prog_1_method_27_code
def yX6_barrelFact : MethodName := ⟨RX6, "barrelFact", "(II)I"⟩
abbrev cX6_castawayFact : ByteArray := prog_1_method_28_code
def yX6_castawayFact : MethodName := ⟨RX6, "castawayFact", "(II)I"⟩
abbrev cX6_countFact : ByteArray := prog_1_method_29_code
def yX6_countFact : MethodName := ⟨RX6, "countFact", "(I)I"⟩
abbrev cX6_pieceSum : ByteArray := prog_1_method_30_code
def yX6_pieceSum : MethodName := ⟨RX6, "pieceSum", "(II)I"⟩
abbrev cX6_singleLashings : ByteArray := prog_1_method_31_code
def yX6_singleLashings : MethodName := ⟨RX6, "singleLashings", "(I)I"⟩
def RX7 : String := "BarrelRaftLaw$Sim"
def TX7 : u_T := fun k => match k with
  | 0 => ("BarrelRaftLaw$Sim", "hour", "I", false)
  | 1 => ("BarrelRaftLaw$Sim", "ropes", "I", false)
  | 2 => ("BarrelRaftLaw$Sim", "broken", "I", false)
  | 3 => ("BarrelRaftLaw$Sim", "windX", "I", false)
  | 4 => ("BarrelRaftLaw$Sim", "windY", "I", false)
  | 5 => ("BarrelRaftLaw$Sim", "waters", "[[I", false)
  | 6 => ("BarrelRaftLaw$Sim", "barrels", "[[I", false)
  | 7 => ("BarrelRaftLaw$Sim", "ties", "[[I", false)
  | _ => ("BarrelRaftLaw$Sim", "people", "[[I", false)
def tyX7 : Nat → FieldType := fun k => match k with
  | 0 => .int
  | 1 => .int
  | 2 => .int
  | 3 => .int
  | 4 => .int
  | 5 => .array (.array .int)
  | 6 => .array (.array .int)
  | 7 => .array (.array .int)
  | _ => .array (.array .int)
abbrev wsX70 : List Cond := u_ws RX7 TX7 9
theorem nmX7 : ∀ a, a < 9 → ∀ b, b < 9 → a ≠ b → (TX7 a).2.1 ≠ (TX7 b).2.1 := by decide +kernel
theorem tyX7_ok : ∀ k, k < 9 → parseFieldDescriptor (TX7 k).2.2.1 = some (tyX7 k) := by decide +kernel
abbrev cX7_init : ByteArray := prog_9_method_1_code
def yX7_init : MethodName := ⟨RX7, "<init>", "()V"⟩
abbrev cX7_more : ByteArray := prog_9_method_2_code
def yX7_more : MethodName := ⟨RX7, "more", "([[I[I)[[I"⟩
abbrev cX7_tie : ByteArray := prog_9_method_5_code
def yX7_tie : MethodName := ⟨RX7, "tie", "(II)[I"⟩
abbrev cX7_untie : ByteArray := prog_9_method_6_code
def yX7_untie : MethodName := ⟨RX7, "untie", "([I)V"⟩
abbrev cX7_tie_ : ByteArray := prog_9_method_7_code
def yX7_tie_ : MethodName := ⟨RX7, "tie", "(III)V"⟩
abbrev cX7_sea : ByteArray := prog_9_method_8_code
def yX7_sea : MethodName := ⟨RX7, "sea", "(II)[I"⟩
abbrev cX7_load : ByteArray := prog_9_method_9_code
def yX7_load : MethodName := ⟨RX7, "load", "(I)I"⟩
abbrev cX7_lifts : ByteArray := prog_9_method_10_code
def yX7_lifts : MethodName := ⟨RX7, "lifts", "(I)I"⟩
abbrev cX7_piece : ByteArray := prog_9_method_11_code
def yX7_piece : MethodName := ⟨RX7, "piece", "(I[I)[Z"⟩
abbrev cX7_name : ByteArray := prog_9_method_12_code
def yX7_name : MethodName := ⟨RX7, "name", "(I)I"⟩
abbrev cX7_sum : ByteArray := prog_9_method_13_code
def yX7_sum : MethodName := ⟨RX7, "sum", "([ZI)I"⟩
abbrev cX7_end : ByteArray := prog_9_method_14_code
def yX7_end : MethodName := ⟨RX7, "end", "([ZI)V"⟩
abbrev cX7_pass : ByteArray := prog_9_method_15_code
def yX7_pass : MethodName := ⟨RX7, "pass", "()I"⟩
def RX8 : String := "BarrelRaftModel"
def TX8 : u_T := fun k => match k with
  | _ => ("", "", "", false)
def tyX8 : Nat → FieldType := fun k => match k with
  | _ => .int
abbrev wsX80 : List Cond := u_ws RX8 TX8 0
theorem nmX8 : ∀ a, a < 0 → ∀ b, b < 0 → a ≠ b → (TX8 a).2.1 ≠ (TX8 b).2.1 := by decide +kernel
theorem tyX8_ok : ∀ k, k < 0 → parseFieldDescriptor (TX8 k).2.2.1 = some (tyX8 k) := by decide +kernel
def RJx145de : String := "java/io/Serializable"
def TJx145de : u_T := fun k => match k with
  | _ => ("", "", "", false)
def tyJx145de : Nat → FieldType := fun k => match k with
  | _ => .int
abbrev wsJx145de0 : List Cond := u_ws RJx145de TJx145de 0
theorem nmJx145de : ∀ a, a < 0 → ∀ b, b < 0 → a ≠ b → (TJx145de a).2.1 ≠ (TJx145de b).2.1 := by decide +kernel
theorem tyJx145de_ok : ∀ k, k < 0 → parseFieldDescriptor (TJx145de k).2.2.1 = some (tyJx145de k) := by decide +kernel
def RJ9 : String := "java/lang/Math"
def TJ9 : u_T := fun k => match k with
  | _ => ("", "", "", false)
def tyJ9 : Nat → FieldType := fun k => match k with
  | _ => .int
abbrev wsJ90 : List Cond := u_ws RJ9 TJ9 0
theorem nmJ9 : ∀ a, a < 0 → ∀ b, b < 0 → a ≠ b → (TJ9 a).2.1 ≠ (TJ9 b).2.1 := by decide +kernel
theorem tyJ9_ok : ∀ k, k < 0 → parseFieldDescriptor (TJ9 k).2.2.1 = some (tyJ9 k) := by decide +kernel
abbrev cJ9_abs_0f7a4 : ByteArray := prog_15_method_59_code
def yJ9_abs_0f7a4 : MethodName := ⟨RJ9, "abs", "(I)I"⟩
abbrev cJ9_max_7cf53 : ByteArray := prog_15_method_65_code
def yJ9_max_7cf53 : MethodName := ⟨RJ9, "max", "(II)I"⟩
abbrev cJ9_min_7cf53 : ByteArray := prog_15_method_69_code
def yJ9_min_7cf53 : MethodName := ⟨RJ9, "min", "(II)I"⟩
def RJ0 : String := "java/lang/String"
def TJ0 : u_T := fun k => match k with
  | _ => ("", "", "", false)
def tyJ0 : Nat → FieldType := fun k => match k with
  | _ => .int
abbrev wsJ00 : List Cond := u_ws RJ0 TJ0 0
theorem nmJ0 : ∀ a, a < 0 → ∀ b, b < 0 → a ≠ b → (TJ0 a).2.1 ≠ (TJ0 b).2.1 := by decide +kernel
theorem tyJ0_ok : ∀ k, k < 0 → parseFieldDescriptor (TJ0 k).2.2.1 = some (tyJ0 k) := by decide +kernel
def RJ10 : String := "java/lang/System"
def TJ10 : u_T := fun k => match k with
  | _ => ("", "", "", false)
def tyJ10 : Nat → FieldType := fun k => match k with
  | _ => .int
abbrev wsJ100 : List Cond := u_ws RJ10 TJ10 0
theorem nmJ10 : ∀ a, a < 0 → ∀ b, b < 0 → a ≠ b → (TJ10 a).2.1 ≠ (TJ10 b).2.1 := by decide +kernel
theorem tyJ10_ok : ∀ k, k < 0 → parseFieldDescriptor (TJ10 k).2.2.1 = some (tyJ10 k) := by decide +kernel
def RJ7 : String := "java/util/Arrays"
def TJ7 : u_T := fun k => match k with
  | _ => ("", "", "", false)
def tyJ7 : Nat → FieldType := fun k => match k with
  | _ => .int
abbrev wsJ70 : List Cond := u_ws RJ7 TJ7 0
theorem nmJ7 : ∀ a, a < 0 → ∀ b, b < 0 → a ≠ b → (TJ7 a).2.1 ≠ (TJ7 b).2.1 := by decide +kernel
theorem tyJ7_ok : ∀ k, k < 0 → parseFieldDescriptor (TJ7 k).2.2.1 = some (tyJ7 k) := by decide +kernel
abbrev cJ7_fill_53178 : ByteArray := prog_20_method_103_code
def yJ7_fill_53178 : MethodName := ⟨RJ7, "fill", "([II)V"⟩
def RL : String := "BarrelRaftLaw"
abbrev cL_below : ByteArray := method_2_code
def yL_below : MethodName := ⟨RL, "below", "(II)I"⟩
abbrev cL_cell : ByteArray := method_3_code
def yL_cell : MethodName := ⟨RL, "cell", "([II)I"⟩
abbrev cL_build : ByteArray := method_4_code
def yL_build : MethodName := ⟨RL, "build", "(LBarrelRaft;[II)LBarrelRaftLaw$Sim;"⟩
abbrev cL_tie : ByteArray := method_5_code
def yL_tie : MethodName := ⟨RL, "tie", "(LBarrelRaft;LBarrelRaftLaw$Sim;I)Z"⟩
abbrev cL_act : ByteArray := method_6_code
def yL_act : MethodName := ⟨RL, "act", "(LBarrelRaft;LBarrelRaftLaw$Sim;I)Z"⟩
abbrev cL_law : ByteArray := code
def yL_law : MethodName := ⟨RL, "law", "([I)Z"⟩
def wsX0_init : List Cond := .code yX0_init cX0_init 1 none :: ([.methodLink RX0 3 objectInit, .instanceMethod objectInit, .code objectInit ⟨#[0xb1]⟩ 1 none, .arrayClass .int, .fieldLink RX0 9 "BarrelRaft$Barrels" "column" "[I", .fieldLink RX0 15 "BarrelRaft$Barrels" "row" "[I", .fieldLink RX0 18 "BarrelRaft$Barrels" "lift" "[I", .fieldLink RX0 21 "BarrelRaft$Barrels" "leak" "[I", .fieldLink RX0 24 "BarrelRaft$Barrels" "water" "[I", .fieldLink RX0 27 "BarrelRaft$Barrels" "goods" "[I", .fieldLink RX0 30 "BarrelRaft$Barrels" "people" "[I", .fieldLink RX0 33 "BarrelRaft$Barrels" "state" "[I", .fieldLink RX0 36 "BarrelRaft$Barrels" "x" "[I", .fieldLink RX0 39 "BarrelRaft$Barrels" "y" "[I", .fieldLink RX0 42 "BarrelRaft$Barrels" "piece" "[I"] ++ wsX00)
def wsX0_has : List Cond := .code yX0_has cX0_has 2 (some .boolean) :: ([.fieldLink RX0 45 "BarrelRaft$Barrels" "number" "I"] ++ wsX00)
def wsX0_floats : List Cond := .code yX0_floats cX0_floats 2 (some .boolean) :: ([.fieldLink RX0 33 "BarrelRaft$Barrels" "state" "[I", .methodLink RX0 49 yX0_has, .instanceMethod yX0_has, .selects RX0 yX0_has yX0_has, .initialized RX0, .code yX0_has cX0_has 2 (some .boolean), .fieldLink RX0 45 "BarrelRaft$Barrels" "number" "I"] ++ wsX00)
def wsX0_liftNow : List Cond := .code yX0_liftNow cX0_liftNow 2 (some .int) :: ([.fieldLink RX0 18 "BarrelRaft$Barrels" "lift" "[I", .fieldLink RX0 24 "BarrelRaft$Barrels" "water" "[I"] ++ wsX00)
def wsX0_loadOf : List Cond := .code yX0_loadOf cX0_loadOf 2 (some .int) :: ([.fieldLink RX0 27 "BarrelRaft$Barrels" "goods" "[I", .fieldLink RX0 30 "BarrelRaft$Barrels" "people" "[I"] ++ wsX00)
def wsX0_firstAfloat : List Cond := .code yX0_firstAfloat cX0_firstAfloat 2 (some .int) :: ([.fieldLink RX0 45 "BarrelRaft$Barrels" "number" "I", .fieldLink RX0 33 "BarrelRaft$Barrels" "state" "[I"] ++ wsX00)
def wsX0_countOf : List Cond := .code yX0_countOf cX0_countOf 4 (some .int) :: ([.fieldLink RX0 45 "BarrelRaft$Barrels" "number" "I", .fieldLink RX0 33 "BarrelRaft$Barrels" "state" "[I"] ++ wsX00)
def wsX0_pieces : List Cond := .code yX0_pieces cX0_pieces 3 (some .int) :: ([.fieldLink RX0 45 "BarrelRaft$Barrels" "number" "I", .fieldLink RX0 42 "BarrelRaft$Barrels" "piece" "[I"] ++ wsX00)
def wsX0_goodsSaved : List Cond := .code yX0_goodsSaved cX0_goodsSaved 3 (some .int) :: ([.fieldLink RX0 45 "BarrelRaft$Barrels" "number" "I", .fieldLink RX0 33 "BarrelRaft$Barrels" "state" "[I", .fieldLink RX0 27 "BarrelRaft$Barrels" "goods" "[I"] ++ wsX00)
def wsX0_liesAt : List Cond := .code yX0_liesAt cX0_liesAt 4 (some .boolean) :: ([.fieldLink RX0 45 "BarrelRaft$Barrels" "number" "I", .fieldLink RX0 9 "BarrelRaft$Barrels" "column" "[I", .fieldLink RX0 15 "BarrelRaft$Barrels" "row" "[I"] ++ wsX00)
def wsX0_canBeTied : List Cond := .code yX0_canBeTied cX0_canBeTied 4 (some .boolean) :: ([.fieldLink RX0 9 "BarrelRaft$Barrels" "column" "[I", .methodLink RX0 56 Lib.Math.abs.name, .static Lib.Math.abs.name, .initialized "java/lang/Math", .code Lib.Math.abs.name Lib.Math.abs.code 1 (some .int), .fieldLink RX0 15 "BarrelRaft$Barrels" "row" "[I", .fieldLink RX0 36 "BarrelRaft$Barrels" "x" "[I", .fieldLink RX0 39 "BarrelRaft$Barrels" "y" "[I", .methodLink RX0 53 yX0_floats, .instanceMethod yX0_floats, .selects RX0 yX0_floats yX0_floats, .initialized RX0, .code yX0_floats cX0_floats 2 (some .boolean), .fieldLink RX0 33 "BarrelRaft$Barrels" "state" "[I", .methodLink RX0 49 yX0_has, .instanceMethod yX0_has, .selects RX0 yX0_has yX0_has, .code yX0_has cX0_has 2 (some .boolean), .fieldLink RX0 45 "BarrelRaft$Barrels" "number" "I"] ++ wsX00)
def wsX0_append : List Cond := .code yX0_append cX0_append 7 (some .int) :: ([.fieldLink RX0 45 "BarrelRaft$Barrels" "number" "I", .fieldLink RX0 36 "BarrelRaft$Barrels" "x" "[I", .fieldLink RX0 39 "BarrelRaft$Barrels" "y" "[I", .fieldLink RX0 9 "BarrelRaft$Barrels" "column" "[I", .fieldLink RX0 15 "BarrelRaft$Barrels" "row" "[I", .fieldLink RX0 18 "BarrelRaft$Barrels" "lift" "[I", .fieldLink RX0 21 "BarrelRaft$Barrels" "leak" "[I", .fieldLink RX0 42 "BarrelRaft$Barrels" "piece" "[I", .methodLink RX0 62 yX0_firstAfloat, .instanceMethod yX0_firstAfloat, .selects RX0 yX0_firstAfloat yX0_firstAfloat, .initialized RX0, .code yX0_firstAfloat cX0_firstAfloat 2 (some .int), .fieldLink RX0 33 "BarrelRaft$Barrels" "state" "[I"] ++ wsX00)
def wsX0_takeInWater : List Cond := .code yX0_takeInWater cX0_takeInWater 2 none :: ([.fieldLink RX0 45 "BarrelRaft$Barrels" "number" "I", .fieldLink RX0 33 "BarrelRaft$Barrels" "state" "[I", .fieldLink RX0 24 "BarrelRaft$Barrels" "water" "[I", .fieldLink RX0 21 "BarrelRaft$Barrels" "leak" "[I", .methodLink RX0 66 Lib.Math.min.name, .static Lib.Math.min.name, .initialized "java/lang/Math", .code Lib.Math.min.name Lib.Math.min.code 2 (some .int)] ++ wsX00)
def wsX0_end : List Cond := .code yX0_end cX0_end 3 none :: ([.fieldLink RX0 33 "BarrelRaft$Barrels" "state" "[I", .fieldLink RX0 42 "BarrelRaft$Barrels" "piece" "[I", .fieldLink RX0 30 "BarrelRaft$Barrels" "people" "[I", .fieldLink RX0 27 "BarrelRaft$Barrels" "goods" "[I"] ++ wsX00)
def wsX0_standAlone : List Cond := .code yX0_standAlone cX0_standAlone 2 none :: ([.fieldLink RX0 45 "BarrelRaft$Barrels" "number" "I", .fieldLink RX0 42 "BarrelRaft$Barrels" "piece" "[I", .fieldLink RX0 33 "BarrelRaft$Barrels" "state" "[I"] ++ wsX00)
def wsX0_join : List Cond := .code yX0_join cX0_join 6 none :: ([.fieldLink RX0 42 "BarrelRaft$Barrels" "piece" "[I", .methodLink RX0 66 Lib.Math.min.name, .static Lib.Math.min.name, .initialized "java/lang/Math", .code Lib.Math.min.name Lib.Math.min.code 2 (some .int), .methodLink RX0 70 Lib.Math.max.name, .static Lib.Math.max.name, .code Lib.Math.max.name Lib.Math.max.code 2 (some .int), .fieldLink RX0 45 "BarrelRaft$Barrels" "number" "I"] ++ wsX00)
def wsX0_copyFrom : List Cond := .code yX0_copyFrom cX0_copyFrom 2 none :: ([.fieldLink RX0 9 "BarrelRaft$Barrels" "column" "[I", .methodLink RX0 73 arraycopyName, .native arraycopyName, .static arraycopyName, .initialized "java/lang/System", .fieldLink RX0 15 "BarrelRaft$Barrels" "row" "[I", .fieldLink RX0 18 "BarrelRaft$Barrels" "lift" "[I", .fieldLink RX0 21 "BarrelRaft$Barrels" "leak" "[I", .fieldLink RX0 24 "BarrelRaft$Barrels" "water" "[I", .fieldLink RX0 27 "BarrelRaft$Barrels" "goods" "[I", .fieldLink RX0 30 "BarrelRaft$Barrels" "people" "[I", .fieldLink RX0 33 "BarrelRaft$Barrels" "state" "[I", .fieldLink RX0 36 "BarrelRaft$Barrels" "x" "[I", .fieldLink RX0 39 "BarrelRaft$Barrels" "y" "[I", .fieldLink RX0 42 "BarrelRaft$Barrels" "piece" "[I", .fieldLink RX0 45 "BarrelRaft$Barrels" "number" "I"] ++ wsX00)
def wsX1_init : List Cond := .code yX1_init cX1_init 1 none :: ([.methodLink RX1 3 objectInit, .instanceMethod objectInit, .code objectInit ⟨#[0xb1]⟩ 1 none, .arrayClass .int, .fieldLink RX1 9 "BarrelRaft$Castaways" "seat" "[I", .fieldLink RX1 15 "BarrelRaft$Castaways" "state" "[I"] ++ wsX10)
def wsX1_has : List Cond := .code yX1_has cX1_has 2 (some .boolean) :: ([.fieldLink RX1 18 "BarrelRaft$Castaways" "number" "I"] ++ wsX10)
def wsX1_append : List Cond := .code yX1_append cX1_append 3 (some .int) :: ([.fieldLink RX1 18 "BarrelRaft$Castaways" "number" "I", .fieldLink RX1 9 "BarrelRaft$Castaways" "seat" "[I", .fieldLink RX1 15 "BarrelRaft$Castaways" "state" "[I"] ++ wsX10)
def wsX1_countOf : List Cond := .code yX1_countOf cX1_countOf 4 (some .int) :: ([.fieldLink RX1 18 "BarrelRaft$Castaways" "number" "I", .fieldLink RX1 15 "BarrelRaft$Castaways" "state" "[I"] ++ wsX10)
def wsX1_shareFate : List Cond := .code yX1_shareFate cX1_shareFate 4 none :: ([.fieldLink RX1 18 "BarrelRaft$Castaways" "number" "I", .fieldLink RX1 9 "BarrelRaft$Castaways" "seat" "[I", .fieldLink RX1 28 "BarrelRaft$Barrels" "state" "[I", .fieldLink RX1 15 "BarrelRaft$Castaways" "state" "[I", .methodLink RX1 22 yX0_has, .instanceMethod yX0_has, .selects RX0 yX0_has yX0_has, .initialized RX0, .code yX0_has cX0_has 2 (some .boolean), .fieldLink RX0 45 "BarrelRaft$Barrels" "number" "I"] ++ wsX10 ++ wsX00)
def wsX1_copyFrom : List Cond := .code yX1_copyFrom cX1_copyFrom 2 none :: ([.fieldLink RX1 9 "BarrelRaft$Castaways" "seat" "[I", .methodLink RX1 29 arraycopyName, .native arraycopyName, .static arraycopyName, .initialized "java/lang/System", .fieldLink RX1 15 "BarrelRaft$Castaways" "state" "[I", .fieldLink RX1 18 "BarrelRaft$Castaways" "number" "I"] ++ wsX10)
def wsX2_init : List Cond := .code yX2_init cX2_init 1 none :: ([.methodLink RX2 3 objectInit, .instanceMethod objectInit, .code objectInit ⟨#[0xb1]⟩ 1 none, .arrayClass .int, .fieldLink RX2 9 "BarrelRaft$Lashings" "first" "[I", .fieldLink RX2 15 "BarrelRaft$Lashings" "second" "[I", .fieldLink RX2 18 "BarrelRaft$Lashings" "strength" "[I", .fieldLink RX2 21 "BarrelRaft$Lashings" "wear" "[I"] ++ wsX20)
def wsX2_find : List Cond := .code yX2_find cX2_find 6 (some .int) :: ([.methodLink RX2 24 Lib.Math.min.name, .static Lib.Math.min.name, .initialized "java/lang/Math", .code Lib.Math.min.name Lib.Math.min.code 2 (some .int), .methodLink RX2 30 Lib.Math.max.name, .static Lib.Math.max.name, .code Lib.Math.max.name Lib.Math.max.code 2 (some .int), .fieldLink RX2 33 "BarrelRaft$Lashings" "number" "I", .fieldLink RX2 9 "BarrelRaft$Lashings" "first" "[I", .fieldLink RX2 15 "BarrelRaft$Lashings" "second" "[I"] ++ wsX20)
def wsX2_countAt : List Cond := .code yX2_countAt cX2_countAt 4 (some .int) :: ([.fieldLink RX2 33 "BarrelRaft$Lashings" "number" "I", .fieldLink RX2 9 "BarrelRaft$Lashings" "first" "[I", .fieldLink RX2 15 "BarrelRaft$Lashings" "second" "[I"] ++ wsX20)
def wsX2_leadsTo : List Cond := .code yX2_leadsTo cX2_leadsTo 3 (some .int) :: ([.fieldLink RX2 9 "BarrelRaft$Lashings" "first" "[I", .fieldLink RX2 15 "BarrelRaft$Lashings" "second" "[I"] ++ wsX20)
def wsX2_left : List Cond := .code yX2_left cX2_left 2 (some .int) :: ([.fieldLink RX2 18 "BarrelRaft$Lashings" "strength" "[I", .fieldLink RX2 21 "BarrelRaft$Lashings" "wear" "[I"] ++ wsX20)
def wsX2_renew : List Cond := .code yX2_renew cX2_renew 3 none :: ([.fieldLink RX2 18 "BarrelRaft$Lashings" "strength" "[I", .fieldLink RX2 21 "BarrelRaft$Lashings" "wear" "[I"] ++ wsX20)
def wsX2_isAfter : List Cond := .code yX2_isAfter cX2_isAfter 4 (some .boolean) :: ([.fieldLink RX2 9 "BarrelRaft$Lashings" "first" "[I", .fieldLink RX2 15 "BarrelRaft$Lashings" "second" "[I"] ++ wsX20)
def wsX2_move : List Cond := .code yX2_move cX2_move 3 none :: ([.fieldLink RX2 9 "BarrelRaft$Lashings" "first" "[I", .fieldLink RX2 15 "BarrelRaft$Lashings" "second" "[I", .fieldLink RX2 18 "BarrelRaft$Lashings" "strength" "[I", .fieldLink RX2 21 "BarrelRaft$Lashings" "wear" "[I"] ++ wsX20)
def wsX2_insert : List Cond := .code yX2_insert cX2_insert 6 none :: ([.fieldLink RX2 33 "BarrelRaft$Lashings" "number" "I", .fieldLink RX2 9 "BarrelRaft$Lashings" "first" "[I", .fieldLink RX2 15 "BarrelRaft$Lashings" "second" "[I", .methodLink RX2 48 yX2_isAfter, .instanceMethod yX2_isAfter, .selects RX2 yX2_isAfter yX2_isAfter, .initialized RX2, .code yX2_isAfter cX2_isAfter 4 (some .boolean), .methodLink RX2 52 yX2_move, .instanceMethod yX2_move, .selects RX2 yX2_move yX2_move, .code yX2_move cX2_move 3 none, .fieldLink RX2 18 "BarrelRaft$Lashings" "strength" "[I", .fieldLink RX2 21 "BarrelRaft$Lashings" "wear" "[I", .methodLink RX2 40 yX2_renew, .instanceMethod yX2_renew, .selects RX2 yX2_renew yX2_renew, .code yX2_renew cX2_renew 3 none] ++ wsX20)
def wsX2_make_r1 : List Cond := [Cond.fieldLink RX2 33 "BarrelRaft$Lashings" "number" "I", Cond.methodLink RX2 37 yX2_find, Cond.instanceMethod yX2_find, Cond.selects RX2 yX2_find yX2_find, Cond.initialized RX2, Cond.code yX2_find cX2_find 6 (some .int), Cond.methodLink RX2 24 Lib.Math.min.name, Cond.static Lib.Math.min.name, Cond.initialized "java/lang/Math", Cond.code Lib.Math.min.name Lib.Math.min.code 2 (some .int), Cond.methodLink RX2 30 Lib.Math.max.name, Cond.static Lib.Math.max.name, Cond.code Lib.Math.max.name Lib.Math.max.code 2 (some .int), Cond.fieldLink RX2 9 "BarrelRaft$Lashings" "first" "[I", Cond.fieldLink RX2 15 "BarrelRaft$Lashings" "second" "[I", Cond.methodLink RX2 40 yX2_renew, Cond.instanceMethod yX2_renew, Cond.selects RX2 yX2_renew yX2_renew, Cond.code yX2_renew cX2_renew 3 none, Cond.fieldLink RX2 18 "BarrelRaft$Lashings" "strength" "[I", Cond.fieldLink RX2 21 "BarrelRaft$Lashings" "wear" "[I", Cond.methodLink RX2 44 yX2_insert, Cond.instanceMethod yX2_insert, Cond.selects RX2 yX2_insert yX2_insert]
def wsX2_make_r2 : List Cond := [Cond.code yX2_insert cX2_insert 6 none, Cond.methodLink RX2 48 yX2_isAfter, Cond.instanceMethod yX2_isAfter, Cond.selects RX2 yX2_isAfter yX2_isAfter, Cond.code yX2_isAfter cX2_isAfter 4 (some .boolean), Cond.methodLink RX2 52 yX2_move, Cond.instanceMethod yX2_move, Cond.selects RX2 yX2_move yX2_move, Cond.code yX2_move cX2_move 3 none]
def wsX2_make : List Cond := .code yX2_make cX2_make 5 none :: ((wsX2_make_r1 ++ wsX2_make_r2) ++ wsX20)
def wsX2_undo : List Cond := .code yX2_undo cX2_undo 2 none :: ([.fieldLink RX2 18 "BarrelRaft$Lashings" "strength" "[I"] ++ wsX20)
def wsX2_sweep : List Cond := .code yX2_sweep cX2_sweep 3 none :: ([.fieldLink RX2 33 "BarrelRaft$Lashings" "number" "I", .fieldLink RX2 18 "BarrelRaft$Lashings" "strength" "[I", .methodLink RX2 52 yX2_move, .instanceMethod yX2_move, .selects RX2 yX2_move yX2_move, .initialized RX2, .code yX2_move cX2_move 3 none, .fieldLink RX2 9 "BarrelRaft$Lashings" "first" "[I", .fieldLink RX2 15 "BarrelRaft$Lashings" "second" "[I", .fieldLink RX2 21 "BarrelRaft$Lashings" "wear" "[I"] ++ wsX20)
def wsX2_copyFrom : List Cond := .code yX2_copyFrom cX2_copyFrom 2 none :: ([.fieldLink RX2 9 "BarrelRaft$Lashings" "first" "[I", .methodLink RX2 55 arraycopyName, .native arraycopyName, .static arraycopyName, .initialized "java/lang/System", .fieldLink RX2 15 "BarrelRaft$Lashings" "second" "[I", .fieldLink RX2 18 "BarrelRaft$Lashings" "strength" "[I", .fieldLink RX2 21 "BarrelRaft$Lashings" "wear" "[I", .fieldLink RX2 33 "BarrelRaft$Lashings" "number" "I"] ++ wsX20)
def wsX3_init_r1 : List Cond := [Cond.methodLink RX3 3 objectInit, Cond.instanceMethod objectInit, Cond.code objectInit ⟨#[0xb1]⟩ 1 none, Cond.classLink RX3 9 RX0, Cond.instantiable RX0 12, Cond.initialized RX0, Cond.fieldLink RX3 12 "BarrelRaft$Raft" "barrels" "LBarrelRaft$Barrels;", Cond.classLink RX3 18 RX1, Cond.instantiable RX1 3, Cond.initialized RX1, Cond.fieldLink RX3 21 "BarrelRaft$Raft" "castaways" "LBarrelRaft$Castaways;", Cond.classLink RX3 25 RX2, Cond.instantiable RX2 5, Cond.initialized RX2, Cond.fieldLink RX3 28 "BarrelRaft$Raft" "lashings" "LBarrelRaft$Lashings;", Cond.arrayClass .int, Cond.fieldLink RX3 32 "BarrelRaft$Raft" "pieceLift" "[I", Cond.fieldLink RX3 36 "BarrelRaft$Raft" "pieceLoad" "[I", Cond.instanceMethod yX0_init, Cond.code yX0_init cX0_init 1 none, Cond.methodLink RX0 3 objectInit, Cond.fieldLink RX0 9 "BarrelRaft$Barrels" "column" "[I", Cond.fieldLink RX0 15 "BarrelRaft$Barrels" "row" "[I", Cond.fieldLink RX0 18 "BarrelRaft$Barrels" "lift" "[I"]
def wsX3_init_r2 : List Cond := [Cond.fieldLink RX0 21 "BarrelRaft$Barrels" "leak" "[I", Cond.fieldLink RX0 24 "BarrelRaft$Barrels" "water" "[I", Cond.fieldLink RX0 27 "BarrelRaft$Barrels" "goods" "[I", Cond.fieldLink RX0 30 "BarrelRaft$Barrels" "people" "[I", Cond.fieldLink RX0 33 "BarrelRaft$Barrels" "state" "[I", Cond.fieldLink RX0 36 "BarrelRaft$Barrels" "x" "[I", Cond.fieldLink RX0 39 "BarrelRaft$Barrels" "y" "[I", Cond.fieldLink RX0 42 "BarrelRaft$Barrels" "piece" "[I", Cond.instanceMethod yX1_init, Cond.code yX1_init cX1_init 1 none, Cond.methodLink RX1 3 objectInit, Cond.fieldLink RX1 9 "BarrelRaft$Castaways" "seat" "[I", Cond.fieldLink RX1 15 "BarrelRaft$Castaways" "state" "[I", Cond.instanceMethod yX2_init, Cond.code yX2_init cX2_init 1 none, Cond.methodLink RX2 3 objectInit, Cond.fieldLink RX2 9 "BarrelRaft$Lashings" "first" "[I", Cond.fieldLink RX2 15 "BarrelRaft$Lashings" "second" "[I", Cond.fieldLink RX2 18 "BarrelRaft$Lashings" "strength" "[I", Cond.fieldLink RX2 21 "BarrelRaft$Lashings" "wear" "[I"]
def wsX3_init : List Cond := .code yX3_init cX3_init 1 none :: ((wsX3_init_r1 ++ wsX3_init_r2) ++ wsX00 ++ wsX30 ++ wsX10 ++ wsX20)
def wsX3_copyFrom_r1 : List Cond := [Cond.fieldLink RX3 12 "BarrelRaft$Raft" "barrels" "LBarrelRaft$Barrels;", Cond.fieldLink RX3 21 "BarrelRaft$Raft" "castaways" "LBarrelRaft$Castaways;", Cond.fieldLink RX3 28 "BarrelRaft$Raft" "lashings" "LBarrelRaft$Lashings;", Cond.fieldLink RX3 49 "BarrelRaft$Raft" "hour" "I", Cond.fieldLink RX3 53 "BarrelRaft$Raft" "broken" "I", Cond.methodLink RX3 39 yX0_copyFrom, Cond.instanceMethod yX0_copyFrom, Cond.selects RX0 yX0_copyFrom yX0_copyFrom, Cond.initialized RX0, Cond.code yX0_copyFrom cX0_copyFrom 2 none, Cond.fieldLink RX0 9 "BarrelRaft$Barrels" "column" "[I", Cond.methodLink RX0 73 arraycopyName, Cond.native arraycopyName, Cond.static arraycopyName, Cond.initialized "java/lang/System", Cond.fieldLink RX0 15 "BarrelRaft$Barrels" "row" "[I", Cond.fieldLink RX0 18 "BarrelRaft$Barrels" "lift" "[I", Cond.fieldLink RX0 21 "BarrelRaft$Barrels" "leak" "[I", Cond.fieldLink RX0 24 "BarrelRaft$Barrels" "water" "[I", Cond.fieldLink RX0 27 "BarrelRaft$Barrels" "goods" "[I", Cond.fieldLink RX0 30 "BarrelRaft$Barrels" "people" "[I", Cond.fieldLink RX0 33 "BarrelRaft$Barrels" "state" "[I", Cond.fieldLink RX0 36 "BarrelRaft$Barrels" "x" "[I", Cond.fieldLink RX0 39 "BarrelRaft$Barrels" "y" "[I"]
def wsX3_copyFrom_r2 : List Cond := [Cond.fieldLink RX0 42 "BarrelRaft$Barrels" "piece" "[I", Cond.fieldLink RX0 45 "BarrelRaft$Barrels" "number" "I", Cond.methodLink RX3 43 yX1_copyFrom, Cond.instanceMethod yX1_copyFrom, Cond.selects RX1 yX1_copyFrom yX1_copyFrom, Cond.initialized RX1, Cond.code yX1_copyFrom cX1_copyFrom 2 none, Cond.fieldLink RX1 9 "BarrelRaft$Castaways" "seat" "[I", Cond.methodLink RX1 29 arraycopyName, Cond.fieldLink RX1 15 "BarrelRaft$Castaways" "state" "[I", Cond.fieldLink RX1 18 "BarrelRaft$Castaways" "number" "I", Cond.methodLink RX3 46 yX2_copyFrom, Cond.instanceMethod yX2_copyFrom, Cond.selects RX2 yX2_copyFrom yX2_copyFrom, Cond.initialized RX2, Cond.code yX2_copyFrom cX2_copyFrom 2 none, Cond.fieldLink RX2 9 "BarrelRaft$Lashings" "first" "[I", Cond.methodLink RX2 55 arraycopyName, Cond.fieldLink RX2 15 "BarrelRaft$Lashings" "second" "[I", Cond.fieldLink RX2 18 "BarrelRaft$Lashings" "strength" "[I", Cond.fieldLink RX2 21 "BarrelRaft$Lashings" "wear" "[I", Cond.fieldLink RX2 33 "BarrelRaft$Lashings" "number" "I"]
def wsX3_copyFrom : List Cond := .code yX3_copyFrom cX3_copyFrom 2 none :: ((wsX3_copyFrom_r1 ++ wsX3_copyFrom_r2) ++ wsX30 ++ wsX00 ++ wsX10 ++ wsX20)
def wsX3_findPieces : List Cond := .code yX3_findPieces cX3_findPieces 2 none :: ([.fieldLink RX3 12 "BarrelRaft$Raft" "barrels" "LBarrelRaft$Barrels;", .fieldLink RX3 28 "BarrelRaft$Raft" "lashings" "LBarrelRaft$Lashings;", .fieldLink RX3 59 "BarrelRaft$Lashings" "number" "I", .fieldLink RX3 62 "BarrelRaft$Lashings" "first" "[I", .fieldLink RX3 65 "BarrelRaft$Lashings" "second" "[I", .methodLink RX3 56 yX0_standAlone, .instanceMethod yX0_standAlone, .selects RX0 yX0_standAlone yX0_standAlone, .initialized RX0, .code yX0_standAlone cX0_standAlone 2 none, .fieldLink RX0 45 "BarrelRaft$Barrels" "number" "I", .fieldLink RX0 42 "BarrelRaft$Barrels" "piece" "[I", .fieldLink RX0 33 "BarrelRaft$Barrels" "state" "[I", .methodLink RX3 68 yX0_join, .instanceMethod yX0_join, .selects RX0 yX0_join yX0_join, .code yX0_join cX0_join 6 none, .methodLink RX0 66 Lib.Math.min.name, .static Lib.Math.min.name, .initialized "java/lang/Math", .code Lib.Math.min.name Lib.Math.min.code 2 (some .int), .methodLink RX0 70 Lib.Math.max.name, .static Lib.Math.max.name, .code Lib.Math.max.name Lib.Math.max.code 2 (some .int)] ++ wsX30 ++ wsX20 ++ wsX00)
def wsX6_isSea : List Cond := .code yX6_isSea cX6_isSea 2 (some .boolean) :: ([])
def wsX4_at : List Cond := .code yX4_at cX4_at 3 (some .int) :: ([.fieldLink RX4 21 "BarrelRaft$Waters" "counting" "[I", .static yX6_isSea, .initialized RX6, .code yX6_isSea cX6_isSea 2 (some .boolean)] ++ wsX40)
def wsX4_has : List Cond := .code yX4_has cX4_has 2 (some .boolean) :: ([.fieldLink RX4 34 "BarrelRaft$Waters" "number" "I"] ++ wsX40)
def wsX4_waveOf : List Cond := .code yX4_waveOf cX4_waveOf 2 (some .int) :: ([.fieldLink RX4 18 "BarrelRaft$Waters" "wave" "[I", .methodLink RX4 38 yX4_has, .instanceMethod yX4_has, .selects RX4 yX4_has yX4_has, .initialized RX4, .code yX4_has cX4_has 2 (some .boolean), .fieldLink RX4 34 "BarrelRaft$Waters" "number" "I"] ++ wsX40)
def wsX3_stress_r1 : List Cond := [Cond.fieldLink RX3 28 "BarrelRaft$Raft" "lashings" "LBarrelRaft$Lashings;", Cond.fieldLink RX3 62 "BarrelRaft$Lashings" "first" "[I", Cond.fieldLink RX3 65 "BarrelRaft$Lashings" "second" "[I", Cond.fieldLink RX3 12 "BarrelRaft$Raft" "barrels" "LBarrelRaft$Barrels;", Cond.fieldLink RX3 72 "BarrelRaft$Barrels" "x" "[I", Cond.fieldLink RX3 75 "BarrelRaft$Barrels" "y" "[I", Cond.methodLink RX3 91 Lib.Math.abs.name, Cond.static Lib.Math.abs.name, Cond.initialized "java/lang/Math", Cond.code Lib.Math.abs.name Lib.Math.abs.code 1 (some .int), Cond.methodLink RX3 78 yX4_at, Cond.instanceMethod yX4_at, Cond.selects RX4 yX4_at yX4_at, Cond.initialized RX4, Cond.code yX4_at cX4_at 3 (some .int), Cond.fieldLink RX4 21 "BarrelRaft$Waters" "counting" "[I", Cond.static yX6_isSea, Cond.initialized RX6, Cond.code yX6_isSea cX6_isSea 2 (some .boolean), Cond.methodLink RX3 84 yX4_waveOf, Cond.instanceMethod yX4_waveOf, Cond.selects RX4 yX4_waveOf yX4_waveOf, Cond.code yX4_waveOf cX4_waveOf 2 (some .int), Cond.fieldLink RX4 18 "BarrelRaft$Waters" "wave" "[I"]
def wsX3_stress_r2 : List Cond := [Cond.methodLink RX4 38 yX4_has, Cond.instanceMethod yX4_has, Cond.selects RX4 yX4_has yX4_has, Cond.code yX4_has cX4_has 2 (some .boolean), Cond.fieldLink RX4 34 "BarrelRaft$Waters" "number" "I", Cond.methodLink RX3 88 yX0_loadOf, Cond.instanceMethod yX0_loadOf, Cond.selects RX0 yX0_loadOf yX0_loadOf, Cond.initialized RX0, Cond.code yX0_loadOf cX0_loadOf 2 (some .int), Cond.fieldLink RX0 27 "BarrelRaft$Barrels" "goods" "[I", Cond.fieldLink RX0 30 "BarrelRaft$Barrels" "people" "[I"]
def wsX3_stress : List Cond := .code yX3_stress cX3_stress 6 (some .int) :: ((wsX3_stress_r1 ++ wsX3_stress_r2) ++ wsX30 ++ wsX20 ++ wsX00 ++ wsX40)
def wsX3_weighPieces : List Cond := .code yX3_weighPieces cX3_weighPieces 3 none :: ([.fieldLink RX3 12 "BarrelRaft$Raft" "barrels" "LBarrelRaft$Barrels;", .fieldLink RX3 119 "BarrelRaft$Barrels" "number" "I", .fieldLink RX3 32 "BarrelRaft$Raft" "pieceLift" "[I", .fieldLink RX3 36 "BarrelRaft$Raft" "pieceLoad" "[I", .fieldLink RX3 120 "BarrelRaft$Barrels" "piece" "[I", .methodLink RX3 178 yX0_liftNow, .instanceMethod yX0_liftNow, .selects RX0 yX0_liftNow yX0_liftNow, .initialized RX0, .code yX0_liftNow cX0_liftNow 2 (some .int), .fieldLink RX0 18 "BarrelRaft$Barrels" "lift" "[I", .fieldLink RX0 24 "BarrelRaft$Barrels" "water" "[I", .methodLink RX3 88 yX0_loadOf, .instanceMethod yX0_loadOf, .selects RX0 yX0_loadOf yX0_loadOf, .code yX0_loadOf cX0_loadOf 2 (some .int), .fieldLink RX0 27 "BarrelRaft$Barrels" "goods" "[I", .fieldLink RX0 30 "BarrelRaft$Barrels" "people" "[I"] ++ wsX30 ++ wsX00)
def wsX3_leaveEnded_r1 : List Cond := [Cond.fieldLink RX3 21 "BarrelRaft$Raft" "castaways" "LBarrelRaft$Castaways;", Cond.fieldLink RX3 12 "BarrelRaft$Raft" "barrels" "LBarrelRaft$Barrels;", Cond.fieldLink RX3 28 "BarrelRaft$Raft" "lashings" "LBarrelRaft$Lashings;", Cond.fieldLink RX3 59 "BarrelRaft$Lashings" "number" "I", Cond.fieldLink RX3 62 "BarrelRaft$Lashings" "first" "[I", Cond.methodLink RX3 175 yX1_shareFate, Cond.instanceMethod yX1_shareFate, Cond.selects RX1 yX1_shareFate yX1_shareFate, Cond.initialized RX1, Cond.code yX1_shareFate cX1_shareFate 4 none, Cond.fieldLink RX1 18 "BarrelRaft$Castaways" "number" "I", Cond.fieldLink RX1 9 "BarrelRaft$Castaways" "seat" "[I", Cond.fieldLink RX1 28 "BarrelRaft$Barrels" "state" "[I", Cond.fieldLink RX1 15 "BarrelRaft$Castaways" "state" "[I", Cond.methodLink RX1 22 yX0_has, Cond.instanceMethod yX0_has, Cond.selects RX0 yX0_has yX0_has, Cond.initialized RX0, Cond.code yX0_has cX0_has 2 (some .boolean), Cond.fieldLink RX0 45 "BarrelRaft$Barrels" "number" "I", Cond.methodLink RX3 171 yX0_floats, Cond.instanceMethod yX0_floats, Cond.selects RX0 yX0_floats yX0_floats, Cond.code yX0_floats cX0_floats 2 (some .boolean)]
def wsX3_leaveEnded_r2 : List Cond := [Cond.fieldLink RX0 33 "BarrelRaft$Barrels" "state" "[I", Cond.methodLink RX0 49 yX0_has, Cond.methodLink RX3 136 yX2_undo, Cond.instanceMethod yX2_undo, Cond.selects RX2 yX2_undo yX2_undo, Cond.initialized RX2, Cond.code yX2_undo cX2_undo 2 none, Cond.fieldLink RX2 18 "BarrelRaft$Lashings" "strength" "[I", Cond.methodLink RX3 143 yX2_sweep, Cond.instanceMethod yX2_sweep, Cond.selects RX2 yX2_sweep yX2_sweep, Cond.code yX2_sweep cX2_sweep 3 none, Cond.fieldLink RX2 33 "BarrelRaft$Lashings" "number" "I", Cond.methodLink RX2 52 yX2_move, Cond.instanceMethod yX2_move, Cond.selects RX2 yX2_move yX2_move, Cond.code yX2_move cX2_move 3 none, Cond.fieldLink RX2 9 "BarrelRaft$Lashings" "first" "[I", Cond.fieldLink RX2 15 "BarrelRaft$Lashings" "second" "[I", Cond.fieldLink RX2 21 "BarrelRaft$Lashings" "wear" "[I"]
def wsX3_leaveEnded : List Cond := .code yX3_leaveEnded cX3_leaveEnded 2 none :: ((wsX3_leaveEnded_r1 ++ wsX3_leaveEnded_r2) ++ wsX30 ++ wsX20 ++ wsX10 ++ wsX00)
def wsX3_loseOverloaded_r1 : List Cond := [Cond.fieldLink RX3 12 "BarrelRaft$Raft" "barrels" "LBarrelRaft$Barrels;", Cond.fieldLink RX3 119 "BarrelRaft$Barrels" "number" "I", Cond.fieldLink RX3 120 "BarrelRaft$Barrels" "piece" "[I", Cond.fieldLink RX3 36 "BarrelRaft$Raft" "pieceLoad" "[I", Cond.fieldLink RX3 32 "BarrelRaft$Raft" "pieceLift" "[I", Cond.methodLink RX3 116 yX3_weighPieces, Cond.instanceMethod yX3_weighPieces, Cond.selects RX3 yX3_weighPieces yX3_weighPieces, Cond.initialized RX3, Cond.code yX3_weighPieces cX3_weighPieces 3 none, Cond.methodLink RX3 178 yX0_liftNow, Cond.instanceMethod yX0_liftNow, Cond.selects RX0 yX0_liftNow yX0_liftNow, Cond.initialized RX0, Cond.code yX0_liftNow cX0_liftNow 2 (some .int), Cond.fieldLink RX0 18 "BarrelRaft$Barrels" "lift" "[I", Cond.fieldLink RX0 24 "BarrelRaft$Barrels" "water" "[I", Cond.methodLink RX3 88 yX0_loadOf, Cond.instanceMethod yX0_loadOf, Cond.selects RX0 yX0_loadOf yX0_loadOf, Cond.code yX0_loadOf cX0_loadOf 2 (some .int), Cond.fieldLink RX0 27 "BarrelRaft$Barrels" "goods" "[I", Cond.fieldLink RX0 30 "BarrelRaft$Barrels" "people" "[I", Cond.methodLink RX3 123 yX0_end]
def wsX3_loseOverloaded_r2 : List Cond := [Cond.instanceMethod yX0_end, Cond.selects RX0 yX0_end yX0_end, Cond.code yX0_end cX0_end 3 none, Cond.fieldLink RX0 33 "BarrelRaft$Barrels" "state" "[I", Cond.fieldLink RX0 42 "BarrelRaft$Barrels" "piece" "[I", Cond.methodLink RX3 126 yX3_leaveEnded, Cond.instanceMethod yX3_leaveEnded, Cond.selects RX3 yX3_leaveEnded yX3_leaveEnded, Cond.code yX3_leaveEnded cX3_leaveEnded 2 none, Cond.fieldLink RX3 21 "BarrelRaft$Raft" "castaways" "LBarrelRaft$Castaways;", Cond.fieldLink RX3 28 "BarrelRaft$Raft" "lashings" "LBarrelRaft$Lashings;", Cond.fieldLink RX3 59 "BarrelRaft$Lashings" "number" "I", Cond.fieldLink RX3 62 "BarrelRaft$Lashings" "first" "[I", Cond.methodLink RX3 175 yX1_shareFate, Cond.instanceMethod yX1_shareFate, Cond.selects RX1 yX1_shareFate yX1_shareFate, Cond.initialized RX1, Cond.code yX1_shareFate cX1_shareFate 4 none, Cond.fieldLink RX1 18 "BarrelRaft$Castaways" "number" "I", Cond.fieldLink RX1 9 "BarrelRaft$Castaways" "seat" "[I", Cond.fieldLink RX1 28 "BarrelRaft$Barrels" "state" "[I", Cond.fieldLink RX1 15 "BarrelRaft$Castaways" "state" "[I", Cond.methodLink RX1 22 yX0_has, Cond.instanceMethod yX0_has]
def wsX3_loseOverloaded_r3 : List Cond := [Cond.selects RX0 yX0_has yX0_has, Cond.code yX0_has cX0_has 2 (some .boolean), Cond.fieldLink RX0 45 "BarrelRaft$Barrels" "number" "I", Cond.methodLink RX3 171 yX0_floats, Cond.instanceMethod yX0_floats, Cond.selects RX0 yX0_floats yX0_floats, Cond.code yX0_floats cX0_floats 2 (some .boolean), Cond.methodLink RX0 49 yX0_has, Cond.methodLink RX3 136 yX2_undo, Cond.instanceMethod yX2_undo, Cond.selects RX2 yX2_undo yX2_undo, Cond.initialized RX2, Cond.code yX2_undo cX2_undo 2 none, Cond.fieldLink RX2 18 "BarrelRaft$Lashings" "strength" "[I", Cond.methodLink RX3 143 yX2_sweep, Cond.instanceMethod yX2_sweep, Cond.selects RX2 yX2_sweep yX2_sweep, Cond.code yX2_sweep cX2_sweep 3 none, Cond.fieldLink RX2 33 "BarrelRaft$Lashings" "number" "I", Cond.methodLink RX2 52 yX2_move, Cond.instanceMethod yX2_move, Cond.selects RX2 yX2_move yX2_move, Cond.code yX2_move cX2_move 3 none, Cond.fieldLink RX2 9 "BarrelRaft$Lashings" "first" "[I"]
def wsX3_loseOverloaded_r4 : List Cond := [Cond.fieldLink RX2 15 "BarrelRaft$Lashings" "second" "[I", Cond.fieldLink RX2 21 "BarrelRaft$Lashings" "wear" "[I"]
def wsX3_loseOverloaded : List Cond := .code yX3_loseOverloaded cX3_loseOverloaded 4 none :: ((wsX3_loseOverloaded_r1 ++ (wsX3_loseOverloaded_r2 ++ (wsX3_loseOverloaded_r3 ++ wsX3_loseOverloaded_r4))) ++ wsX30 ++ wsX00 ++ wsX20 ++ wsX10)
def wsX3_wearLashings_r1 : List Cond := [Cond.fieldLink RX3 28 "BarrelRaft$Raft" "lashings" "LBarrelRaft$Lashings;", Cond.fieldLink RX3 59 "BarrelRaft$Lashings" "number" "I", Cond.fieldLink RX3 140 "BarrelRaft$Lashings" "wear" "[I", Cond.fieldLink RX3 53 "BarrelRaft$Raft" "broken" "I", Cond.methodLink RX3 129 yX3_stress, Cond.instanceMethod yX3_stress, Cond.selects RX3 yX3_stress yX3_stress, Cond.initialized RX3, Cond.code yX3_stress cX3_stress 6 (some .int), Cond.fieldLink RX3 62 "BarrelRaft$Lashings" "first" "[I", Cond.fieldLink RX3 65 "BarrelRaft$Lashings" "second" "[I", Cond.fieldLink RX3 12 "BarrelRaft$Raft" "barrels" "LBarrelRaft$Barrels;", Cond.fieldLink RX3 72 "BarrelRaft$Barrels" "x" "[I", Cond.fieldLink RX3 75 "BarrelRaft$Barrels" "y" "[I", Cond.methodLink RX3 91 Lib.Math.abs.name, Cond.static Lib.Math.abs.name, Cond.initialized "java/lang/Math", Cond.code Lib.Math.abs.name Lib.Math.abs.code 1 (some .int), Cond.methodLink RX3 78 yX4_at, Cond.instanceMethod yX4_at, Cond.selects RX4 yX4_at yX4_at, Cond.initialized RX4, Cond.code yX4_at cX4_at 3 (some .int), Cond.fieldLink RX4 21 "BarrelRaft$Waters" "counting" "[I"]
def wsX3_wearLashings_r2 : List Cond := [Cond.static yX6_isSea, Cond.initialized RX6, Cond.code yX6_isSea cX6_isSea 2 (some .boolean), Cond.methodLink RX3 84 yX4_waveOf, Cond.instanceMethod yX4_waveOf, Cond.selects RX4 yX4_waveOf yX4_waveOf, Cond.code yX4_waveOf cX4_waveOf 2 (some .int), Cond.fieldLink RX4 18 "BarrelRaft$Waters" "wave" "[I", Cond.methodLink RX4 38 yX4_has, Cond.instanceMethod yX4_has, Cond.selects RX4 yX4_has yX4_has, Cond.code yX4_has cX4_has 2 (some .boolean), Cond.fieldLink RX4 34 "BarrelRaft$Waters" "number" "I", Cond.methodLink RX3 88 yX0_loadOf, Cond.instanceMethod yX0_loadOf, Cond.selects RX0 yX0_loadOf yX0_loadOf, Cond.initialized RX0, Cond.code yX0_loadOf cX0_loadOf 2 (some .int), Cond.fieldLink RX0 27 "BarrelRaft$Barrels" "goods" "[I", Cond.fieldLink RX0 30 "BarrelRaft$Barrels" "people" "[I", Cond.methodLink RX3 133 yX2_left, Cond.instanceMethod yX2_left, Cond.selects RX2 yX2_left yX2_left, Cond.initialized RX2]
def wsX3_wearLashings_r3 : List Cond := [Cond.code yX2_left cX2_left 2 (some .int), Cond.fieldLink RX2 18 "BarrelRaft$Lashings" "strength" "[I", Cond.fieldLink RX2 21 "BarrelRaft$Lashings" "wear" "[I", Cond.methodLink RX3 136 yX2_undo, Cond.instanceMethod yX2_undo, Cond.selects RX2 yX2_undo yX2_undo, Cond.code yX2_undo cX2_undo 2 none, Cond.methodLink RX3 143 yX2_sweep, Cond.instanceMethod yX2_sweep, Cond.selects RX2 yX2_sweep yX2_sweep, Cond.code yX2_sweep cX2_sweep 3 none, Cond.fieldLink RX2 33 "BarrelRaft$Lashings" "number" "I", Cond.methodLink RX2 52 yX2_move, Cond.instanceMethod yX2_move, Cond.selects RX2 yX2_move yX2_move, Cond.code yX2_move cX2_move 3 none, Cond.fieldLink RX2 9 "BarrelRaft$Lashings" "first" "[I", Cond.fieldLink RX2 15 "BarrelRaft$Lashings" "second" "[I", Cond.methodLink RX3 146 yX3_findPieces, Cond.instanceMethod yX3_findPieces, Cond.selects RX3 yX3_findPieces yX3_findPieces, Cond.code yX3_findPieces cX3_findPieces 2 none, Cond.methodLink RX3 56 yX0_standAlone, Cond.instanceMethod yX0_standAlone]
def wsX3_wearLashings_r4 : List Cond := [Cond.selects RX0 yX0_standAlone yX0_standAlone, Cond.code yX0_standAlone cX0_standAlone 2 none, Cond.fieldLink RX0 45 "BarrelRaft$Barrels" "number" "I", Cond.fieldLink RX0 42 "BarrelRaft$Barrels" "piece" "[I", Cond.fieldLink RX0 33 "BarrelRaft$Barrels" "state" "[I", Cond.methodLink RX3 68 yX0_join, Cond.instanceMethod yX0_join, Cond.selects RX0 yX0_join yX0_join, Cond.code yX0_join cX0_join 6 none, Cond.methodLink RX0 66 Lib.Math.min.name, Cond.static Lib.Math.min.name, Cond.code Lib.Math.min.name Lib.Math.min.code 2 (some .int), Cond.methodLink RX0 70 Lib.Math.max.name, Cond.static Lib.Math.max.name, Cond.code Lib.Math.max.name Lib.Math.max.code 2 (some .int)]
def wsX3_wearLashings : List Cond := .code yX3_wearLashings cX3_wearLashings 5 none :: ((wsX3_wearLashings_r1 ++ (wsX3_wearLashings_r2 ++ (wsX3_wearLashings_r3 ++ wsX3_wearLashings_r4))) ++ wsX30 ++ wsX20 ++ wsX00 ++ wsX40)
def wsX4_dxOf : List Cond := .code yX4_dxOf cX4_dxOf 2 (some .int) :: ([.fieldLink RX4 9 "BarrelRaft$Waters" "dx" "[I", .methodLink RX4 38 yX4_has, .instanceMethod yX4_has, .selects RX4 yX4_has yX4_has, .initialized RX4, .code yX4_has cX4_has 2 (some .boolean), .fieldLink RX4 34 "BarrelRaft$Waters" "number" "I"] ++ wsX40)
def wsX4_dyOf : List Cond := .code yX4_dyOf cX4_dyOf 2 (some .int) :: ([.fieldLink RX4 15 "BarrelRaft$Waters" "dy" "[I", .methodLink RX4 38 yX4_has, .instanceMethod yX4_has, .selects RX4 yX4_has yX4_has, .initialized RX4, .code yX4_has cX4_has 2 (some .boolean), .fieldLink RX4 34 "BarrelRaft$Waters" "number" "I"] ++ wsX40)
def wsX3_driftPiece_r1 : List Cond := [Cond.fieldLink RX3 12 "BarrelRaft$Raft" "barrels" "LBarrelRaft$Barrels;", Cond.fieldLink RX3 72 "BarrelRaft$Barrels" "x" "[I", Cond.fieldLink RX3 75 "BarrelRaft$Barrels" "y" "[I", Cond.fieldLink RX3 36 "BarrelRaft$Raft" "pieceLoad" "[I", Cond.fieldLink RX3 32 "BarrelRaft$Raft" "pieceLift" "[I", Cond.fieldLink RX3 159 "BarrelRaft$Waters" "windDx" "I", Cond.fieldLink RX3 162 "BarrelRaft$Waters" "windDy" "I", Cond.methodLink RX3 165 Lib.Math.min.name, Cond.static Lib.Math.min.name, Cond.initialized "java/lang/Math", Cond.code Lib.Math.min.name Lib.Math.min.code 2 (some .int), Cond.methodLink RX3 168 Lib.Math.max.name, Cond.static Lib.Math.max.name, Cond.code Lib.Math.max.name Lib.Math.max.code 2 (some .int), Cond.methodLink RX3 78 yX4_at, Cond.instanceMethod yX4_at, Cond.selects RX4 yX4_at yX4_at, Cond.initialized RX4, Cond.code yX4_at cX4_at 3 (some .int), Cond.fieldLink RX4 21 "BarrelRaft$Waters" "counting" "[I", Cond.static yX6_isSea, Cond.initialized RX6, Cond.code yX6_isSea cX6_isSea 2 (some .boolean), Cond.methodLink RX3 153 yX4_dxOf]
def wsX3_driftPiece_r2 : List Cond := [Cond.instanceMethod yX4_dxOf, Cond.selects RX4 yX4_dxOf yX4_dxOf, Cond.code yX4_dxOf cX4_dxOf 2 (some .int), Cond.fieldLink RX4 9 "BarrelRaft$Waters" "dx" "[I", Cond.methodLink RX4 38 yX4_has, Cond.instanceMethod yX4_has, Cond.selects RX4 yX4_has yX4_has, Cond.code yX4_has cX4_has 2 (some .boolean), Cond.fieldLink RX4 34 "BarrelRaft$Waters" "number" "I", Cond.methodLink RX3 156 yX4_dyOf, Cond.instanceMethod yX4_dyOf, Cond.selects RX4 yX4_dyOf yX4_dyOf, Cond.code yX4_dyOf cX4_dyOf 2 (some .int), Cond.fieldLink RX4 15 "BarrelRaft$Waters" "dy" "[I"]
def wsX3_driftPiece : List Cond := .code yX3_driftPiece cX3_driftPiece 6 none :: ((wsX3_driftPiece_r1 ++ wsX3_driftPiece_r2) ++ wsX30 ++ wsX00 ++ wsX40)
def wsX3_drift_r1 : List Cond := [Cond.fieldLink RX3 12 "BarrelRaft$Raft" "barrels" "LBarrelRaft$Barrels;", Cond.fieldLink RX3 119 "BarrelRaft$Barrels" "number" "I", Cond.fieldLink RX3 120 "BarrelRaft$Barrels" "piece" "[I", Cond.fieldLink RX3 72 "BarrelRaft$Barrels" "x" "[I", Cond.fieldLink RX3 75 "BarrelRaft$Barrels" "y" "[I", Cond.methodLink RX3 116 yX3_weighPieces, Cond.instanceMethod yX3_weighPieces, Cond.selects RX3 yX3_weighPieces yX3_weighPieces, Cond.initialized RX3, Cond.code yX3_weighPieces cX3_weighPieces 3 none, Cond.fieldLink RX3 32 "BarrelRaft$Raft" "pieceLift" "[I", Cond.fieldLink RX3 36 "BarrelRaft$Raft" "pieceLoad" "[I", Cond.methodLink RX3 178 yX0_liftNow, Cond.instanceMethod yX0_liftNow, Cond.selects RX0 yX0_liftNow yX0_liftNow, Cond.initialized RX0, Cond.code yX0_liftNow cX0_liftNow 2 (some .int), Cond.fieldLink RX0 18 "BarrelRaft$Barrels" "lift" "[I", Cond.fieldLink RX0 24 "BarrelRaft$Barrels" "water" "[I", Cond.methodLink RX3 88 yX0_loadOf, Cond.instanceMethod yX0_loadOf, Cond.selects RX0 yX0_loadOf yX0_loadOf, Cond.code yX0_loadOf cX0_loadOf 2 (some .int), Cond.fieldLink RX0 27 "BarrelRaft$Barrels" "goods" "[I"]
def wsX3_drift_r2 : List Cond := [Cond.fieldLink RX0 30 "BarrelRaft$Barrels" "people" "[I", Cond.methodLink RX3 149 yX3_driftPiece, Cond.instanceMethod yX3_driftPiece, Cond.selects RX3 yX3_driftPiece yX3_driftPiece, Cond.code yX3_driftPiece cX3_driftPiece 6 none, Cond.fieldLink RX3 159 "BarrelRaft$Waters" "windDx" "I", Cond.fieldLink RX3 162 "BarrelRaft$Waters" "windDy" "I", Cond.methodLink RX3 165 Lib.Math.min.name, Cond.static Lib.Math.min.name, Cond.initialized "java/lang/Math", Cond.code Lib.Math.min.name Lib.Math.min.code 2 (some .int), Cond.methodLink RX3 168 Lib.Math.max.name, Cond.static Lib.Math.max.name, Cond.code Lib.Math.max.name Lib.Math.max.code 2 (some .int), Cond.methodLink RX3 78 yX4_at, Cond.instanceMethod yX4_at, Cond.selects RX4 yX4_at yX4_at, Cond.initialized RX4, Cond.code yX4_at cX4_at 3 (some .int), Cond.fieldLink RX4 21 "BarrelRaft$Waters" "counting" "[I", Cond.static yX6_isSea, Cond.initialized RX6, Cond.code yX6_isSea cX6_isSea 2 (some .boolean), Cond.methodLink RX3 153 yX4_dxOf]
def wsX3_drift_r3 : List Cond := [Cond.instanceMethod yX4_dxOf, Cond.selects RX4 yX4_dxOf yX4_dxOf, Cond.code yX4_dxOf cX4_dxOf 2 (some .int), Cond.fieldLink RX4 9 "BarrelRaft$Waters" "dx" "[I", Cond.methodLink RX4 38 yX4_has, Cond.instanceMethod yX4_has, Cond.selects RX4 yX4_has yX4_has, Cond.code yX4_has cX4_has 2 (some .boolean), Cond.fieldLink RX4 34 "BarrelRaft$Waters" "number" "I", Cond.methodLink RX3 156 yX4_dyOf, Cond.instanceMethod yX4_dyOf, Cond.selects RX4 yX4_dyOf yX4_dyOf, Cond.code yX4_dyOf cX4_dyOf 2 (some .int), Cond.fieldLink RX4 15 "BarrelRaft$Waters" "dy" "[I"]
def wsX3_drift : List Cond := .code yX3_drift cX3_drift 4 none :: ((wsX3_drift_r1 ++ (wsX3_drift_r2 ++ wsX3_drift_r3)) ++ wsX30 ++ wsX00 ++ wsX40)
def wsX3_saveAshore_r1 : List Cond := [Cond.fieldLink RX3 12 "BarrelRaft$Raft" "barrels" "LBarrelRaft$Barrels;", Cond.fieldLink RX3 119 "BarrelRaft$Barrels" "number" "I", Cond.fieldLink RX3 72 "BarrelRaft$Barrels" "x" "[I", Cond.methodLink RX3 171 yX0_floats, Cond.instanceMethod yX0_floats, Cond.selects RX0 yX0_floats yX0_floats, Cond.initialized RX0, Cond.code yX0_floats cX0_floats 2 (some .boolean), Cond.fieldLink RX0 33 "BarrelRaft$Barrels" "state" "[I", Cond.methodLink RX0 49 yX0_has, Cond.instanceMethod yX0_has, Cond.selects RX0 yX0_has yX0_has, Cond.code yX0_has cX0_has 2 (some .boolean), Cond.fieldLink RX0 45 "BarrelRaft$Barrels" "number" "I", Cond.methodLink RX3 123 yX0_end, Cond.instanceMethod yX0_end, Cond.selects RX0 yX0_end yX0_end, Cond.code yX0_end cX0_end 3 none, Cond.fieldLink RX0 42 "BarrelRaft$Barrels" "piece" "[I", Cond.fieldLink RX0 30 "BarrelRaft$Barrels" "people" "[I", Cond.fieldLink RX0 27 "BarrelRaft$Barrels" "goods" "[I", Cond.methodLink RX3 126 yX3_leaveEnded, Cond.instanceMethod yX3_leaveEnded, Cond.selects RX3 yX3_leaveEnded yX3_leaveEnded]
def wsX3_saveAshore_r2 : List Cond := [Cond.initialized RX3, Cond.code yX3_leaveEnded cX3_leaveEnded 2 none, Cond.fieldLink RX3 21 "BarrelRaft$Raft" "castaways" "LBarrelRaft$Castaways;", Cond.fieldLink RX3 28 "BarrelRaft$Raft" "lashings" "LBarrelRaft$Lashings;", Cond.fieldLink RX3 59 "BarrelRaft$Lashings" "number" "I", Cond.fieldLink RX3 62 "BarrelRaft$Lashings" "first" "[I", Cond.methodLink RX3 175 yX1_shareFate, Cond.instanceMethod yX1_shareFate, Cond.selects RX1 yX1_shareFate yX1_shareFate, Cond.initialized RX1, Cond.code yX1_shareFate cX1_shareFate 4 none, Cond.fieldLink RX1 18 "BarrelRaft$Castaways" "number" "I", Cond.fieldLink RX1 9 "BarrelRaft$Castaways" "seat" "[I", Cond.fieldLink RX1 28 "BarrelRaft$Barrels" "state" "[I", Cond.fieldLink RX1 15 "BarrelRaft$Castaways" "state" "[I", Cond.methodLink RX1 22 yX0_has, Cond.methodLink RX3 136 yX2_undo, Cond.instanceMethod yX2_undo, Cond.selects RX2 yX2_undo yX2_undo, Cond.initialized RX2, Cond.code yX2_undo cX2_undo 2 none, Cond.fieldLink RX2 18 "BarrelRaft$Lashings" "strength" "[I", Cond.methodLink RX3 143 yX2_sweep, Cond.instanceMethod yX2_sweep]
def wsX3_saveAshore_r3 : List Cond := [Cond.selects RX2 yX2_sweep yX2_sweep, Cond.code yX2_sweep cX2_sweep 3 none, Cond.fieldLink RX2 33 "BarrelRaft$Lashings" "number" "I", Cond.methodLink RX2 52 yX2_move, Cond.instanceMethod yX2_move, Cond.selects RX2 yX2_move yX2_move, Cond.code yX2_move cX2_move 3 none, Cond.fieldLink RX2 9 "BarrelRaft$Lashings" "first" "[I", Cond.fieldLink RX2 15 "BarrelRaft$Lashings" "second" "[I", Cond.fieldLink RX2 21 "BarrelRaft$Lashings" "wear" "[I"]
def wsX3_saveAshore : List Cond := .code yX3_saveAshore cX3_saveAshore 3 none :: ((wsX3_saveAshore_r1 ++ (wsX3_saveAshore_r2 ++ wsX3_saveAshore_r3)) ++ wsX30 ++ wsX00 ++ wsX20 ++ wsX10)
def wsX3_passHours_r1 : List Cond := [Cond.fieldLink RX3 12 "BarrelRaft$Raft" "barrels" "LBarrelRaft$Barrels;", Cond.fieldLink RX3 49 "BarrelRaft$Raft" "hour" "I", Cond.methodLink RX3 96 yX0_firstAfloat, Cond.instanceMethod yX0_firstAfloat, Cond.selects RX0 yX0_firstAfloat yX0_firstAfloat, Cond.initialized RX0, Cond.code yX0_firstAfloat cX0_firstAfloat 2 (some .int), Cond.fieldLink RX0 45 "BarrelRaft$Barrels" "number" "I", Cond.fieldLink RX0 33 "BarrelRaft$Barrels" "state" "[I", Cond.methodLink RX3 100 yX0_takeInWater, Cond.instanceMethod yX0_takeInWater, Cond.selects RX0 yX0_takeInWater yX0_takeInWater, Cond.code yX0_takeInWater cX0_takeInWater 2 none, Cond.fieldLink RX0 24 "BarrelRaft$Barrels" "water" "[I", Cond.fieldLink RX0 21 "BarrelRaft$Barrels" "leak" "[I", Cond.methodLink RX0 66 Lib.Math.min.name, Cond.static Lib.Math.min.name, Cond.initialized "java/lang/Math", Cond.code Lib.Math.min.name Lib.Math.min.code 2 (some .int), Cond.methodLink RX3 103 yX3_loseOverloaded, Cond.instanceMethod yX3_loseOverloaded, Cond.selects RX3 yX3_loseOverloaded yX3_loseOverloaded, Cond.initialized RX3, Cond.code yX3_loseOverloaded cX3_loseOverloaded 4 none]
def wsX3_passHours_r2 : List Cond := [Cond.fieldLink RX3 119 "BarrelRaft$Barrels" "number" "I", Cond.fieldLink RX3 120 "BarrelRaft$Barrels" "piece" "[I", Cond.fieldLink RX3 36 "BarrelRaft$Raft" "pieceLoad" "[I", Cond.fieldLink RX3 32 "BarrelRaft$Raft" "pieceLift" "[I", Cond.methodLink RX3 116 yX3_weighPieces, Cond.instanceMethod yX3_weighPieces, Cond.selects RX3 yX3_weighPieces yX3_weighPieces, Cond.code yX3_weighPieces cX3_weighPieces 3 none, Cond.methodLink RX3 178 yX0_liftNow, Cond.instanceMethod yX0_liftNow, Cond.selects RX0 yX0_liftNow yX0_liftNow, Cond.code yX0_liftNow cX0_liftNow 2 (some .int), Cond.fieldLink RX0 18 "BarrelRaft$Barrels" "lift" "[I", Cond.methodLink RX3 88 yX0_loadOf, Cond.instanceMethod yX0_loadOf, Cond.selects RX0 yX0_loadOf yX0_loadOf, Cond.code yX0_loadOf cX0_loadOf 2 (some .int), Cond.fieldLink RX0 27 "BarrelRaft$Barrels" "goods" "[I", Cond.fieldLink RX0 30 "BarrelRaft$Barrels" "people" "[I", Cond.methodLink RX3 123 yX0_end, Cond.instanceMethod yX0_end, Cond.selects RX0 yX0_end yX0_end, Cond.code yX0_end cX0_end 3 none, Cond.fieldLink RX0 42 "BarrelRaft$Barrels" "piece" "[I"]
def wsX3_passHours_r3 : List Cond := [Cond.methodLink RX3 126 yX3_leaveEnded, Cond.instanceMethod yX3_leaveEnded, Cond.selects RX3 yX3_leaveEnded yX3_leaveEnded, Cond.code yX3_leaveEnded cX3_leaveEnded 2 none, Cond.fieldLink RX3 21 "BarrelRaft$Raft" "castaways" "LBarrelRaft$Castaways;", Cond.fieldLink RX3 28 "BarrelRaft$Raft" "lashings" "LBarrelRaft$Lashings;", Cond.fieldLink RX3 59 "BarrelRaft$Lashings" "number" "I", Cond.fieldLink RX3 62 "BarrelRaft$Lashings" "first" "[I", Cond.methodLink RX3 175 yX1_shareFate, Cond.instanceMethod yX1_shareFate, Cond.selects RX1 yX1_shareFate yX1_shareFate, Cond.initialized RX1, Cond.code yX1_shareFate cX1_shareFate 4 none, Cond.fieldLink RX1 18 "BarrelRaft$Castaways" "number" "I", Cond.fieldLink RX1 9 "BarrelRaft$Castaways" "seat" "[I", Cond.fieldLink RX1 28 "BarrelRaft$Barrels" "state" "[I", Cond.fieldLink RX1 15 "BarrelRaft$Castaways" "state" "[I", Cond.methodLink RX1 22 yX0_has, Cond.instanceMethod yX0_has, Cond.selects RX0 yX0_has yX0_has, Cond.code yX0_has cX0_has 2 (some .boolean), Cond.methodLink RX3 171 yX0_floats, Cond.instanceMethod yX0_floats, Cond.selects RX0 yX0_floats yX0_floats]
def wsX3_passHours_r4 : List Cond := [Cond.code yX0_floats cX0_floats 2 (some .boolean), Cond.methodLink RX0 49 yX0_has, Cond.methodLink RX3 136 yX2_undo, Cond.instanceMethod yX2_undo, Cond.selects RX2 yX2_undo yX2_undo, Cond.initialized RX2, Cond.code yX2_undo cX2_undo 2 none, Cond.fieldLink RX2 18 "BarrelRaft$Lashings" "strength" "[I", Cond.methodLink RX3 143 yX2_sweep, Cond.instanceMethod yX2_sweep, Cond.selects RX2 yX2_sweep yX2_sweep, Cond.code yX2_sweep cX2_sweep 3 none, Cond.fieldLink RX2 33 "BarrelRaft$Lashings" "number" "I", Cond.methodLink RX2 52 yX2_move, Cond.instanceMethod yX2_move, Cond.selects RX2 yX2_move yX2_move, Cond.code yX2_move cX2_move 3 none, Cond.fieldLink RX2 9 "BarrelRaft$Lashings" "first" "[I", Cond.fieldLink RX2 15 "BarrelRaft$Lashings" "second" "[I", Cond.fieldLink RX2 21 "BarrelRaft$Lashings" "wear" "[I", Cond.methodLink RX3 106 yX3_wearLashings, Cond.instanceMethod yX3_wearLashings, Cond.selects RX3 yX3_wearLashings yX3_wearLashings, Cond.code yX3_wearLashings cX3_wearLashings 5 none]
def wsX3_passHours_r5 : List Cond := [Cond.fieldLink RX3 140 "BarrelRaft$Lashings" "wear" "[I", Cond.fieldLink RX3 53 "BarrelRaft$Raft" "broken" "I", Cond.methodLink RX3 129 yX3_stress, Cond.instanceMethod yX3_stress, Cond.selects RX3 yX3_stress yX3_stress, Cond.code yX3_stress cX3_stress 6 (some .int), Cond.fieldLink RX3 65 "BarrelRaft$Lashings" "second" "[I", Cond.fieldLink RX3 72 "BarrelRaft$Barrels" "x" "[I", Cond.fieldLink RX3 75 "BarrelRaft$Barrels" "y" "[I", Cond.methodLink RX3 91 Lib.Math.abs.name, Cond.static Lib.Math.abs.name, Cond.code Lib.Math.abs.name Lib.Math.abs.code 1 (some .int), Cond.methodLink RX3 78 yX4_at, Cond.instanceMethod yX4_at, Cond.selects RX4 yX4_at yX4_at, Cond.initialized RX4, Cond.code yX4_at cX4_at 3 (some .int), Cond.fieldLink RX4 21 "BarrelRaft$Waters" "counting" "[I", Cond.static yX6_isSea, Cond.initialized RX6, Cond.code yX6_isSea cX6_isSea 2 (some .boolean), Cond.methodLink RX3 84 yX4_waveOf, Cond.instanceMethod yX4_waveOf, Cond.selects RX4 yX4_waveOf yX4_waveOf]
def wsX3_passHours_r6 : List Cond := [Cond.code yX4_waveOf cX4_waveOf 2 (some .int), Cond.fieldLink RX4 18 "BarrelRaft$Waters" "wave" "[I", Cond.methodLink RX4 38 yX4_has, Cond.instanceMethod yX4_has, Cond.selects RX4 yX4_has yX4_has, Cond.code yX4_has cX4_has 2 (some .boolean), Cond.fieldLink RX4 34 "BarrelRaft$Waters" "number" "I", Cond.methodLink RX3 133 yX2_left, Cond.instanceMethod yX2_left, Cond.selects RX2 yX2_left yX2_left, Cond.code yX2_left cX2_left 2 (some .int), Cond.methodLink RX3 146 yX3_findPieces, Cond.instanceMethod yX3_findPieces, Cond.selects RX3 yX3_findPieces yX3_findPieces, Cond.code yX3_findPieces cX3_findPieces 2 none, Cond.methodLink RX3 56 yX0_standAlone, Cond.instanceMethod yX0_standAlone, Cond.selects RX0 yX0_standAlone yX0_standAlone, Cond.code yX0_standAlone cX0_standAlone 2 none, Cond.methodLink RX3 68 yX0_join, Cond.instanceMethod yX0_join, Cond.selects RX0 yX0_join yX0_join, Cond.code yX0_join cX0_join 6 none, Cond.methodLink RX0 70 Lib.Math.max.name]
def wsX3_passHours_r7 : List Cond := [Cond.static Lib.Math.max.name, Cond.code Lib.Math.max.name Lib.Math.max.code 2 (some .int), Cond.methodLink RX3 110 yX3_drift, Cond.instanceMethod yX3_drift, Cond.selects RX3 yX3_drift yX3_drift, Cond.code yX3_drift cX3_drift 4 none, Cond.methodLink RX3 149 yX3_driftPiece, Cond.instanceMethod yX3_driftPiece, Cond.selects RX3 yX3_driftPiece yX3_driftPiece, Cond.code yX3_driftPiece cX3_driftPiece 6 none, Cond.fieldLink RX3 159 "BarrelRaft$Waters" "windDx" "I", Cond.fieldLink RX3 162 "BarrelRaft$Waters" "windDy" "I", Cond.methodLink RX3 165 Lib.Math.min.name, Cond.methodLink RX3 168 Lib.Math.max.name, Cond.methodLink RX3 153 yX4_dxOf, Cond.instanceMethod yX4_dxOf, Cond.selects RX4 yX4_dxOf yX4_dxOf, Cond.code yX4_dxOf cX4_dxOf 2 (some .int), Cond.fieldLink RX4 9 "BarrelRaft$Waters" "dx" "[I", Cond.methodLink RX3 156 yX4_dyOf, Cond.instanceMethod yX4_dyOf, Cond.selects RX4 yX4_dyOf yX4_dyOf, Cond.code yX4_dyOf cX4_dyOf 2 (some .int), Cond.fieldLink RX4 15 "BarrelRaft$Waters" "dy" "[I"]
def wsX3_passHours_r8 : List Cond := [Cond.methodLink RX3 113 yX3_saveAshore, Cond.instanceMethod yX3_saveAshore, Cond.selects RX3 yX3_saveAshore yX3_saveAshore, Cond.code yX3_saveAshore cX3_saveAshore 3 none]
def wsX3_passHours : List Cond := .code yX3_passHours cX3_passHours 4 none :: ((wsX3_passHours_r1 ++ (wsX3_passHours_r2 ++ (wsX3_passHours_r3 ++ (wsX3_passHours_r4 ++ (wsX3_passHours_r5 ++ (wsX3_passHours_r6 ++ (wsX3_passHours_r7 ++ wsX3_passHours_r8))))))) ++ wsX30 ++ wsX00 ++ wsX20 ++ wsX10 ++ wsX40)
def wsJ7_fill_53178 : List Cond := .code yJ7_fill_53178 cJ7_fill_53178 4 none :: ([])
def wsX4_init : List Cond := .code yX4_init cX4_init 1 none :: ([.methodLink RX4 3 objectInit, .instanceMethod objectInit, .code objectInit ⟨#[0xb1]⟩ 1 none, .arrayClass .int, .fieldLink RX4 9 "BarrelRaft$Waters" "dx" "[I", .fieldLink RX4 15 "BarrelRaft$Waters" "dy" "[I", .fieldLink RX4 18 "BarrelRaft$Waters" "wave" "[I", .fieldLink RX4 21 "BarrelRaft$Waters" "counting" "[I", .methodLink RX4 24 yJ7_fill_53178, .static yJ7_fill_53178, .initialized RJ7, .code yJ7_fill_53178 cJ7_fill_53178 4 none] ++ wsX40)
def wsX4_cover : List Cond := .code yX4_cover cX4_cover 7 none :: ([.fieldLink RX4 21 "BarrelRaft$Waters" "counting" "[I", .fieldLink RX4 34 "BarrelRaft$Waters" "number" "I", .static yX6_isSea, .initialized RX6, .code yX6_isSea cX6_isSea 2 (some .boolean)] ++ wsX40)
def wsX4_append : List Cond := .code yX4_append cX4_append 5 (some .int) :: ([.fieldLink RX4 34 "BarrelRaft$Waters" "number" "I", .fieldLink RX4 9 "BarrelRaft$Waters" "dx" "[I", .fieldLink RX4 15 "BarrelRaft$Waters" "dy" "[I", .fieldLink RX4 18 "BarrelRaft$Waters" "wave" "[I"] ++ wsX40)
def wsX5_init : List Cond := .code yX5_init cX5_init 1 none :: ([.methodLink RX5 3 objectInit, .instanceMethod objectInit, .code objectInit ⟨#[0xb1]⟩ 1 none, .arrayClass .int, .fieldLink RX5 9 "BarrelRaft$Ways" "used" "[I", .fieldLink RX5 15 "BarrelRaft$Ways" "cameBy" "[I", .fieldLink RX5 18 "BarrelRaft$Ways" "reached" "[I", .fieldLink RX5 21 "BarrelRaft$Ways" "best" "[I"] ++ wsX50)
def wsX5_direction : List Cond := .code yX5_direction cX5_direction 4 (some .int) :: ([.fieldLink RX5 56 "BarrelRaft$Lashings" "first" "[I"] ++ wsX20)
def wsX5_reachFrom : List Cond := .code yX5_reachFrom cX5_reachFrom 8 (some .int) :: ([.fieldLink RX5 30 "BarrelRaft$Lashings" "number" "I", .fieldLink RX5 15 "BarrelRaft$Ways" "cameBy" "[I", .fieldLink RX5 9 "BarrelRaft$Ways" "used" "[I", .fieldLink RX5 18 "BarrelRaft$Ways" "reached" "[I", .methodLink RX5 48 yX2_leadsTo, .instanceMethod yX2_leadsTo, .selects RX2 yX2_leadsTo yX2_leadsTo, .initialized RX2, .code yX2_leadsTo cX2_leadsTo 3 (some .int), .fieldLink RX2 9 "BarrelRaft$Lashings" "first" "[I", .fieldLink RX2 15 "BarrelRaft$Lashings" "second" "[I", .methodLink RX5 52 yX5_direction, .instanceMethod yX5_direction, .selects RX5 yX5_direction yX5_direction, .initialized RX5, .code yX5_direction cX5_direction 4 (some .int), .fieldLink RX5 56 "BarrelRaft$Lashings" "first" "[I"] ++ wsX20 ++ wsX50)
def wsX5_findWay_r1 : List Cond := [Cond.fieldLink RX5 15 "BarrelRaft$Ways" "cameBy" "[I", Cond.fieldLink RX5 18 "BarrelRaft$Ways" "reached" "[I", Cond.methodLink RX5 24 yJ7_fill_53178, Cond.static yJ7_fill_53178, Cond.initialized RJ7, Cond.code yJ7_fill_53178 cJ7_fill_53178 4 none, Cond.methodLink RX5 44 yX5_reachFrom, Cond.instanceMethod yX5_reachFrom, Cond.selects RX5 yX5_reachFrom yX5_reachFrom, Cond.initialized RX5, Cond.code yX5_reachFrom cX5_reachFrom 8 (some .int), Cond.fieldLink RX5 30 "BarrelRaft$Lashings" "number" "I", Cond.fieldLink RX5 9 "BarrelRaft$Ways" "used" "[I", Cond.methodLink RX5 48 yX2_leadsTo, Cond.instanceMethod yX2_leadsTo, Cond.selects RX2 yX2_leadsTo yX2_leadsTo, Cond.initialized RX2, Cond.code yX2_leadsTo cX2_leadsTo 3 (some .int), Cond.fieldLink RX2 9 "BarrelRaft$Lashings" "first" "[I", Cond.fieldLink RX2 15 "BarrelRaft$Lashings" "second" "[I", Cond.methodLink RX5 52 yX5_direction, Cond.instanceMethod yX5_direction, Cond.selects RX5 yX5_direction yX5_direction, Cond.code yX5_direction cX5_direction 4 (some .int)]
def wsX5_findWay_r2 : List Cond := [Cond.fieldLink RX5 56 "BarrelRaft$Lashings" "first" "[I"]
def wsX5_findWay : List Cond := .code yX5_findWay cX5_findWay 6 (some .boolean) :: ((wsX5_findWay_r1 ++ wsX5_findWay_r2) ++ wsX50 ++ wsX20)
def wsX5_useWay : List Cond := .code yX5_useWay cX5_useWay 8 none :: ([.fieldLink RX5 15 "BarrelRaft$Ways" "cameBy" "[I", .fieldLink RX5 9 "BarrelRaft$Ways" "used" "[I", .methodLink RX5 48 yX2_leadsTo, .instanceMethod yX2_leadsTo, .selects RX2 yX2_leadsTo yX2_leadsTo, .initialized RX2, .code yX2_leadsTo cX2_leadsTo 3 (some .int), .fieldLink RX2 9 "BarrelRaft$Lashings" "first" "[I", .fieldLink RX2 15 "BarrelRaft$Lashings" "second" "[I", .methodLink RX5 52 yX5_direction, .instanceMethod yX5_direction, .selects RX5 yX5_direction yX5_direction, .initialized RX5, .code yX5_direction cX5_direction 4 (some .int), .fieldLink RX5 56 "BarrelRaft$Lashings" "first" "[I"] ++ wsX50 ++ wsX20)
def wsX5_countApart_r1 : List Cond := [Cond.fieldLink RX5 9 "BarrelRaft$Ways" "used" "[I", Cond.fieldLink RX5 30 "BarrelRaft$Lashings" "number" "I", Cond.methodLink RX5 24 yJ7_fill_53178, Cond.static yJ7_fill_53178, Cond.initialized RJ7, Cond.code yJ7_fill_53178 cJ7_fill_53178 4 none, Cond.methodLink RX5 36 yX5_findWay, Cond.instanceMethod yX5_findWay, Cond.selects RX5 yX5_findWay yX5_findWay, Cond.initialized RX5, Cond.code yX5_findWay cX5_findWay 6 (some .boolean), Cond.fieldLink RX5 15 "BarrelRaft$Ways" "cameBy" "[I", Cond.fieldLink RX5 18 "BarrelRaft$Ways" "reached" "[I", Cond.methodLink RX5 44 yX5_reachFrom, Cond.instanceMethod yX5_reachFrom, Cond.selects RX5 yX5_reachFrom yX5_reachFrom, Cond.code yX5_reachFrom cX5_reachFrom 8 (some .int), Cond.methodLink RX5 48 yX2_leadsTo, Cond.instanceMethod yX2_leadsTo, Cond.selects RX2 yX2_leadsTo yX2_leadsTo, Cond.initialized RX2, Cond.code yX2_leadsTo cX2_leadsTo 3 (some .int), Cond.fieldLink RX2 9 "BarrelRaft$Lashings" "first" "[I", Cond.fieldLink RX2 15 "BarrelRaft$Lashings" "second" "[I"]
def wsX5_countApart_r2 : List Cond := [Cond.methodLink RX5 52 yX5_direction, Cond.instanceMethod yX5_direction, Cond.selects RX5 yX5_direction yX5_direction, Cond.code yX5_direction cX5_direction 4 (some .int), Cond.fieldLink RX5 56 "BarrelRaft$Lashings" "first" "[I", Cond.methodLink RX5 40 yX5_useWay, Cond.instanceMethod yX5_useWay, Cond.selects RX5 yX5_useWay yX5_useWay, Cond.code yX5_useWay cX5_useWay 8 none]
def wsX5_countApart : List Cond := .code yX5_countApart cX5_countApart 5 (some .int) :: ((wsX5_countApart_r1 ++ wsX5_countApart_r2) ++ wsX50 ++ wsX20)
def wsX5_strengthen : List Cond := .code yX5_strengthen cX5_strengthen 7 (some .boolean) :: ([.fieldLink RX5 30 "BarrelRaft$Lashings" "number" "I", .fieldLink RX5 56 "BarrelRaft$Lashings" "first" "[I", .fieldLink RX5 63 "BarrelRaft$Lashings" "second" "[I", .fieldLink RX5 21 "BarrelRaft$Ways" "best" "[I", .methodLink RX5 70 Lib.Math.max.name, .static Lib.Math.max.name, .initialized "java/lang/Math", .code Lib.Math.max.name Lib.Math.max.code 2 (some .int), .methodLink RX5 75 Lib.Math.min.name, .static Lib.Math.min.name, .code Lib.Math.min.name Lib.Math.min.code 2 (some .int), .methodLink RX5 66 yX2_left, .instanceMethod yX2_left, .selects RX2 yX2_left yX2_left, .initialized RX2, .code yX2_left cX2_left 2 (some .int), .fieldLink RX2 18 "BarrelRaft$Lashings" "strength" "[I", .fieldLink RX2 21 "BarrelRaft$Lashings" "wear" "[I"] ++ wsX20 ++ wsX50)
def wsX5_strongest_r1 : List Cond := [Cond.fieldLink RX5 21 "BarrelRaft$Ways" "best" "[I", Cond.methodLink RX5 24 yJ7_fill_53178, Cond.static yJ7_fill_53178, Cond.initialized RJ7, Cond.code yJ7_fill_53178 cJ7_fill_53178 4 none, Cond.methodLink RX5 59 yX5_strengthen, Cond.instanceMethod yX5_strengthen, Cond.selects RX5 yX5_strengthen yX5_strengthen, Cond.initialized RX5, Cond.code yX5_strengthen cX5_strengthen 7 (some .boolean), Cond.fieldLink RX5 30 "BarrelRaft$Lashings" "number" "I", Cond.fieldLink RX5 56 "BarrelRaft$Lashings" "first" "[I", Cond.fieldLink RX5 63 "BarrelRaft$Lashings" "second" "[I", Cond.methodLink RX5 70 Lib.Math.max.name, Cond.static Lib.Math.max.name, Cond.initialized "java/lang/Math", Cond.code Lib.Math.max.name Lib.Math.max.code 2 (some .int), Cond.methodLink RX5 75 Lib.Math.min.name, Cond.static Lib.Math.min.name, Cond.code Lib.Math.min.name Lib.Math.min.code 2 (some .int), Cond.methodLink RX5 66 yX2_left, Cond.instanceMethod yX2_left, Cond.selects RX2 yX2_left yX2_left, Cond.initialized RX2]
def wsX5_strongest_r2 : List Cond := [Cond.code yX2_left cX2_left 2 (some .int), Cond.fieldLink RX2 18 "BarrelRaft$Lashings" "strength" "[I", Cond.fieldLink RX2 21 "BarrelRaft$Lashings" "wear" "[I"]
def wsX5_strongest : List Cond := .code yX5_strongest cX5_strongest 6 (some .int) :: ((wsX5_strongest_r1 ++ wsX5_strongest_r2) ++ wsX50 ++ wsX20)
def wsX6_init_r1 : List Cond := [Cond.methodLink RX6 3 objectInit, Cond.instanceMethod objectInit, Cond.code objectInit ⟨#[0xb1]⟩ 1 none, Cond.classLink RX6 9 RX4, Cond.instantiable RX4 7, Cond.initialized RX4, Cond.fieldLink RX6 12 "BarrelRaft" "waters" "LBarrelRaft$Waters;", Cond.classLink RX6 16 RX3, Cond.instantiable RX3 7, Cond.initialized RX3, Cond.fieldLink RX6 19 "BarrelRaft" "raft" "LBarrelRaft$Raft;", Cond.fieldLink RX6 23 "BarrelRaft" "trial" "LBarrelRaft$Raft;", Cond.classLink RX6 26 RX5, Cond.instantiable RX5 4, Cond.initialized RX5, Cond.fieldLink RX6 29 "BarrelRaft" "ways" "LBarrelRaft$Ways;", Cond.fieldLink RX6 33 "BarrelRaft" "ropes" "I", Cond.methodLink RX6 11 yX4_init, Cond.instanceMethod yX4_init, Cond.code yX4_init cX4_init 1 none, Cond.methodLink RX4 3 objectInit, Cond.arrayClass .int, Cond.fieldLink RX4 9 "BarrelRaft$Waters" "dx" "[I", Cond.fieldLink RX4 15 "BarrelRaft$Waters" "dy" "[I"]
def wsX6_init_r2 : List Cond := [Cond.fieldLink RX4 18 "BarrelRaft$Waters" "wave" "[I", Cond.fieldLink RX4 21 "BarrelRaft$Waters" "counting" "[I", Cond.methodLink RX4 24 yJ7_fill_53178, Cond.static yJ7_fill_53178, Cond.initialized RJ7, Cond.code yJ7_fill_53178 cJ7_fill_53178 4 none, Cond.instanceMethod yX3_init, Cond.code yX3_init cX3_init 1 none, Cond.methodLink RX3 3 objectInit, Cond.classLink RX3 9 RX0, Cond.instantiable RX0 12, Cond.initialized RX0, Cond.fieldLink RX3 12 "BarrelRaft$Raft" "barrels" "LBarrelRaft$Barrels;", Cond.classLink RX3 18 RX1, Cond.instantiable RX1 3, Cond.initialized RX1, Cond.fieldLink RX3 21 "BarrelRaft$Raft" "castaways" "LBarrelRaft$Castaways;", Cond.classLink RX3 25 RX2, Cond.instantiable RX2 5, Cond.initialized RX2, Cond.fieldLink RX3 28 "BarrelRaft$Raft" "lashings" "LBarrelRaft$Lashings;", Cond.fieldLink RX3 32 "BarrelRaft$Raft" "pieceLift" "[I", Cond.fieldLink RX3 36 "BarrelRaft$Raft" "pieceLoad" "[I", Cond.instanceMethod yX0_init]
def wsX6_init_r3 : List Cond := [Cond.code yX0_init cX0_init 1 none, Cond.methodLink RX0 3 objectInit, Cond.fieldLink RX0 9 "BarrelRaft$Barrels" "column" "[I", Cond.fieldLink RX0 15 "BarrelRaft$Barrels" "row" "[I", Cond.fieldLink RX0 18 "BarrelRaft$Barrels" "lift" "[I", Cond.fieldLink RX0 21 "BarrelRaft$Barrels" "leak" "[I", Cond.fieldLink RX0 24 "BarrelRaft$Barrels" "water" "[I", Cond.fieldLink RX0 27 "BarrelRaft$Barrels" "goods" "[I", Cond.fieldLink RX0 30 "BarrelRaft$Barrels" "people" "[I", Cond.fieldLink RX0 33 "BarrelRaft$Barrels" "state" "[I", Cond.fieldLink RX0 36 "BarrelRaft$Barrels" "x" "[I", Cond.fieldLink RX0 39 "BarrelRaft$Barrels" "y" "[I", Cond.fieldLink RX0 42 "BarrelRaft$Barrels" "piece" "[I", Cond.instanceMethod yX1_init, Cond.code yX1_init cX1_init 1 none, Cond.methodLink RX1 3 objectInit, Cond.fieldLink RX1 9 "BarrelRaft$Castaways" "seat" "[I", Cond.fieldLink RX1 15 "BarrelRaft$Castaways" "state" "[I", Cond.instanceMethod yX2_init, Cond.code yX2_init cX2_init 1 none, Cond.methodLink RX2 3 objectInit, Cond.fieldLink RX2 9 "BarrelRaft$Lashings" "first" "[I", Cond.fieldLink RX2 15 "BarrelRaft$Lashings" "second" "[I", Cond.fieldLink RX2 18 "BarrelRaft$Lashings" "strength" "[I"]
def wsX6_init_r4 : List Cond := [Cond.fieldLink RX2 21 "BarrelRaft$Lashings" "wear" "[I", Cond.instanceMethod yX5_init, Cond.code yX5_init cX5_init 1 none, Cond.methodLink RX5 3 objectInit, Cond.fieldLink RX5 9 "BarrelRaft$Ways" "used" "[I", Cond.fieldLink RX5 15 "BarrelRaft$Ways" "cameBy" "[I", Cond.fieldLink RX5 18 "BarrelRaft$Ways" "reached" "[I", Cond.fieldLink RX5 21 "BarrelRaft$Ways" "best" "[I"]
def wsX6_init : List Cond := .code yX6_init cX6_init 1 none :: ((wsX6_init_r1 ++ (wsX6_init_r2 ++ (wsX6_init_r3 ++ wsX6_init_r4))) ++ wsX40 ++ wsX60 ++ wsX30 ++ wsX50 ++ wsX00 ++ wsX10 ++ wsX20)
def wsX6_isFlow : List Cond := .code yX6_isFlow cX6_isFlow 1 (some .boolean) :: ([])
def wsX6_addWater_r1 : List Cond := [Cond.classLink RX6 41 "java/lang/IllegalArgumentException", Cond.initialized "java/lang/IllegalArgumentException", Cond.classLink RX6 59 "java/lang/IllegalStateException", Cond.initialized "java/lang/IllegalStateException", Cond.fieldLink RX6 12 "BarrelRaft" "waters" "LBarrelRaft$Waters;", Cond.fieldLink RX6 56 "BarrelRaft$Waters" "number" "I", Cond.methodLink RX6 37 yX6_isSea, Cond.static yX6_isSea, Cond.initialized RX6, Cond.code yX6_isSea cX6_isSea 2 (some .boolean), Cond.methodLink RX6 50 yX6_isFlow, Cond.static yX6_isFlow, Cond.code yX6_isFlow cX6_isFlow 1 (some .boolean), Cond.methodLink RX6 64 yX4_cover, Cond.instanceMethod yX4_cover, Cond.selects RX4 yX4_cover yX4_cover, Cond.initialized RX4, Cond.code yX4_cover cX4_cover 7 none, Cond.fieldLink RX4 21 "BarrelRaft$Waters" "counting" "[I", Cond.fieldLink RX4 34 "BarrelRaft$Waters" "number" "I", Cond.methodLink RX6 68 yX4_append, Cond.instanceMethod yX4_append, Cond.selects RX4 yX4_append yX4_append, Cond.code yX4_append cX4_append 5 (some .int)]
def wsX6_addWater_r2 : List Cond := [Cond.fieldLink RX4 9 "BarrelRaft$Waters" "dx" "[I", Cond.fieldLink RX4 15 "BarrelRaft$Waters" "dy" "[I", Cond.fieldLink RX4 18 "BarrelRaft$Waters" "wave" "[I"]
def wsX6_addWater : List Cond := .code yX6_addWater cX6_addWater 8 (some .int) :: ((wsX6_addWater_r1 ++ wsX6_addWater_r2) ++ wsX60 ++ wsX40 ++ (vx_atS RX6 45 "java/lang/IllegalArgumentException" ["java/lang/RuntimeException", "java/lang/Exception"]).filter goodWord ++ (vx_atS RX6 63 "java/lang/IllegalStateException" ["java/lang/RuntimeException", "java/lang/Exception"]).filter goodWord)
def wsX6_setWind : List Cond := .code yX6_setWind cX6_setWind 4 (some .int) :: ([.classLink RX6 41 "java/lang/IllegalArgumentException", .initialized "java/lang/IllegalArgumentException", .fieldLink RX6 12 "BarrelRaft" "waters" "LBarrelRaft$Waters;", .fieldLink RX6 105 "BarrelRaft$Waters" "windDx" "I", .fieldLink RX6 108 "BarrelRaft$Waters" "windDy" "I", .methodLink RX6 50 yX6_isFlow, .static yX6_isFlow, .initialized RX6, .code yX6_isFlow cX6_isFlow 1 (some .boolean)] ++ wsX60 ++ wsX40 ++ (vx_atS RX6 45 "java/lang/IllegalArgumentException" ["java/lang/RuntimeException", "java/lang/Exception"]).filter goodWord)
def wsX6_isBelow : List Cond := .code yX6_isBelow cX6_isBelow 2 (some .boolean) :: ([])
def wsX6_addBarrel_r1 : List Cond := [Cond.classLink RX6 41 "java/lang/IllegalArgumentException", Cond.initialized "java/lang/IllegalArgumentException", Cond.classLink RX6 59 "java/lang/IllegalStateException", Cond.initialized "java/lang/IllegalStateException", Cond.fieldLink RX6 19 "BarrelRaft" "raft" "LBarrelRaft$Raft;", Cond.fieldLink RX6 94 "BarrelRaft$Raft" "barrels" "LBarrelRaft$Barrels;", Cond.fieldLink RX6 118 "BarrelRaft$Barrels" "number" "I", Cond.methodLink RX6 72 yX6_isBelow, Cond.static yX6_isBelow, Cond.initialized RX6, Cond.code yX6_isBelow cX6_isBelow 2 (some .boolean), Cond.methodLink RX6 115 yX0_liesAt, Cond.instanceMethod yX0_liesAt, Cond.selects RX0 yX0_liesAt yX0_liesAt, Cond.initialized RX0, Cond.code yX0_liesAt cX0_liesAt 4 (some .boolean), Cond.fieldLink RX0 45 "BarrelRaft$Barrels" "number" "I", Cond.fieldLink RX0 9 "BarrelRaft$Barrels" "column" "[I", Cond.fieldLink RX0 15 "BarrelRaft$Barrels" "row" "[I", Cond.methodLink RX6 121 yX0_append, Cond.instanceMethod yX0_append, Cond.selects RX0 yX0_append yX0_append, Cond.code yX0_append cX0_append 7 (some .int), Cond.fieldLink RX0 36 "BarrelRaft$Barrels" "x" "[I"]
def wsX6_addBarrel_r2 : List Cond := [Cond.fieldLink RX0 39 "BarrelRaft$Barrels" "y" "[I", Cond.fieldLink RX0 18 "BarrelRaft$Barrels" "lift" "[I", Cond.fieldLink RX0 21 "BarrelRaft$Barrels" "leak" "[I", Cond.fieldLink RX0 42 "BarrelRaft$Barrels" "piece" "[I", Cond.methodLink RX0 62 yX0_firstAfloat, Cond.instanceMethod yX0_firstAfloat, Cond.selects RX0 yX0_firstAfloat yX0_firstAfloat, Cond.code yX0_firstAfloat cX0_firstAfloat 2 (some .int), Cond.fieldLink RX0 33 "BarrelRaft$Barrels" "state" "[I"]
def wsX6_addBarrel : List Cond := .code yX6_addBarrel cX6_addBarrel 5 (some .int) :: ((wsX6_addBarrel_r1 ++ wsX6_addBarrel_r2) ++ wsX60 ++ wsX30 ++ wsX00 ++ (vx_atS RX6 45 "java/lang/IllegalArgumentException" ["java/lang/RuntimeException", "java/lang/Exception"]).filter goodWord ++ (vx_atS RX6 63 "java/lang/IllegalStateException" ["java/lang/RuntimeException", "java/lang/Exception"]).filter goodWord)
def wsX6_tie_r1 : List Cond := [Cond.classLink RX6 75 "java/lang/IndexOutOfBoundsException", Cond.initialized "java/lang/IndexOutOfBoundsException", Cond.classLink RX6 41 "java/lang/IllegalArgumentException", Cond.initialized "java/lang/IllegalArgumentException", Cond.classLink RX6 59 "java/lang/IllegalStateException", Cond.initialized "java/lang/IllegalStateException", Cond.fieldLink RX6 19 "BarrelRaft" "raft" "LBarrelRaft$Raft;", Cond.fieldLink RX6 94 "BarrelRaft$Raft" "barrels" "LBarrelRaft$Barrels;", Cond.fieldLink RX6 33 "BarrelRaft" "ropes" "I", Cond.fieldLink RX6 136 "BarrelRaft$Raft" "lashings" "LBarrelRaft$Lashings;", Cond.methodLink RX6 140 Lib.Math.min.name, Cond.static Lib.Math.min.name, Cond.initialized "java/lang/Math", Cond.code Lib.Math.min.name Lib.Math.min.code 2 (some .int), Cond.methodLink RX6 145 Lib.Math.max.name, Cond.static Lib.Math.max.name, Cond.code Lib.Math.max.name Lib.Math.max.code 2 (some .int), Cond.methodLink RX6 124 yX0_has, Cond.instanceMethod yX0_has, Cond.selects RX0 yX0_has yX0_has, Cond.initialized RX0, Cond.code yX0_has cX0_has 2 (some .boolean), Cond.fieldLink RX0 45 "BarrelRaft$Barrels" "number" "I", Cond.methodLink RX6 131 yX0_canBeTied]
def wsX6_tie_r2 : List Cond := [Cond.instanceMethod yX0_canBeTied, Cond.selects RX0 yX0_canBeTied yX0_canBeTied, Cond.code yX0_canBeTied cX0_canBeTied 4 (some .boolean), Cond.fieldLink RX0 9 "BarrelRaft$Barrels" "column" "[I", Cond.methodLink RX0 56 Lib.Math.abs.name, Cond.static Lib.Math.abs.name, Cond.code Lib.Math.abs.name Lib.Math.abs.code 1 (some .int), Cond.fieldLink RX0 15 "BarrelRaft$Barrels" "row" "[I", Cond.fieldLink RX0 36 "BarrelRaft$Barrels" "x" "[I", Cond.fieldLink RX0 39 "BarrelRaft$Barrels" "y" "[I", Cond.methodLink RX0 53 yX0_floats, Cond.instanceMethod yX0_floats, Cond.selects RX0 yX0_floats yX0_floats, Cond.code yX0_floats cX0_floats 2 (some .boolean), Cond.fieldLink RX0 33 "BarrelRaft$Barrels" "state" "[I", Cond.methodLink RX0 49 yX0_has, Cond.methodLink RX6 148 yX2_make, Cond.instanceMethod yX2_make, Cond.selects RX2 yX2_make yX2_make, Cond.initialized RX2, Cond.code yX2_make cX2_make 5 none, Cond.fieldLink RX2 33 "BarrelRaft$Lashings" "number" "I", Cond.methodLink RX2 37 yX2_find, Cond.instanceMethod yX2_find]
def wsX6_tie_r3 : List Cond := [Cond.selects RX2 yX2_find yX2_find, Cond.code yX2_find cX2_find 6 (some .int), Cond.methodLink RX2 24 Lib.Math.min.name, Cond.methodLink RX2 30 Lib.Math.max.name, Cond.fieldLink RX2 9 "BarrelRaft$Lashings" "first" "[I", Cond.fieldLink RX2 15 "BarrelRaft$Lashings" "second" "[I", Cond.methodLink RX2 40 yX2_renew, Cond.instanceMethod yX2_renew, Cond.selects RX2 yX2_renew yX2_renew, Cond.code yX2_renew cX2_renew 3 none, Cond.fieldLink RX2 18 "BarrelRaft$Lashings" "strength" "[I", Cond.fieldLink RX2 21 "BarrelRaft$Lashings" "wear" "[I", Cond.methodLink RX2 44 yX2_insert, Cond.instanceMethod yX2_insert, Cond.selects RX2 yX2_insert yX2_insert, Cond.code yX2_insert cX2_insert 6 none, Cond.methodLink RX2 48 yX2_isAfter, Cond.instanceMethod yX2_isAfter, Cond.selects RX2 yX2_isAfter yX2_isAfter, Cond.code yX2_isAfter cX2_isAfter 4 (some .boolean), Cond.methodLink RX2 52 yX2_move, Cond.instanceMethod yX2_move, Cond.selects RX2 yX2_move yX2_move, Cond.code yX2_move cX2_move 3 none]
def wsX6_tie_r4 : List Cond := [Cond.methodLink RX6 154 yX3_findPieces, Cond.instanceMethod yX3_findPieces, Cond.selects RX3 yX3_findPieces yX3_findPieces, Cond.initialized RX3, Cond.code yX3_findPieces cX3_findPieces 2 none, Cond.fieldLink RX3 12 "BarrelRaft$Raft" "barrels" "LBarrelRaft$Barrels;", Cond.fieldLink RX3 28 "BarrelRaft$Raft" "lashings" "LBarrelRaft$Lashings;", Cond.fieldLink RX3 59 "BarrelRaft$Lashings" "number" "I", Cond.fieldLink RX3 62 "BarrelRaft$Lashings" "first" "[I", Cond.fieldLink RX3 65 "BarrelRaft$Lashings" "second" "[I", Cond.methodLink RX3 56 yX0_standAlone, Cond.instanceMethod yX0_standAlone, Cond.selects RX0 yX0_standAlone yX0_standAlone, Cond.code yX0_standAlone cX0_standAlone 2 none, Cond.fieldLink RX0 42 "BarrelRaft$Barrels" "piece" "[I", Cond.methodLink RX3 68 yX0_join, Cond.instanceMethod yX0_join, Cond.selects RX0 yX0_join yX0_join, Cond.code yX0_join cX0_join 6 none, Cond.methodLink RX0 66 Lib.Math.min.name, Cond.methodLink RX0 70 Lib.Math.max.name]
def wsX6_tie : List Cond := .code yX6_tie cX6_tie 4 (some .int) :: ((wsX6_tie_r1 ++ (wsX6_tie_r2 ++ (wsX6_tie_r3 ++ wsX6_tie_r4))) ++ wsX60 ++ wsX30 ++ wsX00 ++ wsX20 ++ (vx_atS RX6 79 "java/lang/IndexOutOfBoundsException" ["java/lang/RuntimeException", "java/lang/Exception"]).filter goodWord ++ (vx_atS RX6 45 "java/lang/IllegalArgumentException" ["java/lang/RuntimeException", "java/lang/Exception"]).filter goodWord ++ (vx_atS RX6 63 "java/lang/IllegalStateException" ["java/lang/RuntimeException", "java/lang/Exception"]).filter goodWord)
def wsX6_cut_r1 : List Cond := [Cond.classLink RX6 75 "java/lang/IndexOutOfBoundsException", Cond.initialized "java/lang/IndexOutOfBoundsException", Cond.classLink RX6 59 "java/lang/IllegalStateException", Cond.initialized "java/lang/IllegalStateException", Cond.fieldLink RX6 19 "BarrelRaft" "raft" "LBarrelRaft$Raft;", Cond.fieldLink RX6 94 "BarrelRaft$Raft" "barrels" "LBarrelRaft$Barrels;", Cond.fieldLink RX6 136 "BarrelRaft$Raft" "lashings" "LBarrelRaft$Lashings;", Cond.fieldLink RX6 33 "BarrelRaft" "ropes" "I", Cond.methodLink RX6 140 Lib.Math.min.name, Cond.static Lib.Math.min.name, Cond.initialized "java/lang/Math", Cond.code Lib.Math.min.name Lib.Math.min.code 2 (some .int), Cond.methodLink RX6 124 yX0_has, Cond.instanceMethod yX0_has, Cond.selects RX0 yX0_has yX0_has, Cond.initialized RX0, Cond.code yX0_has cX0_has 2 (some .boolean), Cond.fieldLink RX0 45 "BarrelRaft$Barrels" "number" "I", Cond.methodLink RX6 157 yX2_find, Cond.instanceMethod yX2_find, Cond.selects RX2 yX2_find yX2_find, Cond.initialized RX2, Cond.code yX2_find cX2_find 6 (some .int), Cond.methodLink RX2 24 Lib.Math.min.name]
def wsX6_cut_r2 : List Cond := [Cond.methodLink RX2 30 Lib.Math.max.name, Cond.static Lib.Math.max.name, Cond.code Lib.Math.max.name Lib.Math.max.code 2 (some .int), Cond.fieldLink RX2 33 "BarrelRaft$Lashings" "number" "I", Cond.fieldLink RX2 9 "BarrelRaft$Lashings" "first" "[I", Cond.fieldLink RX2 15 "BarrelRaft$Lashings" "second" "[I", Cond.methodLink RX6 162 yX2_undo, Cond.instanceMethod yX2_undo, Cond.selects RX2 yX2_undo yX2_undo, Cond.code yX2_undo cX2_undo 2 none, Cond.fieldLink RX2 18 "BarrelRaft$Lashings" "strength" "[I", Cond.methodLink RX6 166 yX2_sweep, Cond.instanceMethod yX2_sweep, Cond.selects RX2 yX2_sweep yX2_sweep, Cond.code yX2_sweep cX2_sweep 3 none, Cond.methodLink RX2 52 yX2_move, Cond.instanceMethod yX2_move, Cond.selects RX2 yX2_move yX2_move, Cond.code yX2_move cX2_move 3 none, Cond.fieldLink RX2 21 "BarrelRaft$Lashings" "wear" "[I", Cond.methodLink RX6 154 yX3_findPieces, Cond.instanceMethod yX3_findPieces, Cond.selects RX3 yX3_findPieces yX3_findPieces, Cond.initialized RX3]
def wsX6_cut_r3 : List Cond := [Cond.code yX3_findPieces cX3_findPieces 2 none, Cond.fieldLink RX3 12 "BarrelRaft$Raft" "barrels" "LBarrelRaft$Barrels;", Cond.fieldLink RX3 28 "BarrelRaft$Raft" "lashings" "LBarrelRaft$Lashings;", Cond.fieldLink RX3 59 "BarrelRaft$Lashings" "number" "I", Cond.fieldLink RX3 62 "BarrelRaft$Lashings" "first" "[I", Cond.fieldLink RX3 65 "BarrelRaft$Lashings" "second" "[I", Cond.methodLink RX3 56 yX0_standAlone, Cond.instanceMethod yX0_standAlone, Cond.selects RX0 yX0_standAlone yX0_standAlone, Cond.code yX0_standAlone cX0_standAlone 2 none, Cond.fieldLink RX0 42 "BarrelRaft$Barrels" "piece" "[I", Cond.fieldLink RX0 33 "BarrelRaft$Barrels" "state" "[I", Cond.methodLink RX3 68 yX0_join, Cond.instanceMethod yX0_join, Cond.selects RX0 yX0_join yX0_join, Cond.code yX0_join cX0_join 6 none, Cond.methodLink RX0 66 Lib.Math.min.name, Cond.methodLink RX0 70 Lib.Math.max.name]
def wsX6_cut : List Cond := .code yX6_cut cX6_cut 4 (some .int) :: ((wsX6_cut_r1 ++ (wsX6_cut_r2 ++ wsX6_cut_r3)) ++ wsX60 ++ wsX30 ++ wsX00 ++ wsX20 ++ (vx_atS RX6 79 "java/lang/IndexOutOfBoundsException" ["java/lang/RuntimeException", "java/lang/Exception"]).filter goodWord ++ (vx_atS RX6 63 "java/lang/IllegalStateException" ["java/lang/RuntimeException", "java/lang/Exception"]).filter goodWord)
def wsX6_load : List Cond := .code yX6_load cX6_load 4 (some .int) :: ([.classLink RX6 75 "java/lang/IndexOutOfBoundsException", .initialized "java/lang/IndexOutOfBoundsException", .classLink RX6 41 "java/lang/IllegalArgumentException", .initialized "java/lang/IllegalArgumentException", .classLink RX6 59 "java/lang/IllegalStateException", .initialized "java/lang/IllegalStateException", .fieldLink RX6 19 "BarrelRaft" "raft" "LBarrelRaft$Raft;", .fieldLink RX6 94 "BarrelRaft$Raft" "barrels" "LBarrelRaft$Barrels;", .fieldLink RX6 176 "BarrelRaft$Barrels" "goods" "[I", .methodLink RX6 124 yX0_has, .instanceMethod yX0_has, .selects RX0 yX0_has yX0_has, .initialized RX0, .code yX0_has cX0_has 2 (some .boolean), .fieldLink RX0 45 "BarrelRaft$Barrels" "number" "I", .methodLink RX6 171 yX0_floats, .instanceMethod yX0_floats, .selects RX0 yX0_floats yX0_floats, .code yX0_floats cX0_floats 2 (some .boolean), .fieldLink RX0 33 "BarrelRaft$Barrels" "state" "[I", .methodLink RX0 49 yX0_has] ++ wsX60 ++ wsX30 ++ wsX00 ++ (vx_atS RX6 79 "java/lang/IndexOutOfBoundsException" ["java/lang/RuntimeException", "java/lang/Exception"]).filter goodWord ++ (vx_atS RX6 45 "java/lang/IllegalArgumentException" ["java/lang/RuntimeException", "java/lang/Exception"]).filter goodWord ++ (vx_atS RX6 63 "java/lang/IllegalStateException" ["java/lang/RuntimeException", "java/lang/Exception"]).filter goodWord)
def wsX6_barrelFact_r1 : List Cond := [Cond.fieldLink RX6 19 "BarrelRaft" "raft" "LBarrelRaft$Raft;", Cond.fieldLink RX6 94 "BarrelRaft$Raft" "barrels" "LBarrelRaft$Barrels;", Cond.fieldLink RX6 291 "BarrelRaft$Barrels" "column" "[I", Cond.fieldLink RX6 294 "BarrelRaft$Barrels" "row" "[I", Cond.fieldLink RX6 297 "BarrelRaft$Barrels" "lift" "[I", Cond.fieldLink RX6 300 "BarrelRaft$Barrels" "leak" "[I", Cond.fieldLink RX6 221 "BarrelRaft$Barrels" "water" "[I", Cond.fieldLink RX6 176 "BarrelRaft$Barrels" "goods" "[I", Cond.fieldLink RX6 303 "BarrelRaft$Barrels" "state" "[I", Cond.fieldLink RX6 250 "BarrelRaft$Barrels" "piece" "[I", Cond.fieldLink RX6 306 "BarrelRaft$Barrels" "x" "[I", Cond.fieldLink RX6 309 "BarrelRaft$Barrels" "y" "[I", Cond.fieldLink RX6 136 "BarrelRaft$Raft" "lashings" "LBarrelRaft$Lashings;", Cond.methodLink RX6 312 yX2_countAt, Cond.instanceMethod yX2_countAt, Cond.selects RX2 yX2_countAt yX2_countAt, Cond.initialized RX2, Cond.code yX2_countAt cX2_countAt 4 (some .int), Cond.fieldLink RX2 33 "BarrelRaft$Lashings" "number" "I", Cond.fieldLink RX2 9 "BarrelRaft$Lashings" "first" "[I", Cond.fieldLink RX2 15 "BarrelRaft$Lashings" "second" "[I", Cond.methodLink RX6 281 yX0_liftNow, Cond.instanceMethod yX0_liftNow, Cond.selects RX0 yX0_liftNow yX0_liftNow]
def wsX6_barrelFact_r2 : List Cond := [Cond.initialized RX0, Cond.code yX0_liftNow cX0_liftNow 2 (some .int), Cond.fieldLink RX0 18 "BarrelRaft$Barrels" "lift" "[I", Cond.fieldLink RX0 24 "BarrelRaft$Barrels" "water" "[I", Cond.methodLink RX6 284 yX0_loadOf, Cond.instanceMethod yX0_loadOf, Cond.selects RX0 yX0_loadOf yX0_loadOf, Cond.code yX0_loadOf cX0_loadOf 2 (some .int), Cond.fieldLink RX0 27 "BarrelRaft$Barrels" "goods" "[I", Cond.fieldLink RX0 30 "BarrelRaft$Barrels" "people" "[I"]
def wsX6_barrelFact : List Cond := .code yX6_barrelFact cX6_barrelFact 4 (some .int) :: ((wsX6_barrelFact_r1 ++ wsX6_barrelFact_r2) ++ wsX60 ++ wsX30 ++ wsX00 ++ wsX20)
def wsX6_barrel_r1 : List Cond := [Cond.classLink RX6 75 "java/lang/IndexOutOfBoundsException", Cond.initialized "java/lang/IndexOutOfBoundsException", Cond.fieldLink RX6 19 "BarrelRaft" "raft" "LBarrelRaft$Raft;", Cond.fieldLink RX6 94 "BarrelRaft$Raft" "barrels" "LBarrelRaft$Barrels;", Cond.methodLink RX6 124 yX0_has, Cond.instanceMethod yX0_has, Cond.selects RX0 yX0_has yX0_has, Cond.initialized RX0, Cond.code yX0_has cX0_has 2 (some .boolean), Cond.fieldLink RX0 45 "BarrelRaft$Barrels" "number" "I", Cond.methodLink RX6 72 yX6_isBelow, Cond.static yX6_isBelow, Cond.initialized RX6, Cond.code yX6_isBelow cX6_isBelow 2 (some .boolean), Cond.methodLink RX6 182 yX6_barrelFact, Cond.instanceMethod yX6_barrelFact, Cond.selects RX6 yX6_barrelFact yX6_barrelFact, Cond.code yX6_barrelFact cX6_barrelFact 4 (some .int), Cond.fieldLink RX6 291 "BarrelRaft$Barrels" "column" "[I", Cond.fieldLink RX6 294 "BarrelRaft$Barrels" "row" "[I", Cond.fieldLink RX6 297 "BarrelRaft$Barrels" "lift" "[I", Cond.fieldLink RX6 300 "BarrelRaft$Barrels" "leak" "[I", Cond.fieldLink RX6 221 "BarrelRaft$Barrels" "water" "[I", Cond.fieldLink RX6 176 "BarrelRaft$Barrels" "goods" "[I"]
def wsX6_barrel_r2 : List Cond := [Cond.fieldLink RX6 303 "BarrelRaft$Barrels" "state" "[I", Cond.fieldLink RX6 250 "BarrelRaft$Barrels" "piece" "[I", Cond.fieldLink RX6 306 "BarrelRaft$Barrels" "x" "[I", Cond.fieldLink RX6 309 "BarrelRaft$Barrels" "y" "[I", Cond.fieldLink RX6 136 "BarrelRaft$Raft" "lashings" "LBarrelRaft$Lashings;", Cond.methodLink RX6 312 yX2_countAt, Cond.instanceMethod yX2_countAt, Cond.selects RX2 yX2_countAt yX2_countAt, Cond.initialized RX2, Cond.code yX2_countAt cX2_countAt 4 (some .int), Cond.fieldLink RX2 33 "BarrelRaft$Lashings" "number" "I", Cond.fieldLink RX2 9 "BarrelRaft$Lashings" "first" "[I", Cond.fieldLink RX2 15 "BarrelRaft$Lashings" "second" "[I", Cond.methodLink RX6 281 yX0_liftNow, Cond.instanceMethod yX0_liftNow, Cond.selects RX0 yX0_liftNow yX0_liftNow, Cond.code yX0_liftNow cX0_liftNow 2 (some .int), Cond.fieldLink RX0 18 "BarrelRaft$Barrels" "lift" "[I", Cond.fieldLink RX0 24 "BarrelRaft$Barrels" "water" "[I", Cond.methodLink RX6 284 yX0_loadOf, Cond.instanceMethod yX0_loadOf, Cond.selects RX0 yX0_loadOf yX0_loadOf, Cond.code yX0_loadOf cX0_loadOf 2 (some .int), Cond.fieldLink RX0 27 "BarrelRaft$Barrels" "goods" "[I"]
def wsX6_barrel_r3 : List Cond := [Cond.fieldLink RX0 30 "BarrelRaft$Barrels" "people" "[I"]
def wsX6_barrel : List Cond := .code yX6_barrel cX6_barrel 3 (some .int) :: ((wsX6_barrel_r1 ++ (wsX6_barrel_r2 ++ wsX6_barrel_r3)) ++ wsX60 ++ wsX30 ++ wsX00 ++ wsX20 ++ (vx_atS RX6 79 "java/lang/IndexOutOfBoundsException" ["java/lang/RuntimeException", "java/lang/Exception"]).filter goodWord)
def wsX6_lashing_r1 : List Cond := [Cond.classLink RX6 75 "java/lang/IndexOutOfBoundsException", Cond.initialized "java/lang/IndexOutOfBoundsException", Cond.fieldLink RX6 19 "BarrelRaft" "raft" "LBarrelRaft$Raft;", Cond.fieldLink RX6 94 "BarrelRaft$Raft" "barrels" "LBarrelRaft$Barrels;", Cond.fieldLink RX6 136 "BarrelRaft$Raft" "lashings" "LBarrelRaft$Lashings;", Cond.fieldLink RX6 185 "BarrelRaft$Lashings" "strength" "[I", Cond.fieldLink RX6 188 "BarrelRaft$Lashings" "wear" "[I", Cond.fieldLink RX6 12 "BarrelRaft" "waters" "LBarrelRaft$Waters;", Cond.methodLink RX6 124 yX0_has, Cond.instanceMethod yX0_has, Cond.selects RX0 yX0_has yX0_has, Cond.initialized RX0, Cond.code yX0_has cX0_has 2 (some .boolean), Cond.fieldLink RX0 45 "BarrelRaft$Barrels" "number" "I", Cond.methodLink RX6 72 yX6_isBelow, Cond.static yX6_isBelow, Cond.initialized RX6, Cond.code yX6_isBelow cX6_isBelow 2 (some .boolean), Cond.methodLink RX6 157 yX2_find, Cond.instanceMethod yX2_find, Cond.selects RX2 yX2_find yX2_find, Cond.initialized RX2, Cond.code yX2_find cX2_find 6 (some .int), Cond.methodLink RX2 24 Lib.Math.min.name]
def wsX6_lashing_r2 : List Cond := [Cond.static Lib.Math.min.name, Cond.initialized "java/lang/Math", Cond.code Lib.Math.min.name Lib.Math.min.code 2 (some .int), Cond.methodLink RX2 30 Lib.Math.max.name, Cond.static Lib.Math.max.name, Cond.code Lib.Math.max.name Lib.Math.max.code 2 (some .int), Cond.fieldLink RX2 33 "BarrelRaft$Lashings" "number" "I", Cond.fieldLink RX2 9 "BarrelRaft$Lashings" "first" "[I", Cond.fieldLink RX2 15 "BarrelRaft$Lashings" "second" "[I", Cond.methodLink RX6 191 yX3_stress, Cond.instanceMethod yX3_stress, Cond.selects RX3 yX3_stress yX3_stress, Cond.initialized RX3, Cond.code yX3_stress cX3_stress 6 (some .int), Cond.fieldLink RX3 28 "BarrelRaft$Raft" "lashings" "LBarrelRaft$Lashings;", Cond.fieldLink RX3 62 "BarrelRaft$Lashings" "first" "[I", Cond.fieldLink RX3 65 "BarrelRaft$Lashings" "second" "[I", Cond.fieldLink RX3 12 "BarrelRaft$Raft" "barrels" "LBarrelRaft$Barrels;", Cond.fieldLink RX3 72 "BarrelRaft$Barrels" "x" "[I", Cond.fieldLink RX3 75 "BarrelRaft$Barrels" "y" "[I", Cond.methodLink RX3 91 Lib.Math.abs.name, Cond.static Lib.Math.abs.name, Cond.code Lib.Math.abs.name Lib.Math.abs.code 1 (some .int), Cond.methodLink RX3 78 yX4_at]
def wsX6_lashing_r3 : List Cond := [Cond.instanceMethod yX4_at, Cond.selects RX4 yX4_at yX4_at, Cond.initialized RX4, Cond.code yX4_at cX4_at 3 (some .int), Cond.fieldLink RX4 21 "BarrelRaft$Waters" "counting" "[I", Cond.static yX6_isSea, Cond.code yX6_isSea cX6_isSea 2 (some .boolean), Cond.methodLink RX3 84 yX4_waveOf, Cond.instanceMethod yX4_waveOf, Cond.selects RX4 yX4_waveOf yX4_waveOf, Cond.code yX4_waveOf cX4_waveOf 2 (some .int), Cond.fieldLink RX4 18 "BarrelRaft$Waters" "wave" "[I", Cond.methodLink RX4 38 yX4_has, Cond.instanceMethod yX4_has, Cond.selects RX4 yX4_has yX4_has, Cond.code yX4_has cX4_has 2 (some .boolean), Cond.fieldLink RX4 34 "BarrelRaft$Waters" "number" "I", Cond.methodLink RX3 88 yX0_loadOf, Cond.instanceMethod yX0_loadOf, Cond.selects RX0 yX0_loadOf yX0_loadOf, Cond.code yX0_loadOf cX0_loadOf 2 (some .int), Cond.fieldLink RX0 27 "BarrelRaft$Barrels" "goods" "[I", Cond.fieldLink RX0 30 "BarrelRaft$Barrels" "people" "[I"]
def wsX6_lashing : List Cond := .code yX6_lashing cX6_lashing 5 (some .int) :: ((wsX6_lashing_r1 ++ (wsX6_lashing_r2 ++ wsX6_lashing_r3)) ++ wsX60 ++ wsX30 ++ wsX20 ++ wsX00 ++ wsX40 ++ (vx_atS RX6 79 "java/lang/IndexOutOfBoundsException" ["java/lang/RuntimeException", "java/lang/Exception"]).filter goodWord)
def wsX6_addCastaway_r1 : List Cond := [Cond.classLink RX6 75 "java/lang/IndexOutOfBoundsException", Cond.initialized "java/lang/IndexOutOfBoundsException", Cond.classLink RX6 59 "java/lang/IllegalStateException", Cond.initialized "java/lang/IllegalStateException", Cond.fieldLink RX6 19 "BarrelRaft" "raft" "LBarrelRaft$Raft;", Cond.fieldLink RX6 94 "BarrelRaft$Raft" "barrels" "LBarrelRaft$Barrels;", Cond.fieldLink RX6 195 "BarrelRaft$Raft" "castaways" "LBarrelRaft$Castaways;", Cond.fieldLink RX6 199 "BarrelRaft$Castaways" "number" "I", Cond.fieldLink RX6 204 "BarrelRaft$Barrels" "people" "[I", Cond.methodLink RX6 124 yX0_has, Cond.instanceMethod yX0_has, Cond.selects RX0 yX0_has yX0_has, Cond.initialized RX0, Cond.code yX0_has cX0_has 2 (some .boolean), Cond.fieldLink RX0 45 "BarrelRaft$Barrels" "number" "I", Cond.methodLink RX6 171 yX0_floats, Cond.instanceMethod yX0_floats, Cond.selects RX0 yX0_floats yX0_floats, Cond.code yX0_floats cX0_floats 2 (some .boolean), Cond.fieldLink RX0 33 "BarrelRaft$Barrels" "state" "[I", Cond.methodLink RX0 49 yX0_has, Cond.methodLink RX6 207 yX1_append, Cond.instanceMethod yX1_append, Cond.selects RX1 yX1_append yX1_append]
def wsX6_addCastaway_r2 : List Cond := [Cond.initialized RX1, Cond.code yX1_append cX1_append 3 (some .int), Cond.fieldLink RX1 18 "BarrelRaft$Castaways" "number" "I", Cond.fieldLink RX1 9 "BarrelRaft$Castaways" "seat" "[I", Cond.fieldLink RX1 15 "BarrelRaft$Castaways" "state" "[I"]
def wsX6_addCastaway : List Cond := .code yX6_addCastaway cX6_addCastaway 2 (some .int) :: ((wsX6_addCastaway_r1 ++ wsX6_addCastaway_r2) ++ wsX60 ++ wsX30 ++ wsX10 ++ wsX00 ++ (vx_atS RX6 79 "java/lang/IndexOutOfBoundsException" ["java/lang/RuntimeException", "java/lang/Exception"]).filter goodWord ++ (vx_atS RX6 63 "java/lang/IllegalStateException" ["java/lang/RuntimeException", "java/lang/Exception"]).filter goodWord)
def wsX6_go_r1 : List Cond := [Cond.classLink RX6 75 "java/lang/IndexOutOfBoundsException", Cond.initialized "java/lang/IndexOutOfBoundsException", Cond.classLink RX6 59 "java/lang/IllegalStateException", Cond.initialized "java/lang/IllegalStateException", Cond.fieldLink RX6 19 "BarrelRaft" "raft" "LBarrelRaft$Raft;", Cond.fieldLink RX6 195 "BarrelRaft$Raft" "castaways" "LBarrelRaft$Castaways;", Cond.fieldLink RX6 94 "BarrelRaft$Raft" "barrels" "LBarrelRaft$Barrels;", Cond.fieldLink RX6 212 "BarrelRaft$Castaways" "seat" "[I", Cond.fieldLink RX6 136 "BarrelRaft$Raft" "lashings" "LBarrelRaft$Lashings;", Cond.fieldLink RX6 204 "BarrelRaft$Barrels" "people" "[I", Cond.methodLink RX6 209 yX1_has, Cond.instanceMethod yX1_has, Cond.selects RX1 yX1_has yX1_has, Cond.initialized RX1, Cond.code yX1_has cX1_has 2 (some .boolean), Cond.fieldLink RX1 18 "BarrelRaft$Castaways" "number" "I", Cond.methodLink RX6 124 yX0_has, Cond.instanceMethod yX0_has, Cond.selects RX0 yX0_has yX0_has, Cond.initialized RX0, Cond.code yX0_has cX0_has 2 (some .boolean), Cond.fieldLink RX0 45 "BarrelRaft$Barrels" "number" "I", Cond.methodLink RX6 157 yX2_find, Cond.instanceMethod yX2_find]
def wsX6_go_r2 : List Cond := [Cond.selects RX2 yX2_find yX2_find, Cond.initialized RX2, Cond.code yX2_find cX2_find 6 (some .int), Cond.methodLink RX2 24 Lib.Math.min.name, Cond.static Lib.Math.min.name, Cond.initialized "java/lang/Math", Cond.code Lib.Math.min.name Lib.Math.min.code 2 (some .int), Cond.methodLink RX2 30 Lib.Math.max.name, Cond.static Lib.Math.max.name, Cond.code Lib.Math.max.name Lib.Math.max.code 2 (some .int), Cond.fieldLink RX2 33 "BarrelRaft$Lashings" "number" "I", Cond.fieldLink RX2 9 "BarrelRaft$Lashings" "first" "[I", Cond.fieldLink RX2 15 "BarrelRaft$Lashings" "second" "[I"]
def wsX6_go : List Cond := .code yX6_go cX6_go 4 (some .int) :: ((wsX6_go_r1 ++ wsX6_go_r2) ++ wsX60 ++ wsX30 ++ wsX10 ++ wsX00 ++ wsX20 ++ (vx_atS RX6 79 "java/lang/IndexOutOfBoundsException" ["java/lang/RuntimeException", "java/lang/Exception"]).filter goodWord ++ (vx_atS RX6 63 "java/lang/IllegalStateException" ["java/lang/RuntimeException", "java/lang/Exception"]).filter goodWord)
def wsX6_bail_r1 : List Cond := [Cond.classLink RX6 75 "java/lang/IndexOutOfBoundsException", Cond.initialized "java/lang/IndexOutOfBoundsException", Cond.classLink RX6 59 "java/lang/IllegalStateException", Cond.initialized "java/lang/IllegalStateException", Cond.fieldLink RX6 19 "BarrelRaft" "raft" "LBarrelRaft$Raft;", Cond.fieldLink RX6 195 "BarrelRaft$Raft" "castaways" "LBarrelRaft$Castaways;", Cond.fieldLink RX6 212 "BarrelRaft$Castaways" "seat" "[I", Cond.fieldLink RX6 94 "BarrelRaft$Raft" "barrels" "LBarrelRaft$Barrels;", Cond.fieldLink RX6 221 "BarrelRaft$Barrels" "water" "[I", Cond.methodLink RX6 145 Lib.Math.max.name, Cond.static Lib.Math.max.name, Cond.initialized "java/lang/Math", Cond.code Lib.Math.max.name Lib.Math.max.code 2 (some .int), Cond.methodLink RX6 209 yX1_has, Cond.instanceMethod yX1_has, Cond.selects RX1 yX1_has yX1_has, Cond.initialized RX1, Cond.code yX1_has cX1_has 2 (some .boolean), Cond.fieldLink RX1 18 "BarrelRaft$Castaways" "number" "I", Cond.methodLink RX6 124 yX0_has, Cond.instanceMethod yX0_has, Cond.selects RX0 yX0_has yX0_has, Cond.initialized RX0, Cond.code yX0_has cX0_has 2 (some .boolean)]
def wsX6_bail_r2 : List Cond := [Cond.fieldLink RX0 45 "BarrelRaft$Barrels" "number" "I"]
def wsX6_bail : List Cond := .code yX6_bail cX6_bail 3 (some .int) :: ((wsX6_bail_r1 ++ wsX6_bail_r2) ++ wsX60 ++ wsX30 ++ wsX10 ++ wsX00 ++ (vx_atS RX6 79 "java/lang/IndexOutOfBoundsException" ["java/lang/RuntimeException", "java/lang/Exception"]).filter goodWord ++ (vx_atS RX6 63 "java/lang/IllegalStateException" ["java/lang/RuntimeException", "java/lang/Exception"]).filter goodWord)
def wsX6_castawayFact : List Cond := .code yX6_castawayFact cX6_castawayFact 3 (some .int) :: ([.fieldLink RX6 19 "BarrelRaft" "raft" "LBarrelRaft$Raft;", .fieldLink RX6 195 "BarrelRaft$Raft" "castaways" "LBarrelRaft$Castaways;", .fieldLink RX6 212 "BarrelRaft$Castaways" "seat" "[I", .fieldLink RX6 315 "BarrelRaft$Castaways" "state" "[I"] ++ wsX60 ++ wsX30 ++ wsX10)
def wsX6_castaway : List Cond := .code yX6_castaway cX6_castaway 3 (some .int) :: ([.classLink RX6 75 "java/lang/IndexOutOfBoundsException", .initialized "java/lang/IndexOutOfBoundsException", .fieldLink RX6 19 "BarrelRaft" "raft" "LBarrelRaft$Raft;", .fieldLink RX6 195 "BarrelRaft$Raft" "castaways" "LBarrelRaft$Castaways;", .methodLink RX6 209 yX1_has, .instanceMethod yX1_has, .selects RX1 yX1_has yX1_has, .initialized RX1, .code yX1_has cX1_has 2 (some .boolean), .fieldLink RX1 18 "BarrelRaft$Castaways" "number" "I", .methodLink RX6 72 yX6_isBelow, .static yX6_isBelow, .initialized RX6, .code yX6_isBelow cX6_isBelow 2 (some .boolean), .methodLink RX6 226 yX6_castawayFact, .instanceMethod yX6_castawayFact, .selects RX6 yX6_castawayFact yX6_castawayFact, .code yX6_castawayFact cX6_castawayFact 3 (some .int), .fieldLink RX6 212 "BarrelRaft$Castaways" "seat" "[I", .fieldLink RX6 315 "BarrelRaft$Castaways" "state" "[I"] ++ wsX60 ++ wsX30 ++ wsX10 ++ (vx_atS RX6 79 "java/lang/IndexOutOfBoundsException" ["java/lang/RuntimeException", "java/lang/Exception"]).filter goodWord)
def wsX6_pass_r1 : List Cond := [Cond.classLink RX6 41 "java/lang/IllegalArgumentException", Cond.initialized "java/lang/IllegalArgumentException", Cond.fieldLink RX6 19 "BarrelRaft" "raft" "LBarrelRaft$Raft;", Cond.fieldLink RX6 231 "BarrelRaft$Raft" "broken" "I", Cond.fieldLink RX6 12 "BarrelRaft" "waters" "LBarrelRaft$Waters;", Cond.methodLink RX6 234 yX3_passHours, Cond.instanceMethod yX3_passHours, Cond.selects RX3 yX3_passHours yX3_passHours, Cond.initialized RX3, Cond.code yX3_passHours cX3_passHours 4 none, Cond.fieldLink RX3 12 "BarrelRaft$Raft" "barrels" "LBarrelRaft$Barrels;", Cond.fieldLink RX3 49 "BarrelRaft$Raft" "hour" "I", Cond.methodLink RX3 96 yX0_firstAfloat, Cond.instanceMethod yX0_firstAfloat, Cond.selects RX0 yX0_firstAfloat yX0_firstAfloat, Cond.initialized RX0, Cond.code yX0_firstAfloat cX0_firstAfloat 2 (some .int), Cond.fieldLink RX0 45 "BarrelRaft$Barrels" "number" "I", Cond.fieldLink RX0 33 "BarrelRaft$Barrels" "state" "[I", Cond.methodLink RX3 100 yX0_takeInWater, Cond.instanceMethod yX0_takeInWater, Cond.selects RX0 yX0_takeInWater yX0_takeInWater, Cond.code yX0_takeInWater cX0_takeInWater 2 none, Cond.fieldLink RX0 24 "BarrelRaft$Barrels" "water" "[I"]
def wsX6_pass_r2 : List Cond := [Cond.fieldLink RX0 21 "BarrelRaft$Barrels" "leak" "[I", Cond.methodLink RX0 66 Lib.Math.min.name, Cond.static Lib.Math.min.name, Cond.initialized "java/lang/Math", Cond.code Lib.Math.min.name Lib.Math.min.code 2 (some .int), Cond.methodLink RX3 103 yX3_loseOverloaded, Cond.instanceMethod yX3_loseOverloaded, Cond.selects RX3 yX3_loseOverloaded yX3_loseOverloaded, Cond.code yX3_loseOverloaded cX3_loseOverloaded 4 none, Cond.fieldLink RX3 119 "BarrelRaft$Barrels" "number" "I", Cond.fieldLink RX3 120 "BarrelRaft$Barrels" "piece" "[I", Cond.fieldLink RX3 36 "BarrelRaft$Raft" "pieceLoad" "[I", Cond.fieldLink RX3 32 "BarrelRaft$Raft" "pieceLift" "[I", Cond.methodLink RX3 116 yX3_weighPieces, Cond.instanceMethod yX3_weighPieces, Cond.selects RX3 yX3_weighPieces yX3_weighPieces, Cond.code yX3_weighPieces cX3_weighPieces 3 none, Cond.methodLink RX3 178 yX0_liftNow, Cond.instanceMethod yX0_liftNow, Cond.selects RX0 yX0_liftNow yX0_liftNow, Cond.code yX0_liftNow cX0_liftNow 2 (some .int), Cond.fieldLink RX0 18 "BarrelRaft$Barrels" "lift" "[I", Cond.methodLink RX3 88 yX0_loadOf, Cond.instanceMethod yX0_loadOf]
def wsX6_pass_r3 : List Cond := [Cond.selects RX0 yX0_loadOf yX0_loadOf, Cond.code yX0_loadOf cX0_loadOf 2 (some .int), Cond.fieldLink RX0 27 "BarrelRaft$Barrels" "goods" "[I", Cond.fieldLink RX0 30 "BarrelRaft$Barrels" "people" "[I", Cond.methodLink RX3 123 yX0_end, Cond.instanceMethod yX0_end, Cond.selects RX0 yX0_end yX0_end, Cond.code yX0_end cX0_end 3 none, Cond.fieldLink RX0 42 "BarrelRaft$Barrels" "piece" "[I", Cond.methodLink RX3 126 yX3_leaveEnded, Cond.instanceMethod yX3_leaveEnded, Cond.selects RX3 yX3_leaveEnded yX3_leaveEnded, Cond.code yX3_leaveEnded cX3_leaveEnded 2 none, Cond.fieldLink RX3 21 "BarrelRaft$Raft" "castaways" "LBarrelRaft$Castaways;", Cond.fieldLink RX3 28 "BarrelRaft$Raft" "lashings" "LBarrelRaft$Lashings;", Cond.fieldLink RX3 59 "BarrelRaft$Lashings" "number" "I", Cond.fieldLink RX3 62 "BarrelRaft$Lashings" "first" "[I", Cond.methodLink RX3 175 yX1_shareFate, Cond.instanceMethod yX1_shareFate, Cond.selects RX1 yX1_shareFate yX1_shareFate, Cond.initialized RX1, Cond.code yX1_shareFate cX1_shareFate 4 none, Cond.fieldLink RX1 18 "BarrelRaft$Castaways" "number" "I", Cond.fieldLink RX1 9 "BarrelRaft$Castaways" "seat" "[I"]
def wsX6_pass_r4 : List Cond := [Cond.fieldLink RX1 28 "BarrelRaft$Barrels" "state" "[I", Cond.fieldLink RX1 15 "BarrelRaft$Castaways" "state" "[I", Cond.methodLink RX1 22 yX0_has, Cond.instanceMethod yX0_has, Cond.selects RX0 yX0_has yX0_has, Cond.code yX0_has cX0_has 2 (some .boolean), Cond.methodLink RX3 171 yX0_floats, Cond.instanceMethod yX0_floats, Cond.selects RX0 yX0_floats yX0_floats, Cond.code yX0_floats cX0_floats 2 (some .boolean), Cond.methodLink RX0 49 yX0_has, Cond.methodLink RX3 136 yX2_undo, Cond.instanceMethod yX2_undo, Cond.selects RX2 yX2_undo yX2_undo, Cond.initialized RX2, Cond.code yX2_undo cX2_undo 2 none, Cond.fieldLink RX2 18 "BarrelRaft$Lashings" "strength" "[I", Cond.methodLink RX3 143 yX2_sweep, Cond.instanceMethod yX2_sweep, Cond.selects RX2 yX2_sweep yX2_sweep, Cond.code yX2_sweep cX2_sweep 3 none, Cond.fieldLink RX2 33 "BarrelRaft$Lashings" "number" "I", Cond.methodLink RX2 52 yX2_move, Cond.instanceMethod yX2_move]
def wsX6_pass_r5 : List Cond := [Cond.selects RX2 yX2_move yX2_move, Cond.code yX2_move cX2_move 3 none, Cond.fieldLink RX2 9 "BarrelRaft$Lashings" "first" "[I", Cond.fieldLink RX2 15 "BarrelRaft$Lashings" "second" "[I", Cond.fieldLink RX2 21 "BarrelRaft$Lashings" "wear" "[I", Cond.methodLink RX3 106 yX3_wearLashings, Cond.instanceMethod yX3_wearLashings, Cond.selects RX3 yX3_wearLashings yX3_wearLashings, Cond.code yX3_wearLashings cX3_wearLashings 5 none, Cond.fieldLink RX3 140 "BarrelRaft$Lashings" "wear" "[I", Cond.fieldLink RX3 53 "BarrelRaft$Raft" "broken" "I", Cond.methodLink RX3 129 yX3_stress, Cond.instanceMethod yX3_stress, Cond.selects RX3 yX3_stress yX3_stress, Cond.code yX3_stress cX3_stress 6 (some .int), Cond.fieldLink RX3 65 "BarrelRaft$Lashings" "second" "[I", Cond.fieldLink RX3 72 "BarrelRaft$Barrels" "x" "[I", Cond.fieldLink RX3 75 "BarrelRaft$Barrels" "y" "[I", Cond.methodLink RX3 91 Lib.Math.abs.name, Cond.static Lib.Math.abs.name, Cond.code Lib.Math.abs.name Lib.Math.abs.code 1 (some .int), Cond.methodLink RX3 78 yX4_at, Cond.instanceMethod yX4_at, Cond.selects RX4 yX4_at yX4_at]
def wsX6_pass_r6 : List Cond := [Cond.initialized RX4, Cond.code yX4_at cX4_at 3 (some .int), Cond.fieldLink RX4 21 "BarrelRaft$Waters" "counting" "[I", Cond.static yX6_isSea, Cond.initialized RX6, Cond.code yX6_isSea cX6_isSea 2 (some .boolean), Cond.methodLink RX3 84 yX4_waveOf, Cond.instanceMethod yX4_waveOf, Cond.selects RX4 yX4_waveOf yX4_waveOf, Cond.code yX4_waveOf cX4_waveOf 2 (some .int), Cond.fieldLink RX4 18 "BarrelRaft$Waters" "wave" "[I", Cond.methodLink RX4 38 yX4_has, Cond.instanceMethod yX4_has, Cond.selects RX4 yX4_has yX4_has, Cond.code yX4_has cX4_has 2 (some .boolean), Cond.fieldLink RX4 34 "BarrelRaft$Waters" "number" "I", Cond.methodLink RX3 133 yX2_left, Cond.instanceMethod yX2_left, Cond.selects RX2 yX2_left yX2_left, Cond.code yX2_left cX2_left 2 (some .int), Cond.methodLink RX3 146 yX3_findPieces, Cond.instanceMethod yX3_findPieces, Cond.selects RX3 yX3_findPieces yX3_findPieces, Cond.code yX3_findPieces cX3_findPieces 2 none]
def wsX6_pass_r7 : List Cond := [Cond.methodLink RX3 56 yX0_standAlone, Cond.instanceMethod yX0_standAlone, Cond.selects RX0 yX0_standAlone yX0_standAlone, Cond.code yX0_standAlone cX0_standAlone 2 none, Cond.methodLink RX3 68 yX0_join, Cond.instanceMethod yX0_join, Cond.selects RX0 yX0_join yX0_join, Cond.code yX0_join cX0_join 6 none, Cond.methodLink RX0 70 Lib.Math.max.name, Cond.static Lib.Math.max.name, Cond.code Lib.Math.max.name Lib.Math.max.code 2 (some .int), Cond.methodLink RX3 110 yX3_drift, Cond.instanceMethod yX3_drift, Cond.selects RX3 yX3_drift yX3_drift, Cond.code yX3_drift cX3_drift 4 none, Cond.methodLink RX3 149 yX3_driftPiece, Cond.instanceMethod yX3_driftPiece, Cond.selects RX3 yX3_driftPiece yX3_driftPiece, Cond.code yX3_driftPiece cX3_driftPiece 6 none, Cond.fieldLink RX3 159 "BarrelRaft$Waters" "windDx" "I", Cond.fieldLink RX3 162 "BarrelRaft$Waters" "windDy" "I", Cond.methodLink RX3 165 Lib.Math.min.name, Cond.methodLink RX3 168 Lib.Math.max.name, Cond.methodLink RX3 153 yX4_dxOf]
def wsX6_pass_r8 : List Cond := [Cond.instanceMethod yX4_dxOf, Cond.selects RX4 yX4_dxOf yX4_dxOf, Cond.code yX4_dxOf cX4_dxOf 2 (some .int), Cond.fieldLink RX4 9 "BarrelRaft$Waters" "dx" "[I", Cond.methodLink RX3 156 yX4_dyOf, Cond.instanceMethod yX4_dyOf, Cond.selects RX4 yX4_dyOf yX4_dyOf, Cond.code yX4_dyOf cX4_dyOf 2 (some .int), Cond.fieldLink RX4 15 "BarrelRaft$Waters" "dy" "[I", Cond.methodLink RX3 113 yX3_saveAshore, Cond.instanceMethod yX3_saveAshore, Cond.selects RX3 yX3_saveAshore yX3_saveAshore, Cond.code yX3_saveAshore cX3_saveAshore 3 none]
def wsX6_pass : List Cond := .code yX6_pass cX6_pass 3 (some .int) :: ((wsX6_pass_r1 ++ (wsX6_pass_r2 ++ (wsX6_pass_r3 ++ (wsX6_pass_r4 ++ (wsX6_pass_r5 ++ (wsX6_pass_r6 ++ (wsX6_pass_r7 ++ wsX6_pass_r8))))))) ++ wsX60 ++ wsX30 ++ wsX00 ++ wsX20 ++ wsX10 ++ wsX40 ++ (vx_atS RX6 45 "java/lang/IllegalArgumentException" ["java/lang/RuntimeException", "java/lang/Exception"]).filter goodWord)
def wsX6_countFact_r1 : List Cond := [Cond.fieldLink RX6 19 "BarrelRaft" "raft" "LBarrelRaft$Raft;", Cond.fieldLink RX6 316 "BarrelRaft$Raft" "hour" "I", Cond.fieldLink RX6 94 "BarrelRaft$Raft" "barrels" "LBarrelRaft$Barrels;", Cond.fieldLink RX6 118 "BarrelRaft$Barrels" "number" "I", Cond.fieldLink RX6 195 "BarrelRaft$Raft" "castaways" "LBarrelRaft$Castaways;", Cond.fieldLink RX6 199 "BarrelRaft$Castaways" "number" "I", Cond.fieldLink RX6 136 "BarrelRaft$Raft" "lashings" "LBarrelRaft$Lashings;", Cond.fieldLink RX6 271 "BarrelRaft$Lashings" "number" "I", Cond.fieldLink RX6 33 "BarrelRaft" "ropes" "I", Cond.fieldLink RX6 231 "BarrelRaft$Raft" "broken" "I", Cond.methodLink RX6 263 yX0_countOf, Cond.instanceMethod yX0_countOf, Cond.selects RX0 yX0_countOf yX0_countOf, Cond.initialized RX0, Cond.code yX0_countOf cX0_countOf 4 (some .int), Cond.fieldLink RX0 45 "BarrelRaft$Barrels" "number" "I", Cond.fieldLink RX0 33 "BarrelRaft$Barrels" "state" "[I", Cond.methodLink RX6 266 yX1_countOf, Cond.instanceMethod yX1_countOf, Cond.selects RX1 yX1_countOf yX1_countOf, Cond.initialized RX1, Cond.code yX1_countOf cX1_countOf 4 (some .int), Cond.fieldLink RX1 18 "BarrelRaft$Castaways" "number" "I", Cond.fieldLink RX1 15 "BarrelRaft$Castaways" "state" "[I"]
def wsX6_countFact_r2 : List Cond := [Cond.methodLink RX6 267 yX0_pieces, Cond.instanceMethod yX0_pieces, Cond.selects RX0 yX0_pieces yX0_pieces, Cond.code yX0_pieces cX0_pieces 3 (some .int), Cond.fieldLink RX0 42 "BarrelRaft$Barrels" "piece" "[I", Cond.methodLink RX6 319 yX0_goodsSaved, Cond.instanceMethod yX0_goodsSaved, Cond.selects RX0 yX0_goodsSaved yX0_goodsSaved, Cond.code yX0_goodsSaved cX0_goodsSaved 3 (some .int), Cond.fieldLink RX0 27 "BarrelRaft$Barrels" "goods" "[I"]
def wsX6_countFact : List Cond := .code yX6_countFact cX6_countFact 2 (some .int) :: ((wsX6_countFact_r1 ++ wsX6_countFact_r2) ++ wsX60 ++ wsX30 ++ wsX00 ++ wsX10 ++ wsX20)
def wsX6_count_r1 : List Cond := [Cond.classLink RX6 75 "java/lang/IndexOutOfBoundsException", Cond.initialized "java/lang/IndexOutOfBoundsException", Cond.methodLink RX6 72 yX6_isBelow, Cond.static yX6_isBelow, Cond.initialized RX6, Cond.code yX6_isBelow cX6_isBelow 2 (some .boolean), Cond.methodLink RX6 240 yX6_countFact, Cond.instanceMethod yX6_countFact, Cond.selects RX6 yX6_countFact yX6_countFact, Cond.code yX6_countFact cX6_countFact 2 (some .int), Cond.fieldLink RX6 19 "BarrelRaft" "raft" "LBarrelRaft$Raft;", Cond.fieldLink RX6 316 "BarrelRaft$Raft" "hour" "I", Cond.fieldLink RX6 94 "BarrelRaft$Raft" "barrels" "LBarrelRaft$Barrels;", Cond.fieldLink RX6 118 "BarrelRaft$Barrels" "number" "I", Cond.fieldLink RX6 195 "BarrelRaft$Raft" "castaways" "LBarrelRaft$Castaways;", Cond.fieldLink RX6 199 "BarrelRaft$Castaways" "number" "I", Cond.fieldLink RX6 136 "BarrelRaft$Raft" "lashings" "LBarrelRaft$Lashings;", Cond.fieldLink RX6 271 "BarrelRaft$Lashings" "number" "I", Cond.fieldLink RX6 33 "BarrelRaft" "ropes" "I", Cond.fieldLink RX6 231 "BarrelRaft$Raft" "broken" "I", Cond.methodLink RX6 263 yX0_countOf, Cond.instanceMethod yX0_countOf, Cond.selects RX0 yX0_countOf yX0_countOf, Cond.initialized RX0]
def wsX6_count_r2 : List Cond := [Cond.code yX0_countOf cX0_countOf 4 (some .int), Cond.fieldLink RX0 45 "BarrelRaft$Barrels" "number" "I", Cond.fieldLink RX0 33 "BarrelRaft$Barrels" "state" "[I", Cond.methodLink RX6 266 yX1_countOf, Cond.instanceMethod yX1_countOf, Cond.selects RX1 yX1_countOf yX1_countOf, Cond.initialized RX1, Cond.code yX1_countOf cX1_countOf 4 (some .int), Cond.fieldLink RX1 18 "BarrelRaft$Castaways" "number" "I", Cond.fieldLink RX1 15 "BarrelRaft$Castaways" "state" "[I", Cond.methodLink RX6 267 yX0_pieces, Cond.instanceMethod yX0_pieces, Cond.selects RX0 yX0_pieces yX0_pieces, Cond.code yX0_pieces cX0_pieces 3 (some .int), Cond.fieldLink RX0 42 "BarrelRaft$Barrels" "piece" "[I", Cond.methodLink RX6 319 yX0_goodsSaved, Cond.instanceMethod yX0_goodsSaved, Cond.selects RX0 yX0_goodsSaved yX0_goodsSaved, Cond.code yX0_goodsSaved cX0_goodsSaved 3 (some .int), Cond.fieldLink RX0 27 "BarrelRaft$Barrels" "goods" "[I"]
def wsX6_count : List Cond := .code yX6_count cX6_count 2 (some .int) :: ((wsX6_count_r1 ++ wsX6_count_r2) ++ wsX60 ++ wsX30 ++ wsX00 ++ wsX10 ++ wsX20 ++ (vx_atS RX6 79 "java/lang/IndexOutOfBoundsException" ["java/lang/RuntimeException", "java/lang/Exception"]).filter goodWord)
def wsX6_firm_r1 : List Cond := [Cond.classLink RX6 75 "java/lang/IndexOutOfBoundsException", Cond.initialized "java/lang/IndexOutOfBoundsException", Cond.fieldLink RX6 19 "BarrelRaft" "raft" "LBarrelRaft$Raft;", Cond.fieldLink RX6 94 "BarrelRaft$Raft" "barrels" "LBarrelRaft$Barrels;", Cond.fieldLink RX6 29 "BarrelRaft" "ways" "LBarrelRaft$Ways;", Cond.fieldLink RX6 136 "BarrelRaft$Raft" "lashings" "LBarrelRaft$Lashings;", Cond.methodLink RX6 124 yX0_has, Cond.instanceMethod yX0_has, Cond.selects RX0 yX0_has yX0_has, Cond.initialized RX0, Cond.code yX0_has cX0_has 2 (some .boolean), Cond.fieldLink RX0 45 "BarrelRaft$Barrels" "number" "I", Cond.methodLink RX6 243 yX5_countApart, Cond.instanceMethod yX5_countApart, Cond.selects RX5 yX5_countApart yX5_countApart, Cond.initialized RX5, Cond.code yX5_countApart cX5_countApart 5 (some .int), Cond.fieldLink RX5 9 "BarrelRaft$Ways" "used" "[I", Cond.fieldLink RX5 30 "BarrelRaft$Lashings" "number" "I", Cond.methodLink RX5 24 yJ7_fill_53178, Cond.static yJ7_fill_53178, Cond.initialized RJ7, Cond.code yJ7_fill_53178 cJ7_fill_53178 4 none, Cond.methodLink RX5 36 yX5_findWay]
def wsX6_firm_r2 : List Cond := [Cond.instanceMethod yX5_findWay, Cond.selects RX5 yX5_findWay yX5_findWay, Cond.code yX5_findWay cX5_findWay 6 (some .boolean), Cond.fieldLink RX5 15 "BarrelRaft$Ways" "cameBy" "[I", Cond.fieldLink RX5 18 "BarrelRaft$Ways" "reached" "[I", Cond.methodLink RX5 44 yX5_reachFrom, Cond.instanceMethod yX5_reachFrom, Cond.selects RX5 yX5_reachFrom yX5_reachFrom, Cond.code yX5_reachFrom cX5_reachFrom 8 (some .int), Cond.methodLink RX5 48 yX2_leadsTo, Cond.instanceMethod yX2_leadsTo, Cond.selects RX2 yX2_leadsTo yX2_leadsTo, Cond.initialized RX2, Cond.code yX2_leadsTo cX2_leadsTo 3 (some .int), Cond.fieldLink RX2 9 "BarrelRaft$Lashings" "first" "[I", Cond.fieldLink RX2 15 "BarrelRaft$Lashings" "second" "[I", Cond.methodLink RX5 52 yX5_direction, Cond.instanceMethod yX5_direction, Cond.selects RX5 yX5_direction yX5_direction, Cond.code yX5_direction cX5_direction 4 (some .int), Cond.fieldLink RX5 56 "BarrelRaft$Lashings" "first" "[I", Cond.methodLink RX5 40 yX5_useWay, Cond.instanceMethod yX5_useWay, Cond.selects RX5 yX5_useWay yX5_useWay]
def wsX6_firm_r3 : List Cond := [Cond.code yX5_useWay cX5_useWay 8 none]
def wsX6_firm : List Cond := .code yX6_firm cX6_firm 3 (some .int) :: ((wsX6_firm_r1 ++ (wsX6_firm_r2 ++ wsX6_firm_r3)) ++ wsX60 ++ wsX30 ++ wsX00 ++ wsX50 ++ wsX20 ++ (vx_atS RX6 79 "java/lang/IndexOutOfBoundsException" ["java/lang/RuntimeException", "java/lang/Exception"]).filter goodWord)
def wsX6_hold_r1 : List Cond := [Cond.classLink RX6 75 "java/lang/IndexOutOfBoundsException", Cond.initialized "java/lang/IndexOutOfBoundsException", Cond.fieldLink RX6 19 "BarrelRaft" "raft" "LBarrelRaft$Raft;", Cond.fieldLink RX6 94 "BarrelRaft$Raft" "barrels" "LBarrelRaft$Barrels;", Cond.fieldLink RX6 29 "BarrelRaft" "ways" "LBarrelRaft$Ways;", Cond.fieldLink RX6 136 "BarrelRaft$Raft" "lashings" "LBarrelRaft$Lashings;", Cond.methodLink RX6 124 yX0_has, Cond.instanceMethod yX0_has, Cond.selects RX0 yX0_has yX0_has, Cond.initialized RX0, Cond.code yX0_has cX0_has 2 (some .boolean), Cond.fieldLink RX0 45 "BarrelRaft$Barrels" "number" "I", Cond.methodLink RX6 247 yX5_strongest, Cond.instanceMethod yX5_strongest, Cond.selects RX5 yX5_strongest yX5_strongest, Cond.initialized RX5, Cond.code yX5_strongest cX5_strongest 6 (some .int), Cond.fieldLink RX5 21 "BarrelRaft$Ways" "best" "[I", Cond.methodLink RX5 24 yJ7_fill_53178, Cond.static yJ7_fill_53178, Cond.initialized RJ7, Cond.code yJ7_fill_53178 cJ7_fill_53178 4 none, Cond.methodLink RX5 59 yX5_strengthen, Cond.instanceMethod yX5_strengthen]
def wsX6_hold_r2 : List Cond := [Cond.selects RX5 yX5_strengthen yX5_strengthen, Cond.code yX5_strengthen cX5_strengthen 7 (some .boolean), Cond.fieldLink RX5 30 "BarrelRaft$Lashings" "number" "I", Cond.fieldLink RX5 56 "BarrelRaft$Lashings" "first" "[I", Cond.fieldLink RX5 63 "BarrelRaft$Lashings" "second" "[I", Cond.methodLink RX5 70 Lib.Math.max.name, Cond.static Lib.Math.max.name, Cond.initialized "java/lang/Math", Cond.code Lib.Math.max.name Lib.Math.max.code 2 (some .int), Cond.methodLink RX5 75 Lib.Math.min.name, Cond.static Lib.Math.min.name, Cond.code Lib.Math.min.name Lib.Math.min.code 2 (some .int), Cond.methodLink RX5 66 yX2_left, Cond.instanceMethod yX2_left, Cond.selects RX2 yX2_left yX2_left, Cond.initialized RX2, Cond.code yX2_left cX2_left 2 (some .int), Cond.fieldLink RX2 18 "BarrelRaft$Lashings" "strength" "[I", Cond.fieldLink RX2 21 "BarrelRaft$Lashings" "wear" "[I"]
def wsX6_hold : List Cond := .code yX6_hold cX6_hold 3 (some .int) :: ((wsX6_hold_r1 ++ wsX6_hold_r2) ++ wsX60 ++ wsX30 ++ wsX00 ++ wsX50 ++ wsX20 ++ (vx_atS RX6 79 "java/lang/IndexOutOfBoundsException" ["java/lang/RuntimeException", "java/lang/Exception"]).filter goodWord)
def wsX6_singleLashings_r1 : List Cond := [Cond.fieldLink RX6 19 "BarrelRaft" "raft" "LBarrelRaft$Raft;", Cond.fieldLink RX6 136 "BarrelRaft$Raft" "lashings" "LBarrelRaft$Lashings;", Cond.fieldLink RX6 271 "BarrelRaft$Lashings" "number" "I", Cond.fieldLink RX6 275 "BarrelRaft$Lashings" "first" "[I", Cond.fieldLink RX6 94 "BarrelRaft$Raft" "barrels" "LBarrelRaft$Barrels;", Cond.fieldLink RX6 250 "BarrelRaft$Barrels" "piece" "[I", Cond.fieldLink RX6 29 "BarrelRaft" "ways" "LBarrelRaft$Ways;", Cond.fieldLink RX6 278 "BarrelRaft$Lashings" "second" "[I", Cond.methodLink RX6 243 yX5_countApart, Cond.instanceMethod yX5_countApart, Cond.selects RX5 yX5_countApart yX5_countApart, Cond.initialized RX5, Cond.code yX5_countApart cX5_countApart 5 (some .int), Cond.fieldLink RX5 9 "BarrelRaft$Ways" "used" "[I", Cond.fieldLink RX5 30 "BarrelRaft$Lashings" "number" "I", Cond.methodLink RX5 24 yJ7_fill_53178, Cond.static yJ7_fill_53178, Cond.initialized RJ7, Cond.code yJ7_fill_53178 cJ7_fill_53178 4 none, Cond.methodLink RX5 36 yX5_findWay, Cond.instanceMethod yX5_findWay, Cond.selects RX5 yX5_findWay yX5_findWay, Cond.code yX5_findWay cX5_findWay 6 (some .boolean), Cond.fieldLink RX5 15 "BarrelRaft$Ways" "cameBy" "[I"]
def wsX6_singleLashings_r2 : List Cond := [Cond.fieldLink RX5 18 "BarrelRaft$Ways" "reached" "[I", Cond.methodLink RX5 44 yX5_reachFrom, Cond.instanceMethod yX5_reachFrom, Cond.selects RX5 yX5_reachFrom yX5_reachFrom, Cond.code yX5_reachFrom cX5_reachFrom 8 (some .int), Cond.methodLink RX5 48 yX2_leadsTo, Cond.instanceMethod yX2_leadsTo, Cond.selects RX2 yX2_leadsTo yX2_leadsTo, Cond.initialized RX2, Cond.code yX2_leadsTo cX2_leadsTo 3 (some .int), Cond.fieldLink RX2 9 "BarrelRaft$Lashings" "first" "[I", Cond.fieldLink RX2 15 "BarrelRaft$Lashings" "second" "[I", Cond.methodLink RX5 52 yX5_direction, Cond.instanceMethod yX5_direction, Cond.selects RX5 yX5_direction yX5_direction, Cond.code yX5_direction cX5_direction 4 (some .int), Cond.fieldLink RX5 56 "BarrelRaft$Lashings" "first" "[I", Cond.methodLink RX5 40 yX5_useWay, Cond.instanceMethod yX5_useWay, Cond.selects RX5 yX5_useWay yX5_useWay, Cond.code yX5_useWay cX5_useWay 8 none]
def wsX6_singleLashings : List Cond := .code yX6_singleLashings cX6_singleLashings 6 (some .int) :: ((wsX6_singleLashings_r1 ++ wsX6_singleLashings_r2) ++ wsX60 ++ wsX30 ++ wsX20 ++ wsX00 ++ wsX50)
def wsX6_pieceSum : List Cond := .code yX6_pieceSum cX6_pieceSum 6 (some .int) :: ([.fieldLink RX6 19 "BarrelRaft" "raft" "LBarrelRaft$Raft;", .fieldLink RX6 94 "BarrelRaft$Raft" "barrels" "LBarrelRaft$Barrels;", .fieldLink RX6 118 "BarrelRaft$Barrels" "number" "I", .fieldLink RX6 250 "BarrelRaft$Barrels" "piece" "[I", .fieldLink RX6 204 "BarrelRaft$Barrels" "people" "[I", .methodLink RX6 281 yX0_liftNow, .instanceMethod yX0_liftNow, .selects RX0 yX0_liftNow yX0_liftNow, .initialized RX0, .code yX0_liftNow cX0_liftNow 2 (some .int), .fieldLink RX0 18 "BarrelRaft$Barrels" "lift" "[I", .fieldLink RX0 24 "BarrelRaft$Barrels" "water" "[I", .methodLink RX6 284 yX0_loadOf, .instanceMethod yX0_loadOf, .selects RX0 yX0_loadOf yX0_loadOf, .code yX0_loadOf cX0_loadOf 2 (some .int), .fieldLink RX0 27 "BarrelRaft$Barrels" "goods" "[I", .fieldLink RX0 30 "BarrelRaft$Barrels" "people" "[I"] ++ wsX60 ++ wsX30 ++ wsX00)
def wsX6_piece_r1 : List Cond := [Cond.classLink RX6 75 "java/lang/IndexOutOfBoundsException", Cond.initialized "java/lang/IndexOutOfBoundsException", Cond.fieldLink RX6 19 "BarrelRaft" "raft" "LBarrelRaft$Raft;", Cond.fieldLink RX6 94 "BarrelRaft$Raft" "barrels" "LBarrelRaft$Barrels;", Cond.fieldLink RX6 250 "BarrelRaft$Barrels" "piece" "[I", Cond.methodLink RX6 124 yX0_has, Cond.instanceMethod yX0_has, Cond.selects RX0 yX0_has yX0_has, Cond.initialized RX0, Cond.code yX0_has cX0_has 2 (some .boolean), Cond.fieldLink RX0 45 "BarrelRaft$Barrels" "number" "I", Cond.methodLink RX6 72 yX6_isBelow, Cond.static yX6_isBelow, Cond.initialized RX6, Cond.code yX6_isBelow cX6_isBelow 2 (some .boolean), Cond.methodLink RX6 253 yX6_singleLashings, Cond.instanceMethod yX6_singleLashings, Cond.selects RX6 yX6_singleLashings yX6_singleLashings, Cond.code yX6_singleLashings cX6_singleLashings 6 (some .int), Cond.fieldLink RX6 136 "BarrelRaft$Raft" "lashings" "LBarrelRaft$Lashings;", Cond.fieldLink RX6 271 "BarrelRaft$Lashings" "number" "I", Cond.fieldLink RX6 275 "BarrelRaft$Lashings" "first" "[I", Cond.fieldLink RX6 29 "BarrelRaft" "ways" "LBarrelRaft$Ways;", Cond.fieldLink RX6 278 "BarrelRaft$Lashings" "second" "[I"]
def wsX6_piece_r2 : List Cond := [Cond.methodLink RX6 243 yX5_countApart, Cond.instanceMethod yX5_countApart, Cond.selects RX5 yX5_countApart yX5_countApart, Cond.initialized RX5, Cond.code yX5_countApart cX5_countApart 5 (some .int), Cond.fieldLink RX5 9 "BarrelRaft$Ways" "used" "[I", Cond.fieldLink RX5 30 "BarrelRaft$Lashings" "number" "I", Cond.methodLink RX5 24 yJ7_fill_53178, Cond.static yJ7_fill_53178, Cond.initialized RJ7, Cond.code yJ7_fill_53178 cJ7_fill_53178 4 none, Cond.methodLink RX5 36 yX5_findWay, Cond.instanceMethod yX5_findWay, Cond.selects RX5 yX5_findWay yX5_findWay, Cond.code yX5_findWay cX5_findWay 6 (some .boolean), Cond.fieldLink RX5 15 "BarrelRaft$Ways" "cameBy" "[I", Cond.fieldLink RX5 18 "BarrelRaft$Ways" "reached" "[I", Cond.methodLink RX5 44 yX5_reachFrom, Cond.instanceMethod yX5_reachFrom, Cond.selects RX5 yX5_reachFrom yX5_reachFrom, Cond.code yX5_reachFrom cX5_reachFrom 8 (some .int), Cond.methodLink RX5 48 yX2_leadsTo, Cond.instanceMethod yX2_leadsTo, Cond.selects RX2 yX2_leadsTo yX2_leadsTo]
def wsX6_piece_r3 : List Cond := [Cond.initialized RX2, Cond.code yX2_leadsTo cX2_leadsTo 3 (some .int), Cond.fieldLink RX2 9 "BarrelRaft$Lashings" "first" "[I", Cond.fieldLink RX2 15 "BarrelRaft$Lashings" "second" "[I", Cond.methodLink RX5 52 yX5_direction, Cond.instanceMethod yX5_direction, Cond.selects RX5 yX5_direction yX5_direction, Cond.code yX5_direction cX5_direction 4 (some .int), Cond.fieldLink RX5 56 "BarrelRaft$Lashings" "first" "[I", Cond.methodLink RX5 40 yX5_useWay, Cond.instanceMethod yX5_useWay, Cond.selects RX5 yX5_useWay yX5_useWay, Cond.code yX5_useWay cX5_useWay 8 none, Cond.methodLink RX6 256 yX6_pieceSum, Cond.instanceMethod yX6_pieceSum, Cond.selects RX6 yX6_pieceSum yX6_pieceSum, Cond.code yX6_pieceSum cX6_pieceSum 6 (some .int), Cond.fieldLink RX6 118 "BarrelRaft$Barrels" "number" "I", Cond.fieldLink RX6 204 "BarrelRaft$Barrels" "people" "[I", Cond.methodLink RX6 281 yX0_liftNow, Cond.instanceMethod yX0_liftNow, Cond.selects RX0 yX0_liftNow yX0_liftNow, Cond.code yX0_liftNow cX0_liftNow 2 (some .int), Cond.fieldLink RX0 18 "BarrelRaft$Barrels" "lift" "[I"]
def wsX6_piece_r4 : List Cond := [Cond.fieldLink RX0 24 "BarrelRaft$Barrels" "water" "[I", Cond.methodLink RX6 284 yX0_loadOf, Cond.instanceMethod yX0_loadOf, Cond.selects RX0 yX0_loadOf yX0_loadOf, Cond.code yX0_loadOf cX0_loadOf 2 (some .int), Cond.fieldLink RX0 27 "BarrelRaft$Barrels" "goods" "[I", Cond.fieldLink RX0 30 "BarrelRaft$Barrels" "people" "[I"]
def wsX6_piece : List Cond := .code yX6_piece cX6_piece 4 (some .int) :: ((wsX6_piece_r1 ++ (wsX6_piece_r2 ++ (wsX6_piece_r3 ++ wsX6_piece_r4))) ++ wsX60 ++ wsX30 ++ wsX00 ++ wsX20 ++ wsX50 ++ (vx_atS RX6 79 "java/lang/IndexOutOfBoundsException" ["java/lang/RuntimeException", "java/lang/Exception"]).filter goodWord)
def wsX6_foresee_r1 : List Cond := [Cond.classLink RX6 41 "java/lang/IllegalArgumentException", Cond.initialized "java/lang/IllegalArgumentException", Cond.classLink RX6 75 "java/lang/IndexOutOfBoundsException", Cond.initialized "java/lang/IndexOutOfBoundsException", Cond.fieldLink RX6 23 "BarrelRaft" "trial" "LBarrelRaft$Raft;", Cond.fieldLink RX6 19 "BarrelRaft" "raft" "LBarrelRaft$Raft;", Cond.fieldLink RX6 12 "BarrelRaft" "waters" "LBarrelRaft$Waters;", Cond.fieldLink RX6 94 "BarrelRaft$Raft" "barrels" "LBarrelRaft$Barrels;", Cond.fieldLink RX6 195 "BarrelRaft$Raft" "castaways" "LBarrelRaft$Castaways;", Cond.fieldLink RX6 136 "BarrelRaft$Raft" "lashings" "LBarrelRaft$Lashings;", Cond.fieldLink RX6 271 "BarrelRaft$Lashings" "number" "I", Cond.methodLink RX6 72 yX6_isBelow, Cond.static yX6_isBelow, Cond.initialized RX6, Cond.code yX6_isBelow cX6_isBelow 2 (some .boolean), Cond.methodLink RX6 259 yX3_copyFrom, Cond.instanceMethod yX3_copyFrom, Cond.selects RX3 yX3_copyFrom yX3_copyFrom, Cond.initialized RX3, Cond.code yX3_copyFrom cX3_copyFrom 2 none, Cond.fieldLink RX3 12 "BarrelRaft$Raft" "barrels" "LBarrelRaft$Barrels;", Cond.fieldLink RX3 21 "BarrelRaft$Raft" "castaways" "LBarrelRaft$Castaways;", Cond.fieldLink RX3 28 "BarrelRaft$Raft" "lashings" "LBarrelRaft$Lashings;", Cond.fieldLink RX3 49 "BarrelRaft$Raft" "hour" "I"]
def wsX6_foresee_r2 : List Cond := [Cond.fieldLink RX3 53 "BarrelRaft$Raft" "broken" "I", Cond.methodLink RX3 39 yX0_copyFrom, Cond.instanceMethod yX0_copyFrom, Cond.selects RX0 yX0_copyFrom yX0_copyFrom, Cond.initialized RX0, Cond.code yX0_copyFrom cX0_copyFrom 2 none, Cond.fieldLink RX0 9 "BarrelRaft$Barrels" "column" "[I", Cond.methodLink RX0 73 arraycopyName, Cond.native arraycopyName, Cond.static arraycopyName, Cond.initialized "java/lang/System", Cond.fieldLink RX0 15 "BarrelRaft$Barrels" "row" "[I", Cond.fieldLink RX0 18 "BarrelRaft$Barrels" "lift" "[I", Cond.fieldLink RX0 21 "BarrelRaft$Barrels" "leak" "[I", Cond.fieldLink RX0 24 "BarrelRaft$Barrels" "water" "[I", Cond.fieldLink RX0 27 "BarrelRaft$Barrels" "goods" "[I", Cond.fieldLink RX0 30 "BarrelRaft$Barrels" "people" "[I", Cond.fieldLink RX0 33 "BarrelRaft$Barrels" "state" "[I", Cond.fieldLink RX0 36 "BarrelRaft$Barrels" "x" "[I", Cond.fieldLink RX0 39 "BarrelRaft$Barrels" "y" "[I", Cond.fieldLink RX0 42 "BarrelRaft$Barrels" "piece" "[I", Cond.fieldLink RX0 45 "BarrelRaft$Barrels" "number" "I", Cond.methodLink RX3 43 yX1_copyFrom, Cond.instanceMethod yX1_copyFrom]
def wsX6_foresee_r3 : List Cond := [Cond.selects RX1 yX1_copyFrom yX1_copyFrom, Cond.initialized RX1, Cond.code yX1_copyFrom cX1_copyFrom 2 none, Cond.fieldLink RX1 9 "BarrelRaft$Castaways" "seat" "[I", Cond.methodLink RX1 29 arraycopyName, Cond.fieldLink RX1 15 "BarrelRaft$Castaways" "state" "[I", Cond.fieldLink RX1 18 "BarrelRaft$Castaways" "number" "I", Cond.methodLink RX3 46 yX2_copyFrom, Cond.instanceMethod yX2_copyFrom, Cond.selects RX2 yX2_copyFrom yX2_copyFrom, Cond.initialized RX2, Cond.code yX2_copyFrom cX2_copyFrom 2 none, Cond.fieldLink RX2 9 "BarrelRaft$Lashings" "first" "[I", Cond.methodLink RX2 55 arraycopyName, Cond.fieldLink RX2 15 "BarrelRaft$Lashings" "second" "[I", Cond.fieldLink RX2 18 "BarrelRaft$Lashings" "strength" "[I", Cond.fieldLink RX2 21 "BarrelRaft$Lashings" "wear" "[I", Cond.fieldLink RX2 33 "BarrelRaft$Lashings" "number" "I", Cond.methodLink RX6 234 yX3_passHours, Cond.instanceMethod yX3_passHours, Cond.selects RX3 yX3_passHours yX3_passHours, Cond.code yX3_passHours cX3_passHours 4 none, Cond.methodLink RX3 96 yX0_firstAfloat, Cond.instanceMethod yX0_firstAfloat]
def wsX6_foresee_r4 : List Cond := [Cond.selects RX0 yX0_firstAfloat yX0_firstAfloat, Cond.code yX0_firstAfloat cX0_firstAfloat 2 (some .int), Cond.methodLink RX3 100 yX0_takeInWater, Cond.instanceMethod yX0_takeInWater, Cond.selects RX0 yX0_takeInWater yX0_takeInWater, Cond.code yX0_takeInWater cX0_takeInWater 2 none, Cond.methodLink RX0 66 Lib.Math.min.name, Cond.static Lib.Math.min.name, Cond.initialized "java/lang/Math", Cond.code Lib.Math.min.name Lib.Math.min.code 2 (some .int), Cond.methodLink RX3 103 yX3_loseOverloaded, Cond.instanceMethod yX3_loseOverloaded, Cond.selects RX3 yX3_loseOverloaded yX3_loseOverloaded, Cond.code yX3_loseOverloaded cX3_loseOverloaded 4 none, Cond.fieldLink RX3 119 "BarrelRaft$Barrels" "number" "I", Cond.fieldLink RX3 120 "BarrelRaft$Barrels" "piece" "[I", Cond.fieldLink RX3 36 "BarrelRaft$Raft" "pieceLoad" "[I", Cond.fieldLink RX3 32 "BarrelRaft$Raft" "pieceLift" "[I", Cond.methodLink RX3 116 yX3_weighPieces, Cond.instanceMethod yX3_weighPieces, Cond.selects RX3 yX3_weighPieces yX3_weighPieces, Cond.code yX3_weighPieces cX3_weighPieces 3 none, Cond.methodLink RX3 178 yX0_liftNow, Cond.instanceMethod yX0_liftNow]
def wsX6_foresee_r5 : List Cond := [Cond.selects RX0 yX0_liftNow yX0_liftNow, Cond.code yX0_liftNow cX0_liftNow 2 (some .int), Cond.methodLink RX3 88 yX0_loadOf, Cond.instanceMethod yX0_loadOf, Cond.selects RX0 yX0_loadOf yX0_loadOf, Cond.code yX0_loadOf cX0_loadOf 2 (some .int), Cond.methodLink RX3 123 yX0_end, Cond.instanceMethod yX0_end, Cond.selects RX0 yX0_end yX0_end, Cond.code yX0_end cX0_end 3 none, Cond.methodLink RX3 126 yX3_leaveEnded, Cond.instanceMethod yX3_leaveEnded, Cond.selects RX3 yX3_leaveEnded yX3_leaveEnded, Cond.code yX3_leaveEnded cX3_leaveEnded 2 none, Cond.fieldLink RX3 59 "BarrelRaft$Lashings" "number" "I", Cond.fieldLink RX3 62 "BarrelRaft$Lashings" "first" "[I", Cond.methodLink RX3 175 yX1_shareFate, Cond.instanceMethod yX1_shareFate, Cond.selects RX1 yX1_shareFate yX1_shareFate, Cond.code yX1_shareFate cX1_shareFate 4 none, Cond.fieldLink RX1 28 "BarrelRaft$Barrels" "state" "[I", Cond.methodLink RX1 22 yX0_has, Cond.instanceMethod yX0_has, Cond.selects RX0 yX0_has yX0_has]
def wsX6_foresee_r6 : List Cond := [Cond.code yX0_has cX0_has 2 (some .boolean), Cond.methodLink RX3 171 yX0_floats, Cond.instanceMethod yX0_floats, Cond.selects RX0 yX0_floats yX0_floats, Cond.code yX0_floats cX0_floats 2 (some .boolean), Cond.methodLink RX0 49 yX0_has, Cond.methodLink RX3 136 yX2_undo, Cond.instanceMethod yX2_undo, Cond.selects RX2 yX2_undo yX2_undo, Cond.code yX2_undo cX2_undo 2 none, Cond.methodLink RX3 143 yX2_sweep, Cond.instanceMethod yX2_sweep, Cond.selects RX2 yX2_sweep yX2_sweep, Cond.code yX2_sweep cX2_sweep 3 none, Cond.methodLink RX2 52 yX2_move, Cond.instanceMethod yX2_move, Cond.selects RX2 yX2_move yX2_move, Cond.code yX2_move cX2_move 3 none, Cond.methodLink RX3 106 yX3_wearLashings, Cond.instanceMethod yX3_wearLashings, Cond.selects RX3 yX3_wearLashings yX3_wearLashings, Cond.code yX3_wearLashings cX3_wearLashings 5 none, Cond.fieldLink RX3 140 "BarrelRaft$Lashings" "wear" "[I", Cond.methodLink RX3 129 yX3_stress]
def wsX6_foresee_r7 : List Cond := [Cond.instanceMethod yX3_stress, Cond.selects RX3 yX3_stress yX3_stress, Cond.code yX3_stress cX3_stress 6 (some .int), Cond.fieldLink RX3 65 "BarrelRaft$Lashings" "second" "[I", Cond.fieldLink RX3 72 "BarrelRaft$Barrels" "x" "[I", Cond.fieldLink RX3 75 "BarrelRaft$Barrels" "y" "[I", Cond.methodLink RX3 91 Lib.Math.abs.name, Cond.static Lib.Math.abs.name, Cond.code Lib.Math.abs.name Lib.Math.abs.code 1 (some .int), Cond.methodLink RX3 78 yX4_at, Cond.instanceMethod yX4_at, Cond.selects RX4 yX4_at yX4_at, Cond.initialized RX4, Cond.code yX4_at cX4_at 3 (some .int), Cond.fieldLink RX4 21 "BarrelRaft$Waters" "counting" "[I", Cond.static yX6_isSea, Cond.code yX6_isSea cX6_isSea 2 (some .boolean), Cond.methodLink RX3 84 yX4_waveOf, Cond.instanceMethod yX4_waveOf, Cond.selects RX4 yX4_waveOf yX4_waveOf, Cond.code yX4_waveOf cX4_waveOf 2 (some .int), Cond.fieldLink RX4 18 "BarrelRaft$Waters" "wave" "[I", Cond.methodLink RX4 38 yX4_has, Cond.instanceMethod yX4_has]
def wsX6_foresee_r8 : List Cond := [Cond.selects RX4 yX4_has yX4_has, Cond.code yX4_has cX4_has 2 (some .boolean), Cond.fieldLink RX4 34 "BarrelRaft$Waters" "number" "I", Cond.methodLink RX3 133 yX2_left, Cond.instanceMethod yX2_left, Cond.selects RX2 yX2_left yX2_left, Cond.code yX2_left cX2_left 2 (some .int), Cond.methodLink RX3 146 yX3_findPieces, Cond.instanceMethod yX3_findPieces, Cond.selects RX3 yX3_findPieces yX3_findPieces, Cond.code yX3_findPieces cX3_findPieces 2 none, Cond.methodLink RX3 56 yX0_standAlone, Cond.instanceMethod yX0_standAlone, Cond.selects RX0 yX0_standAlone yX0_standAlone, Cond.code yX0_standAlone cX0_standAlone 2 none, Cond.methodLink RX3 68 yX0_join, Cond.instanceMethod yX0_join, Cond.selects RX0 yX0_join yX0_join, Cond.code yX0_join cX0_join 6 none, Cond.methodLink RX0 70 Lib.Math.max.name, Cond.static Lib.Math.max.name, Cond.code Lib.Math.max.name Lib.Math.max.code 2 (some .int), Cond.methodLink RX3 110 yX3_drift, Cond.instanceMethod yX3_drift]
def wsX6_foresee_r9 : List Cond := [Cond.selects RX3 yX3_drift yX3_drift, Cond.code yX3_drift cX3_drift 4 none, Cond.methodLink RX3 149 yX3_driftPiece, Cond.instanceMethod yX3_driftPiece, Cond.selects RX3 yX3_driftPiece yX3_driftPiece, Cond.code yX3_driftPiece cX3_driftPiece 6 none, Cond.fieldLink RX3 159 "BarrelRaft$Waters" "windDx" "I", Cond.fieldLink RX3 162 "BarrelRaft$Waters" "windDy" "I", Cond.methodLink RX3 165 Lib.Math.min.name, Cond.methodLink RX3 168 Lib.Math.max.name, Cond.methodLink RX3 153 yX4_dxOf, Cond.instanceMethod yX4_dxOf, Cond.selects RX4 yX4_dxOf yX4_dxOf, Cond.code yX4_dxOf cX4_dxOf 2 (some .int), Cond.fieldLink RX4 9 "BarrelRaft$Waters" "dx" "[I", Cond.methodLink RX3 156 yX4_dyOf, Cond.instanceMethod yX4_dyOf, Cond.selects RX4 yX4_dyOf yX4_dyOf, Cond.code yX4_dyOf cX4_dyOf 2 (some .int), Cond.fieldLink RX4 15 "BarrelRaft$Waters" "dy" "[I", Cond.methodLink RX3 113 yX3_saveAshore, Cond.instanceMethod yX3_saveAshore, Cond.selects RX3 yX3_saveAshore yX3_saveAshore, Cond.code yX3_saveAshore cX3_saveAshore 3 none]
def wsX6_foresee_r10 : List Cond := [Cond.methodLink RX6 263 yX0_countOf, Cond.instanceMethod yX0_countOf, Cond.selects RX0 yX0_countOf yX0_countOf, Cond.code yX0_countOf cX0_countOf 4 (some .int), Cond.methodLink RX6 266 yX1_countOf, Cond.instanceMethod yX1_countOf, Cond.selects RX1 yX1_countOf yX1_countOf, Cond.code yX1_countOf cX1_countOf 4 (some .int), Cond.methodLink RX6 267 yX0_pieces, Cond.instanceMethod yX0_pieces, Cond.selects RX0 yX0_pieces yX0_pieces, Cond.code yX0_pieces cX0_pieces 3 (some .int)]
def wsX6_foresee : List Cond := .code yX6_foresee cX6_foresee 3 (some .int) :: ((wsX6_foresee_r1 ++ (wsX6_foresee_r2 ++ (wsX6_foresee_r3 ++ (wsX6_foresee_r4 ++ (wsX6_foresee_r5 ++ (wsX6_foresee_r6 ++ (wsX6_foresee_r7 ++ (wsX6_foresee_r8 ++ (wsX6_foresee_r9 ++ wsX6_foresee_r10))))))))) ++ wsX60 ++ wsX30 ++ wsX20 ++ wsX00 ++ wsX10 ++ wsX40 ++ (vx_atS RX6 45 "java/lang/IllegalArgumentException" ["java/lang/RuntimeException", "java/lang/Exception"]).filter goodWord ++ (vx_atS RX6 79 "java/lang/IndexOutOfBoundsException" ["java/lang/RuntimeException", "java/lang/Exception"]).filter goodWord)
def wsX7_init : List Cond := .code yX7_init cX7_init 1 none :: ([.methodLink RX7 1 objectInit, .instanceMethod objectInit, .code objectInit ⟨#[0xb1]⟩ 1 none, .fieldLink RX7 7 "BarrelRaftLaw$Sim" "ropes" "I", .classLink RX7 13 "[I", .fieldLink RX7 15 "BarrelRaftLaw$Sim" "waters" "[[I", .fieldLink RX7 19 "BarrelRaftLaw$Sim" "barrels" "[[I", .fieldLink RX7 22 "BarrelRaftLaw$Sim" "ties" "[[I", .fieldLink RX7 25 "BarrelRaftLaw$Sim" "people" "[[I"] ++ wsX70)
def wsX7_more : List Cond := .code yX7_more cX7_more 4 (some (.array (.array .int))) :: ([.classLink RX7 13 "[I"])
def wsX7_tie : List Cond := .code yX7_tie cX7_tie 7 (some (.array .int)) :: ([.fieldLink RX7 22 "BarrelRaftLaw$Sim" "ties" "[[I", .methodLink RX7 49 Lib.Math.min.name, .static Lib.Math.min.name, .initialized "java/lang/Math", .code Lib.Math.min.name Lib.Math.min.code 2 (some .int), .methodLink RX7 55 Lib.Math.max.name, .static Lib.Math.max.name, .code Lib.Math.max.name Lib.Math.max.code 2 (some .int)] ++ wsX70)
def wsX7_untie : List Cond := .code yX7_untie cX7_untie 7 none :: ([.classLink RX7 13 "[I", .fieldLink RX7 22 "BarrelRaftLaw$Sim" "ties" "[[I", .methodLink RX7 58 yX7_more, .static yX7_more, .initialized RX7, .code yX7_more cX7_more 4 (some (.array (.array .int)))] ++ wsX70)
def wsX7_tie_ : List Cond := .code yX7_tie_ cX7_tie_ 12 none :: ([.methodLink RX7 49 Lib.Math.min.name, .static Lib.Math.min.name, .initialized "java/lang/Math", .code Lib.Math.min.name Lib.Math.min.code 2 (some .int), .methodLink RX7 55 Lib.Math.max.name, .static Lib.Math.max.name, .code Lib.Math.max.name Lib.Math.max.code 2 (some .int), .classLink RX7 13 "[I", .fieldLink RX7 22 "BarrelRaftLaw$Sim" "ties" "[[I", .arrayClass .int, .methodLink RX7 62 yX7_tie, .instanceMethod yX7_tie, .selects RX7 yX7_tie yX7_tie, .initialized RX7, .code yX7_tie cX7_tie 7 (some (.array .int)), .methodLink RX7 66 yX7_untie, .instanceMethod yX7_untie, .selects RX7 yX7_untie yX7_untie, .code yX7_untie cX7_untie 7 none, .methodLink RX7 58 yX7_more, .static yX7_more, .code yX7_more cX7_more 4 (some (.array (.array .int)))] ++ wsX70)
def wsX7_sea : List Cond := .code yX7_sea cX7_sea 6 (some (.array .int)) :: ([.arrayClass .int, .fieldLink RX7 15 "BarrelRaftLaw$Sim" "waters" "[[I"] ++ wsX70)
def wsX7_load : List Cond := .code yX7_load cX7_load 7 (some .int) :: ([.fieldLink RX7 19 "BarrelRaftLaw$Sim" "barrels" "[[I", .fieldLink RX7 25 "BarrelRaftLaw$Sim" "people" "[[I"] ++ wsX70)
def wsX7_lifts : List Cond := .code yX7_lifts cX7_lifts 2 (some .int) :: ([.fieldLink RX7 19 "BarrelRaftLaw$Sim" "barrels" "[[I"] ++ wsX70)
def wsX7_piece : List Cond := .code yX7_piece cX7_piece 9 (some (.array .boolean)) :: ([.fieldLink RX7 19 "BarrelRaftLaw$Sim" "barrels" "[[I", .arrayClass .boolean, .fieldLink RX7 22 "BarrelRaftLaw$Sim" "ties" "[[I"] ++ wsX70)
def wsX7_name : List Cond := .code yX7_name cX7_name 4 (some .int) :: ([.methodLink RX7 70 yX7_piece, .instanceMethod yX7_piece, .selects RX7 yX7_piece yX7_piece, .initialized RX7, .code yX7_piece cX7_piece 9 (some (.array .boolean)), .fieldLink RX7 19 "BarrelRaftLaw$Sim" "barrels" "[[I", .arrayClass .boolean, .fieldLink RX7 22 "BarrelRaftLaw$Sim" "ties" "[[I"] ++ wsX70)
def wsX7_sum : List Cond := .code yX7_sum cX7_sum 9 (some .int) :: ([.fieldLink RX7 25 "BarrelRaftLaw$Sim" "people" "[[I", .methodLink RX7 74 yX7_lifts, .instanceMethod yX7_lifts, .selects RX7 yX7_lifts yX7_lifts, .initialized RX7, .code yX7_lifts cX7_lifts 2 (some .int), .fieldLink RX7 19 "BarrelRaftLaw$Sim" "barrels" "[[I", .methodLink RX7 78 yX7_load, .instanceMethod yX7_load, .selects RX7 yX7_load yX7_load, .code yX7_load cX7_load 7 (some .int)] ++ wsX70)
def wsX7_end : List Cond := .code yX7_end cX7_end 8 none :: ([.fieldLink RX7 19 "BarrelRaftLaw$Sim" "barrels" "[[I", .fieldLink RX7 25 "BarrelRaftLaw$Sim" "people" "[[I", .classLink RX7 13 "[I", .fieldLink RX7 22 "BarrelRaftLaw$Sim" "ties" "[[I", .methodLink RX7 58 yX7_more, .static yX7_more, .initialized RX7, .code yX7_more cX7_more 4 (some (.array (.array .int)))] ++ wsX70)
def wsX7_pass_r1 : List Cond := [Cond.fieldLink RX7 19 "BarrelRaftLaw$Sim" "barrels" "[[I", Cond.methodLink RX7 49 Lib.Math.min.name, Cond.static Lib.Math.min.name, Cond.initialized "java/lang/Math", Cond.code Lib.Math.min.name Lib.Math.min.code 2 (some .int), Cond.classLink RX7 13 "[I", Cond.fieldLink RX7 22 "BarrelRaftLaw$Sim" "ties" "[[I", Cond.methodLink RX7 95 Lib.Math.abs.name, Cond.static Lib.Math.abs.name, Cond.code Lib.Math.abs.name Lib.Math.abs.code 1 (some .int), Cond.fieldLink RX7 39 "BarrelRaftLaw$Sim" "windX" "I", Cond.fieldLink RX7 42 "BarrelRaftLaw$Sim" "windY" "I", Cond.arrayClass .int, Cond.fieldLink RX7 33 "BarrelRaftLaw$Sim" "hour" "I", Cond.fieldLink RX7 36 "BarrelRaftLaw$Sim" "broken" "I", Cond.methodLink RX7 81 yX7_name, Cond.instanceMethod yX7_name, Cond.selects RX7 yX7_name yX7_name, Cond.initialized RX7, Cond.code yX7_name cX7_name 4 (some .int), Cond.methodLink RX7 70 yX7_piece, Cond.instanceMethod yX7_piece, Cond.selects RX7 yX7_piece yX7_piece, Cond.code yX7_piece cX7_piece 9 (some (.array .boolean))]
def wsX7_pass_r2 : List Cond := [Cond.arrayClass .boolean, Cond.methodLink RX7 84 yX7_sum, Cond.instanceMethod yX7_sum, Cond.selects RX7 yX7_sum yX7_sum, Cond.code yX7_sum cX7_sum 9 (some .int), Cond.fieldLink RX7 25 "BarrelRaftLaw$Sim" "people" "[[I", Cond.methodLink RX7 74 yX7_lifts, Cond.instanceMethod yX7_lifts, Cond.selects RX7 yX7_lifts yX7_lifts, Cond.code yX7_lifts cX7_lifts 2 (some .int), Cond.methodLink RX7 78 yX7_load, Cond.instanceMethod yX7_load, Cond.selects RX7 yX7_load yX7_load, Cond.code yX7_load cX7_load 7 (some .int), Cond.methodLink RX7 88 yX7_end, Cond.instanceMethod yX7_end, Cond.selects RX7 yX7_end yX7_end, Cond.code yX7_end cX7_end 8 none, Cond.methodLink RX7 58 yX7_more, Cond.static yX7_more, Cond.code yX7_more cX7_more 4 (some (.array (.array .int))), Cond.methodLink RX7 92 yX7_sea, Cond.instanceMethod yX7_sea, Cond.selects RX7 yX7_sea yX7_sea]
def wsX7_pass_r3 : List Cond := [Cond.code yX7_sea cX7_sea 6 (some (.array .int)), Cond.fieldLink RX7 15 "BarrelRaftLaw$Sim" "waters" "[[I"]
def wsX7_pass : List Cond := .code yX7_pass cX7_pass 10 (some .int) :: ((wsX7_pass_r1 ++ (wsX7_pass_r2 ++ wsX7_pass_r3)) ++ wsX70)
def wsJ9_abs_0f7a4 : List Cond := .code yJ9_abs_0f7a4 cJ9_abs_0f7a4 1 (some .int) :: ([])
def wsJ9_max_7cf53 : List Cond := .code yJ9_max_7cf53 cJ9_max_7cf53 2 (some .int) :: ([])
def wsJ9_min_7cf53 : List Cond := .code yJ9_min_7cf53 cJ9_min_7cf53 2 (some .int) :: ([])
def wsL_below : List Cond := .code yL_below cL_below 2 (some .int) :: ([.constant RL 7 (2147483647)])
def wsL_cell : List Cond := .code yL_cell cL_cell 2 (some .int) :: ([.constant RL 8 (790386105)])
def wsL_tie_r1 : List Cond := [Cond.fieldLink RL 40 "BarrelRaftLaw$Sim" "barrels" "[[I", Cond.methodLink RL 54 Lib.Math.abs.name, Cond.static Lib.Math.abs.name, Cond.initialized "java/lang/Math", Cond.code Lib.Math.abs.name Lib.Math.abs.code 1 (some .int), Cond.fieldLink RL 59 "BarrelRaftLaw$Sim" "ropes" "I", Cond.methodLink RL 18 yL_below, Cond.static yL_below, Cond.initialized RL, Cond.code yL_below cL_below 2 (some .int), Cond.constant RL 7 (2147483647), Cond.methodLink RL 63 yX7_tie_, Cond.instanceMethod yX7_tie_, Cond.selects RX7 yX7_tie_ yX7_tie_, Cond.initialized RX7, Cond.code yX7_tie_ cX7_tie_ 12 none, Cond.methodLink RX7 49 Lib.Math.min.name, Cond.static Lib.Math.min.name, Cond.code Lib.Math.min.name Lib.Math.min.code 2 (some .int), Cond.methodLink RX7 55 Lib.Math.max.name, Cond.static Lib.Math.max.name, Cond.code Lib.Math.max.name Lib.Math.max.code 2 (some .int), Cond.classLink RX7 13 "[I", Cond.fieldLink RX7 22 "BarrelRaftLaw$Sim" "ties" "[[I"]
def wsL_tie_r2 : List Cond := [Cond.arrayClass .int, Cond.methodLink RX7 62 yX7_tie, Cond.instanceMethod yX7_tie, Cond.selects RX7 yX7_tie yX7_tie, Cond.code yX7_tie cX7_tie 7 (some (.array .int)), Cond.methodLink RX7 66 yX7_untie, Cond.instanceMethod yX7_untie, Cond.selects RX7 yX7_untie yX7_untie, Cond.code yX7_untie cX7_untie 7 none, Cond.methodLink RX7 58 yX7_more, Cond.static yX7_more, Cond.code yX7_more cX7_more 4 (some (.array (.array .int))), Cond.methodLink RL 66 yX6_tie, Cond.instanceMethod yX6_tie, Cond.selects RX6 yX6_tie yX6_tie, Cond.initialized RX6, Cond.code yX6_tie cX6_tie 4 (some .int), Cond.classLink RX6 75 "java/lang/IndexOutOfBoundsException", Cond.initialized "java/lang/IndexOutOfBoundsException", Cond.classLink RX6 41 "java/lang/IllegalArgumentException", Cond.initialized "java/lang/IllegalArgumentException", Cond.classLink RX6 59 "java/lang/IllegalStateException", Cond.initialized "java/lang/IllegalStateException", Cond.fieldLink RX6 19 "BarrelRaft" "raft" "LBarrelRaft$Raft;"]
def wsL_tie_r3 : List Cond := [Cond.fieldLink RX6 94 "BarrelRaft$Raft" "barrels" "LBarrelRaft$Barrels;", Cond.fieldLink RX6 33 "BarrelRaft" "ropes" "I", Cond.fieldLink RX6 136 "BarrelRaft$Raft" "lashings" "LBarrelRaft$Lashings;", Cond.methodLink RX6 140 Lib.Math.min.name, Cond.methodLink RX6 145 Lib.Math.max.name, Cond.methodLink RX6 124 yX0_has, Cond.instanceMethod yX0_has, Cond.selects RX0 yX0_has yX0_has, Cond.initialized RX0, Cond.code yX0_has cX0_has 2 (some .boolean), Cond.fieldLink RX0 45 "BarrelRaft$Barrels" "number" "I", Cond.methodLink RX6 131 yX0_canBeTied, Cond.instanceMethod yX0_canBeTied, Cond.selects RX0 yX0_canBeTied yX0_canBeTied, Cond.code yX0_canBeTied cX0_canBeTied 4 (some .boolean), Cond.fieldLink RX0 9 "BarrelRaft$Barrels" "column" "[I", Cond.methodLink RX0 56 Lib.Math.abs.name, Cond.fieldLink RX0 15 "BarrelRaft$Barrels" "row" "[I", Cond.fieldLink RX0 36 "BarrelRaft$Barrels" "x" "[I", Cond.fieldLink RX0 39 "BarrelRaft$Barrels" "y" "[I", Cond.methodLink RX0 53 yX0_floats, Cond.instanceMethod yX0_floats, Cond.selects RX0 yX0_floats yX0_floats, Cond.code yX0_floats cX0_floats 2 (some .boolean)]
def wsL_tie_r4 : List Cond := [Cond.fieldLink RX0 33 "BarrelRaft$Barrels" "state" "[I", Cond.methodLink RX0 49 yX0_has, Cond.methodLink RX6 148 yX2_make, Cond.instanceMethod yX2_make, Cond.selects RX2 yX2_make yX2_make, Cond.initialized RX2, Cond.code yX2_make cX2_make 5 none, Cond.fieldLink RX2 33 "BarrelRaft$Lashings" "number" "I", Cond.methodLink RX2 37 yX2_find, Cond.instanceMethod yX2_find, Cond.selects RX2 yX2_find yX2_find, Cond.code yX2_find cX2_find 6 (some .int), Cond.methodLink RX2 24 Lib.Math.min.name, Cond.methodLink RX2 30 Lib.Math.max.name, Cond.fieldLink RX2 9 "BarrelRaft$Lashings" "first" "[I", Cond.fieldLink RX2 15 "BarrelRaft$Lashings" "second" "[I", Cond.methodLink RX2 40 yX2_renew, Cond.instanceMethod yX2_renew, Cond.selects RX2 yX2_renew yX2_renew, Cond.code yX2_renew cX2_renew 3 none, Cond.fieldLink RX2 18 "BarrelRaft$Lashings" "strength" "[I", Cond.fieldLink RX2 21 "BarrelRaft$Lashings" "wear" "[I", Cond.methodLink RX2 44 yX2_insert, Cond.instanceMethod yX2_insert]
def wsL_tie_r5 : List Cond := [Cond.selects RX2 yX2_insert yX2_insert, Cond.code yX2_insert cX2_insert 6 none, Cond.methodLink RX2 48 yX2_isAfter, Cond.instanceMethod yX2_isAfter, Cond.selects RX2 yX2_isAfter yX2_isAfter, Cond.code yX2_isAfter cX2_isAfter 4 (some .boolean), Cond.methodLink RX2 52 yX2_move, Cond.instanceMethod yX2_move, Cond.selects RX2 yX2_move yX2_move, Cond.code yX2_move cX2_move 3 none, Cond.methodLink RX6 154 yX3_findPieces, Cond.instanceMethod yX3_findPieces, Cond.selects RX3 yX3_findPieces yX3_findPieces, Cond.initialized RX3, Cond.code yX3_findPieces cX3_findPieces 2 none, Cond.fieldLink RX3 12 "BarrelRaft$Raft" "barrels" "LBarrelRaft$Barrels;", Cond.fieldLink RX3 28 "BarrelRaft$Raft" "lashings" "LBarrelRaft$Lashings;", Cond.fieldLink RX3 59 "BarrelRaft$Lashings" "number" "I", Cond.fieldLink RX3 62 "BarrelRaft$Lashings" "first" "[I", Cond.fieldLink RX3 65 "BarrelRaft$Lashings" "second" "[I", Cond.methodLink RX3 56 yX0_standAlone, Cond.instanceMethod yX0_standAlone, Cond.selects RX0 yX0_standAlone yX0_standAlone, Cond.code yX0_standAlone cX0_standAlone 2 none]
def wsL_tie_r6 : List Cond := [Cond.fieldLink RX0 42 "BarrelRaft$Barrels" "piece" "[I", Cond.methodLink RX3 68 yX0_join, Cond.instanceMethod yX0_join, Cond.selects RX0 yX0_join yX0_join, Cond.code yX0_join cX0_join 6 none, Cond.methodLink RX0 66 Lib.Math.min.name, Cond.methodLink RX0 70 Lib.Math.max.name]
def wsL_tie : List Cond := .code yL_tie cL_tie 10 (some .boolean) :: ((wsL_tie_r1 ++ (wsL_tie_r2 ++ (wsL_tie_r3 ++ (wsL_tie_r4 ++ (wsL_tie_r5 ++ wsL_tie_r6))))) ++ wsX70 ++ wsX60 ++ wsX30 ++ wsX00 ++ wsX20 ++ (vx_atS RX6 79 "java/lang/IndexOutOfBoundsException" ["java/lang/RuntimeException", "java/lang/Exception"]).filter goodWord ++ (vx_atS RX6 45 "java/lang/IllegalArgumentException" ["java/lang/RuntimeException", "java/lang/Exception"]).filter goodWord ++ (vx_atS RX6 63 "java/lang/IllegalStateException" ["java/lang/RuntimeException", "java/lang/Exception"]).filter goodWord)
def wsL_build_r1 : List Cond := [Cond.classLink RL 9 RX7, Cond.instantiable RX7 9, Cond.initialized RX7, Cond.arrayClass .int, Cond.fieldLink RL 28 "BarrelRaftLaw$Sim" "waters" "[[I", Cond.fieldLink RL 40 "BarrelRaftLaw$Sim" "barrels" "[[I", Cond.fieldLink RL 51 "BarrelRaftLaw$Sim" "people" "[[I", Cond.instanceMethod yX7_init, Cond.code yX7_init cX7_init 1 none, Cond.methodLink RX7 1 objectInit, Cond.instanceMethod objectInit, Cond.code objectInit ⟨#[0xb1]⟩ 1 none, Cond.fieldLink RX7 7 "BarrelRaftLaw$Sim" "ropes" "I", Cond.classLink RX7 13 "[I", Cond.fieldLink RX7 15 "BarrelRaftLaw$Sim" "waters" "[[I", Cond.fieldLink RX7 19 "BarrelRaftLaw$Sim" "barrels" "[[I", Cond.fieldLink RX7 22 "BarrelRaftLaw$Sim" "ties" "[[I", Cond.fieldLink RX7 25 "BarrelRaftLaw$Sim" "people" "[[I", Cond.methodLink RL 12 yL_cell, Cond.static yL_cell, Cond.initialized RL, Cond.code yL_cell cL_cell 2 (some .int), Cond.constant RL 8 (790386105), Cond.methodLink RL 18 yL_below]
def wsL_build_r2 : List Cond := [Cond.static yL_below, Cond.code yL_below cL_below 2 (some .int), Cond.constant RL 7 (2147483647), Cond.methodLink RL 22 yX6_addWater, Cond.instanceMethod yX6_addWater, Cond.selects RX6 yX6_addWater yX6_addWater, Cond.initialized RX6, Cond.code yX6_addWater cX6_addWater 8 (some .int), Cond.classLink RX6 41 "java/lang/IllegalArgumentException", Cond.initialized "java/lang/IllegalArgumentException", Cond.classLink RX6 59 "java/lang/IllegalStateException", Cond.initialized "java/lang/IllegalStateException", Cond.fieldLink RX6 12 "BarrelRaft" "waters" "LBarrelRaft$Waters;", Cond.fieldLink RX6 56 "BarrelRaft$Waters" "number" "I", Cond.methodLink RX6 37 yX6_isSea, Cond.static yX6_isSea, Cond.code yX6_isSea cX6_isSea 2 (some .boolean), Cond.methodLink RX6 50 yX6_isFlow, Cond.static yX6_isFlow, Cond.code yX6_isFlow cX6_isFlow 1 (some .boolean), Cond.methodLink RX6 64 yX4_cover, Cond.instanceMethod yX4_cover, Cond.selects RX4 yX4_cover yX4_cover, Cond.initialized RX4]
def wsL_build_r3 : List Cond := [Cond.code yX4_cover cX4_cover 7 none, Cond.fieldLink RX4 21 "BarrelRaft$Waters" "counting" "[I", Cond.fieldLink RX4 34 "BarrelRaft$Waters" "number" "I", Cond.methodLink RX6 68 yX4_append, Cond.instanceMethod yX4_append, Cond.selects RX4 yX4_append yX4_append, Cond.code yX4_append cX4_append 5 (some .int), Cond.fieldLink RX4 9 "BarrelRaft$Waters" "dx" "[I", Cond.fieldLink RX4 15 "BarrelRaft$Waters" "dy" "[I", Cond.fieldLink RX4 18 "BarrelRaft$Waters" "wave" "[I", Cond.methodLink RL 32 yX7_more, Cond.static yX7_more, Cond.code yX7_more cX7_more 4 (some (.array (.array .int))), Cond.methodLink RL 36 yX6_addBarrel, Cond.instanceMethod yX6_addBarrel, Cond.selects RX6 yX6_addBarrel yX6_addBarrel, Cond.code yX6_addBarrel cX6_addBarrel 5 (some .int), Cond.fieldLink RX6 19 "BarrelRaft" "raft" "LBarrelRaft$Raft;", Cond.fieldLink RX6 94 "BarrelRaft$Raft" "barrels" "LBarrelRaft$Barrels;", Cond.fieldLink RX6 118 "BarrelRaft$Barrels" "number" "I", Cond.methodLink RX6 72 yX6_isBelow, Cond.static yX6_isBelow, Cond.code yX6_isBelow cX6_isBelow 2 (some .boolean), Cond.methodLink RX6 115 yX0_liesAt]
def wsL_build_r4 : List Cond := [Cond.instanceMethod yX0_liesAt, Cond.selects RX0 yX0_liesAt yX0_liesAt, Cond.initialized RX0, Cond.code yX0_liesAt cX0_liesAt 4 (some .boolean), Cond.fieldLink RX0 45 "BarrelRaft$Barrels" "number" "I", Cond.fieldLink RX0 9 "BarrelRaft$Barrels" "column" "[I", Cond.fieldLink RX0 15 "BarrelRaft$Barrels" "row" "[I", Cond.methodLink RX6 121 yX0_append, Cond.instanceMethod yX0_append, Cond.selects RX0 yX0_append yX0_append, Cond.code yX0_append cX0_append 7 (some .int), Cond.fieldLink RX0 36 "BarrelRaft$Barrels" "x" "[I", Cond.fieldLink RX0 39 "BarrelRaft$Barrels" "y" "[I", Cond.fieldLink RX0 18 "BarrelRaft$Barrels" "lift" "[I", Cond.fieldLink RX0 21 "BarrelRaft$Barrels" "leak" "[I", Cond.fieldLink RX0 42 "BarrelRaft$Barrels" "piece" "[I", Cond.methodLink RX0 62 yX0_firstAfloat, Cond.instanceMethod yX0_firstAfloat, Cond.selects RX0 yX0_firstAfloat yX0_firstAfloat, Cond.code yX0_firstAfloat cX0_firstAfloat 2 (some .int), Cond.fieldLink RX0 33 "BarrelRaft$Barrels" "state" "[I", Cond.methodLink RL 43 yL_tie, Cond.static yL_tie, Cond.code yL_tie cL_tie 10 (some .boolean)]
def wsL_build_r5 : List Cond := [Cond.methodLink RL 54 Lib.Math.abs.name, Cond.static Lib.Math.abs.name, Cond.initialized "java/lang/Math", Cond.code Lib.Math.abs.name Lib.Math.abs.code 1 (some .int), Cond.fieldLink RL 59 "BarrelRaftLaw$Sim" "ropes" "I", Cond.methodLink RL 63 yX7_tie_, Cond.instanceMethod yX7_tie_, Cond.selects RX7 yX7_tie_ yX7_tie_, Cond.code yX7_tie_ cX7_tie_ 12 none, Cond.methodLink RX7 49 Lib.Math.min.name, Cond.static Lib.Math.min.name, Cond.code Lib.Math.min.name Lib.Math.min.code 2 (some .int), Cond.methodLink RX7 55 Lib.Math.max.name, Cond.static Lib.Math.max.name, Cond.code Lib.Math.max.name Lib.Math.max.code 2 (some .int), Cond.methodLink RX7 62 yX7_tie, Cond.instanceMethod yX7_tie, Cond.selects RX7 yX7_tie yX7_tie, Cond.code yX7_tie cX7_tie 7 (some (.array .int)), Cond.methodLink RX7 66 yX7_untie, Cond.instanceMethod yX7_untie, Cond.selects RX7 yX7_untie yX7_untie, Cond.code yX7_untie cX7_untie 7 none, Cond.methodLink RX7 58 yX7_more]
def wsL_build_r6 : List Cond := [Cond.methodLink RL 66 yX6_tie, Cond.instanceMethod yX6_tie, Cond.selects RX6 yX6_tie yX6_tie, Cond.code yX6_tie cX6_tie 4 (some .int), Cond.classLink RX6 75 "java/lang/IndexOutOfBoundsException", Cond.initialized "java/lang/IndexOutOfBoundsException", Cond.fieldLink RX6 33 "BarrelRaft" "ropes" "I", Cond.fieldLink RX6 136 "BarrelRaft$Raft" "lashings" "LBarrelRaft$Lashings;", Cond.methodLink RX6 140 Lib.Math.min.name, Cond.methodLink RX6 145 Lib.Math.max.name, Cond.methodLink RX6 124 yX0_has, Cond.instanceMethod yX0_has, Cond.selects RX0 yX0_has yX0_has, Cond.code yX0_has cX0_has 2 (some .boolean), Cond.methodLink RX6 131 yX0_canBeTied, Cond.instanceMethod yX0_canBeTied, Cond.selects RX0 yX0_canBeTied yX0_canBeTied, Cond.code yX0_canBeTied cX0_canBeTied 4 (some .boolean), Cond.methodLink RX0 56 Lib.Math.abs.name, Cond.methodLink RX0 53 yX0_floats, Cond.instanceMethod yX0_floats, Cond.selects RX0 yX0_floats yX0_floats, Cond.code yX0_floats cX0_floats 2 (some .boolean), Cond.methodLink RX0 49 yX0_has]
def wsL_build_r7 : List Cond := [Cond.methodLink RX6 148 yX2_make, Cond.instanceMethod yX2_make, Cond.selects RX2 yX2_make yX2_make, Cond.initialized RX2, Cond.code yX2_make cX2_make 5 none, Cond.fieldLink RX2 33 "BarrelRaft$Lashings" "number" "I", Cond.methodLink RX2 37 yX2_find, Cond.instanceMethod yX2_find, Cond.selects RX2 yX2_find yX2_find, Cond.code yX2_find cX2_find 6 (some .int), Cond.methodLink RX2 24 Lib.Math.min.name, Cond.methodLink RX2 30 Lib.Math.max.name, Cond.fieldLink RX2 9 "BarrelRaft$Lashings" "first" "[I", Cond.fieldLink RX2 15 "BarrelRaft$Lashings" "second" "[I", Cond.methodLink RX2 40 yX2_renew, Cond.instanceMethod yX2_renew, Cond.selects RX2 yX2_renew yX2_renew, Cond.code yX2_renew cX2_renew 3 none, Cond.fieldLink RX2 18 "BarrelRaft$Lashings" "strength" "[I", Cond.fieldLink RX2 21 "BarrelRaft$Lashings" "wear" "[I", Cond.methodLink RX2 44 yX2_insert, Cond.instanceMethod yX2_insert, Cond.selects RX2 yX2_insert yX2_insert, Cond.code yX2_insert cX2_insert 6 none]
def wsL_build_r8 : List Cond := [Cond.methodLink RX2 48 yX2_isAfter, Cond.instanceMethod yX2_isAfter, Cond.selects RX2 yX2_isAfter yX2_isAfter, Cond.code yX2_isAfter cX2_isAfter 4 (some .boolean), Cond.methodLink RX2 52 yX2_move, Cond.instanceMethod yX2_move, Cond.selects RX2 yX2_move yX2_move, Cond.code yX2_move cX2_move 3 none, Cond.methodLink RX6 154 yX3_findPieces, Cond.instanceMethod yX3_findPieces, Cond.selects RX3 yX3_findPieces yX3_findPieces, Cond.initialized RX3, Cond.code yX3_findPieces cX3_findPieces 2 none, Cond.fieldLink RX3 12 "BarrelRaft$Raft" "barrels" "LBarrelRaft$Barrels;", Cond.fieldLink RX3 28 "BarrelRaft$Raft" "lashings" "LBarrelRaft$Lashings;", Cond.fieldLink RX3 59 "BarrelRaft$Lashings" "number" "I", Cond.fieldLink RX3 62 "BarrelRaft$Lashings" "first" "[I", Cond.fieldLink RX3 65 "BarrelRaft$Lashings" "second" "[I", Cond.methodLink RX3 56 yX0_standAlone, Cond.instanceMethod yX0_standAlone, Cond.selects RX0 yX0_standAlone yX0_standAlone, Cond.code yX0_standAlone cX0_standAlone 2 none, Cond.methodLink RX3 68 yX0_join, Cond.instanceMethod yX0_join]
def wsL_build_r9 : List Cond := [Cond.selects RX0 yX0_join yX0_join, Cond.code yX0_join cX0_join 6 none, Cond.methodLink RX0 66 Lib.Math.min.name, Cond.methodLink RX0 70 Lib.Math.max.name, Cond.methodLink RL 47 yX6_addCastaway, Cond.instanceMethod yX6_addCastaway, Cond.selects RX6 yX6_addCastaway yX6_addCastaway, Cond.code yX6_addCastaway cX6_addCastaway 2 (some .int), Cond.fieldLink RX6 195 "BarrelRaft$Raft" "castaways" "LBarrelRaft$Castaways;", Cond.fieldLink RX6 199 "BarrelRaft$Castaways" "number" "I", Cond.fieldLink RX6 204 "BarrelRaft$Barrels" "people" "[I", Cond.methodLink RX6 171 yX0_floats, Cond.methodLink RX6 207 yX1_append, Cond.instanceMethod yX1_append, Cond.selects RX1 yX1_append yX1_append, Cond.initialized RX1, Cond.code yX1_append cX1_append 3 (some .int), Cond.fieldLink RX1 18 "BarrelRaft$Castaways" "number" "I", Cond.fieldLink RX1 9 "BarrelRaft$Castaways" "seat" "[I", Cond.fieldLink RX1 15 "BarrelRaft$Castaways" "state" "[I"]
def wsL_build : List Cond := .code yL_build cL_build 12 (some (.object "BarrelRaftLaw$Sim")) :: ((wsL_build_r1 ++ (wsL_build_r2 ++ (wsL_build_r3 ++ (wsL_build_r4 ++ (wsL_build_r5 ++ (wsL_build_r6 ++ (wsL_build_r7 ++ (wsL_build_r8 ++ wsL_build_r9)))))))) ++ wsX70 ++ wsX60 ++ wsX40 ++ wsX30 ++ wsX00 ++ wsX20 ++ wsX10 ++ (vx_atS RX6 45 "java/lang/IllegalArgumentException" ["java/lang/RuntimeException", "java/lang/Exception"]).filter goodWord ++ (vx_atS RX6 63 "java/lang/IllegalStateException" ["java/lang/RuntimeException", "java/lang/Exception"]).filter goodWord ++ (vx_atS RX6 79 "java/lang/IndexOutOfBoundsException" ["java/lang/RuntimeException", "java/lang/Exception"]).filter goodWord)
def wsL_act_r1 : List Cond := [Cond.fieldLink RL 40 "BarrelRaftLaw$Sim" "barrels" "[[I", Cond.fieldLink RL 51 "BarrelRaftLaw$Sim" "people" "[[I", Cond.fieldLink RL 69 "BarrelRaftLaw$Sim" "ties" "[[I", Cond.fieldLink RL 59 "BarrelRaftLaw$Sim" "ropes" "I", Cond.methodLink RL 76 Lib.Math.min.name, Cond.static Lib.Math.min.name, Cond.initialized "java/lang/Math", Cond.code Lib.Math.min.name Lib.Math.min.code 2 (some .int), Cond.fieldLink RL 96 "BarrelRaftLaw$Sim" "windX" "I", Cond.fieldLink RL 99 "BarrelRaftLaw$Sim" "windY" "I", Cond.methodLink RL 18 yL_below, Cond.static yL_below, Cond.initialized RL, Cond.code yL_below cL_below 2 (some .int), Cond.constant RL 7 (2147483647), Cond.methodLink RL 43 yL_tie, Cond.static yL_tie, Cond.code yL_tie cL_tie 10 (some .boolean), Cond.methodLink RL 54 Lib.Math.abs.name, Cond.static Lib.Math.abs.name, Cond.code Lib.Math.abs.name Lib.Math.abs.code 1 (some .int), Cond.methodLink RL 63 yX7_tie_, Cond.instanceMethod yX7_tie_, Cond.selects RX7 yX7_tie_ yX7_tie_]
def wsL_act_r2 : List Cond := [Cond.initialized RX7, Cond.code yX7_tie_ cX7_tie_ 12 none, Cond.methodLink RX7 49 Lib.Math.min.name, Cond.methodLink RX7 55 Lib.Math.max.name, Cond.static Lib.Math.max.name, Cond.code Lib.Math.max.name Lib.Math.max.code 2 (some .int), Cond.classLink RX7 13 "[I", Cond.fieldLink RX7 22 "BarrelRaftLaw$Sim" "ties" "[[I", Cond.arrayClass .int, Cond.methodLink RX7 62 yX7_tie, Cond.instanceMethod yX7_tie, Cond.selects RX7 yX7_tie yX7_tie, Cond.code yX7_tie cX7_tie 7 (some (.array .int)), Cond.methodLink RX7 66 yX7_untie, Cond.instanceMethod yX7_untie, Cond.selects RX7 yX7_untie yX7_untie, Cond.code yX7_untie cX7_untie 7 none, Cond.methodLink RX7 58 yX7_more, Cond.static yX7_more, Cond.code yX7_more cX7_more 4 (some (.array (.array .int))), Cond.methodLink RL 66 yX6_tie, Cond.instanceMethod yX6_tie, Cond.selects RX6 yX6_tie yX6_tie, Cond.initialized RX6]
def wsL_act_r3 : List Cond := [Cond.code yX6_tie cX6_tie 4 (some .int), Cond.classLink RX6 75 "java/lang/IndexOutOfBoundsException", Cond.initialized "java/lang/IndexOutOfBoundsException", Cond.classLink RX6 41 "java/lang/IllegalArgumentException", Cond.initialized "java/lang/IllegalArgumentException", Cond.classLink RX6 59 "java/lang/IllegalStateException", Cond.initialized "java/lang/IllegalStateException", Cond.fieldLink RX6 19 "BarrelRaft" "raft" "LBarrelRaft$Raft;", Cond.fieldLink RX6 94 "BarrelRaft$Raft" "barrels" "LBarrelRaft$Barrels;", Cond.fieldLink RX6 33 "BarrelRaft" "ropes" "I", Cond.fieldLink RX6 136 "BarrelRaft$Raft" "lashings" "LBarrelRaft$Lashings;", Cond.methodLink RX6 140 Lib.Math.min.name, Cond.methodLink RX6 145 Lib.Math.max.name, Cond.methodLink RX6 124 yX0_has, Cond.instanceMethod yX0_has, Cond.selects RX0 yX0_has yX0_has, Cond.initialized RX0, Cond.code yX0_has cX0_has 2 (some .boolean), Cond.fieldLink RX0 45 "BarrelRaft$Barrels" "number" "I", Cond.methodLink RX6 131 yX0_canBeTied, Cond.instanceMethod yX0_canBeTied, Cond.selects RX0 yX0_canBeTied yX0_canBeTied, Cond.code yX0_canBeTied cX0_canBeTied 4 (some .boolean), Cond.fieldLink RX0 9 "BarrelRaft$Barrels" "column" "[I"]
def wsL_act_r4 : List Cond := [Cond.methodLink RX0 56 Lib.Math.abs.name, Cond.fieldLink RX0 15 "BarrelRaft$Barrels" "row" "[I", Cond.fieldLink RX0 36 "BarrelRaft$Barrels" "x" "[I", Cond.fieldLink RX0 39 "BarrelRaft$Barrels" "y" "[I", Cond.methodLink RX0 53 yX0_floats, Cond.instanceMethod yX0_floats, Cond.selects RX0 yX0_floats yX0_floats, Cond.code yX0_floats cX0_floats 2 (some .boolean), Cond.fieldLink RX0 33 "BarrelRaft$Barrels" "state" "[I", Cond.methodLink RX0 49 yX0_has, Cond.methodLink RX6 148 yX2_make, Cond.instanceMethod yX2_make, Cond.selects RX2 yX2_make yX2_make, Cond.initialized RX2, Cond.code yX2_make cX2_make 5 none, Cond.fieldLink RX2 33 "BarrelRaft$Lashings" "number" "I", Cond.methodLink RX2 37 yX2_find, Cond.instanceMethod yX2_find, Cond.selects RX2 yX2_find yX2_find, Cond.code yX2_find cX2_find 6 (some .int), Cond.methodLink RX2 24 Lib.Math.min.name, Cond.methodLink RX2 30 Lib.Math.max.name, Cond.fieldLink RX2 9 "BarrelRaft$Lashings" "first" "[I", Cond.fieldLink RX2 15 "BarrelRaft$Lashings" "second" "[I"]
def wsL_act_r5 : List Cond := [Cond.methodLink RX2 40 yX2_renew, Cond.instanceMethod yX2_renew, Cond.selects RX2 yX2_renew yX2_renew, Cond.code yX2_renew cX2_renew 3 none, Cond.fieldLink RX2 18 "BarrelRaft$Lashings" "strength" "[I", Cond.fieldLink RX2 21 "BarrelRaft$Lashings" "wear" "[I", Cond.methodLink RX2 44 yX2_insert, Cond.instanceMethod yX2_insert, Cond.selects RX2 yX2_insert yX2_insert, Cond.code yX2_insert cX2_insert 6 none, Cond.methodLink RX2 48 yX2_isAfter, Cond.instanceMethod yX2_isAfter, Cond.selects RX2 yX2_isAfter yX2_isAfter, Cond.code yX2_isAfter cX2_isAfter 4 (some .boolean), Cond.methodLink RX2 52 yX2_move, Cond.instanceMethod yX2_move, Cond.selects RX2 yX2_move yX2_move, Cond.code yX2_move cX2_move 3 none, Cond.methodLink RX6 154 yX3_findPieces, Cond.instanceMethod yX3_findPieces, Cond.selects RX3 yX3_findPieces yX3_findPieces, Cond.initialized RX3, Cond.code yX3_findPieces cX3_findPieces 2 none, Cond.fieldLink RX3 12 "BarrelRaft$Raft" "barrels" "LBarrelRaft$Barrels;"]
def wsL_act_r6 : List Cond := [Cond.fieldLink RX3 28 "BarrelRaft$Raft" "lashings" "LBarrelRaft$Lashings;", Cond.fieldLink RX3 59 "BarrelRaft$Lashings" "number" "I", Cond.fieldLink RX3 62 "BarrelRaft$Lashings" "first" "[I", Cond.fieldLink RX3 65 "BarrelRaft$Lashings" "second" "[I", Cond.methodLink RX3 56 yX0_standAlone, Cond.instanceMethod yX0_standAlone, Cond.selects RX0 yX0_standAlone yX0_standAlone, Cond.code yX0_standAlone cX0_standAlone 2 none, Cond.fieldLink RX0 42 "BarrelRaft$Barrels" "piece" "[I", Cond.methodLink RX3 68 yX0_join, Cond.instanceMethod yX0_join, Cond.selects RX0 yX0_join yX0_join, Cond.code yX0_join cX0_join 6 none, Cond.methodLink RX0 66 Lib.Math.min.name, Cond.methodLink RX0 70 Lib.Math.max.name, Cond.methodLink RL 72 yX7_untie, Cond.methodLink RL 79 yX6_cut, Cond.instanceMethod yX6_cut, Cond.selects RX6 yX6_cut yX6_cut, Cond.code yX6_cut cX6_cut 4 (some .int), Cond.methodLink RX6 157 yX2_find, Cond.methodLink RX6 162 yX2_undo, Cond.instanceMethod yX2_undo, Cond.selects RX2 yX2_undo yX2_undo]
def wsL_act_r7 : List Cond := [Cond.code yX2_undo cX2_undo 2 none, Cond.methodLink RX6 166 yX2_sweep, Cond.instanceMethod yX2_sweep, Cond.selects RX2 yX2_sweep yX2_sweep, Cond.code yX2_sweep cX2_sweep 3 none, Cond.methodLink RL 82 yX6_load, Cond.instanceMethod yX6_load, Cond.selects RX6 yX6_load yX6_load, Cond.code yX6_load cX6_load 4 (some .int), Cond.fieldLink RX6 176 "BarrelRaft$Barrels" "goods" "[I", Cond.methodLink RX6 171 yX0_floats, Cond.methodLink RL 85 yX7_tie, Cond.methodLink RL 88 yX6_go, Cond.instanceMethod yX6_go, Cond.selects RX6 yX6_go yX6_go, Cond.code yX6_go cX6_go 4 (some .int), Cond.fieldLink RX6 195 "BarrelRaft$Raft" "castaways" "LBarrelRaft$Castaways;", Cond.fieldLink RX6 212 "BarrelRaft$Castaways" "seat" "[I", Cond.fieldLink RX6 204 "BarrelRaft$Barrels" "people" "[I", Cond.methodLink RX6 209 yX1_has, Cond.instanceMethod yX1_has, Cond.selects RX1 yX1_has yX1_has, Cond.initialized RX1, Cond.code yX1_has cX1_has 2 (some .boolean)]
def wsL_act_r8 : List Cond := [Cond.fieldLink RX1 18 "BarrelRaft$Castaways" "number" "I", Cond.methodLink RL 91 yX7_load, Cond.instanceMethod yX7_load, Cond.selects RX7 yX7_load yX7_load, Cond.code yX7_load cX7_load 7 (some .int), Cond.fieldLink RX7 19 "BarrelRaftLaw$Sim" "barrels" "[[I", Cond.fieldLink RX7 25 "BarrelRaftLaw$Sim" "people" "[[I", Cond.methodLink RL 93 yX6_bail, Cond.instanceMethod yX6_bail, Cond.selects RX6 yX6_bail yX6_bail, Cond.code yX6_bail cX6_bail 3 (some .int), Cond.fieldLink RX6 221 "BarrelRaft$Barrels" "water" "[I", Cond.methodLink RL 102 yX6_setWind, Cond.instanceMethod yX6_setWind, Cond.selects RX6 yX6_setWind yX6_setWind, Cond.code yX6_setWind cX6_setWind 4 (some .int), Cond.fieldLink RX6 12 "BarrelRaft" "waters" "LBarrelRaft$Waters;", Cond.fieldLink RX6 105 "BarrelRaft$Waters" "windDx" "I", Cond.fieldLink RX6 108 "BarrelRaft$Waters" "windDy" "I", Cond.methodLink RX6 50 yX6_isFlow, Cond.static yX6_isFlow, Cond.code yX6_isFlow cX6_isFlow 1 (some .boolean)]
def wsL_act : List Cond := .code yL_act cL_act 10 (some .boolean) :: ((wsL_act_r1 ++ (wsL_act_r2 ++ (wsL_act_r3 ++ (wsL_act_r4 ++ (wsL_act_r5 ++ (wsL_act_r6 ++ (wsL_act_r7 ++ wsL_act_r8))))))) ++ wsX70 ++ wsX60 ++ wsX30 ++ wsX00 ++ wsX20 ++ wsX10 ++ wsX40 ++ (vx_atS RX6 79 "java/lang/IndexOutOfBoundsException" ["java/lang/RuntimeException", "java/lang/Exception"]).filter goodWord ++ (vx_atS RX6 45 "java/lang/IllegalArgumentException" ["java/lang/RuntimeException", "java/lang/Exception"]).filter goodWord ++ (vx_atS RX6 63 "java/lang/IllegalStateException" ["java/lang/RuntimeException", "java/lang/Exception"]).filter goodWord)
def wsL_law0_r1 : List Cond := [Cond.classLink RL 23 RX6, Cond.instantiable RX6 5, Cond.initialized RX6, Cond.fieldLink RL 40 "BarrelRaftLaw$Sim" "barrels" "[[I", Cond.fieldLink RL 51 "BarrelRaftLaw$Sim" "people" "[[I", Cond.classLink RL 113 "[[I", Cond.arrayClass .int, Cond.methodLink RL 76 Lib.Math.min.name, Cond.static Lib.Math.min.name, Cond.initialized "java/lang/Math", Cond.code Lib.Math.min.name Lib.Math.min.code 2 (some .int), Cond.methodLink RL 105 yX6_init, Cond.instanceMethod yX6_init, Cond.code yX6_init cX6_init 1 none, Cond.methodLink RX6 3 objectInit, Cond.instanceMethod objectInit, Cond.code objectInit ⟨#[0xb1]⟩ 1 none, Cond.classLink RX6 9 RX4, Cond.instantiable RX4 7, Cond.initialized RX4, Cond.fieldLink RX6 12 "BarrelRaft" "waters" "LBarrelRaft$Waters;", Cond.classLink RX6 16 RX3, Cond.instantiable RX3 7, Cond.initialized RX3]
def wsL_law0_r2 : List Cond := [Cond.fieldLink RX6 19 "BarrelRaft" "raft" "LBarrelRaft$Raft;", Cond.fieldLink RX6 23 "BarrelRaft" "trial" "LBarrelRaft$Raft;", Cond.classLink RX6 26 RX5, Cond.instantiable RX5 4, Cond.initialized RX5, Cond.fieldLink RX6 29 "BarrelRaft" "ways" "LBarrelRaft$Ways;", Cond.fieldLink RX6 33 "BarrelRaft" "ropes" "I", Cond.methodLink RX6 11 yX4_init, Cond.instanceMethod yX4_init, Cond.code yX4_init cX4_init 1 none, Cond.methodLink RX4 3 objectInit, Cond.fieldLink RX4 9 "BarrelRaft$Waters" "dx" "[I", Cond.fieldLink RX4 15 "BarrelRaft$Waters" "dy" "[I", Cond.fieldLink RX4 18 "BarrelRaft$Waters" "wave" "[I", Cond.fieldLink RX4 21 "BarrelRaft$Waters" "counting" "[I", Cond.methodLink RX4 24 yJ7_fill_53178, Cond.static yJ7_fill_53178, Cond.initialized RJ7, Cond.code yJ7_fill_53178 cJ7_fill_53178 4 none, Cond.instanceMethod yX3_init, Cond.code yX3_init cX3_init 1 none, Cond.methodLink RX3 3 objectInit, Cond.classLink RX3 9 RX0, Cond.instantiable RX0 12]
def wsL_law0_r3 : List Cond := [Cond.initialized RX0, Cond.fieldLink RX3 12 "BarrelRaft$Raft" "barrels" "LBarrelRaft$Barrels;", Cond.classLink RX3 18 RX1, Cond.instantiable RX1 3, Cond.initialized RX1, Cond.fieldLink RX3 21 "BarrelRaft$Raft" "castaways" "LBarrelRaft$Castaways;", Cond.classLink RX3 25 RX2, Cond.instantiable RX2 5, Cond.initialized RX2, Cond.fieldLink RX3 28 "BarrelRaft$Raft" "lashings" "LBarrelRaft$Lashings;", Cond.fieldLink RX3 32 "BarrelRaft$Raft" "pieceLift" "[I", Cond.fieldLink RX3 36 "BarrelRaft$Raft" "pieceLoad" "[I", Cond.instanceMethod yX0_init, Cond.code yX0_init cX0_init 1 none, Cond.methodLink RX0 3 objectInit, Cond.fieldLink RX0 9 "BarrelRaft$Barrels" "column" "[I", Cond.fieldLink RX0 15 "BarrelRaft$Barrels" "row" "[I", Cond.fieldLink RX0 18 "BarrelRaft$Barrels" "lift" "[I", Cond.fieldLink RX0 21 "BarrelRaft$Barrels" "leak" "[I", Cond.fieldLink RX0 24 "BarrelRaft$Barrels" "water" "[I", Cond.fieldLink RX0 27 "BarrelRaft$Barrels" "goods" "[I", Cond.fieldLink RX0 30 "BarrelRaft$Barrels" "people" "[I", Cond.fieldLink RX0 33 "BarrelRaft$Barrels" "state" "[I", Cond.fieldLink RX0 36 "BarrelRaft$Barrels" "x" "[I"]
def wsL_law0_r4 : List Cond := [Cond.fieldLink RX0 39 "BarrelRaft$Barrels" "y" "[I", Cond.fieldLink RX0 42 "BarrelRaft$Barrels" "piece" "[I", Cond.instanceMethod yX1_init, Cond.code yX1_init cX1_init 1 none, Cond.methodLink RX1 3 objectInit, Cond.fieldLink RX1 9 "BarrelRaft$Castaways" "seat" "[I", Cond.fieldLink RX1 15 "BarrelRaft$Castaways" "state" "[I", Cond.instanceMethod yX2_init, Cond.code yX2_init cX2_init 1 none, Cond.methodLink RX2 3 objectInit, Cond.fieldLink RX2 9 "BarrelRaft$Lashings" "first" "[I", Cond.fieldLink RX2 15 "BarrelRaft$Lashings" "second" "[I", Cond.fieldLink RX2 18 "BarrelRaft$Lashings" "strength" "[I", Cond.fieldLink RX2 21 "BarrelRaft$Lashings" "wear" "[I", Cond.instanceMethod yX5_init, Cond.code yX5_init cX5_init 1 none, Cond.methodLink RX5 3 objectInit, Cond.fieldLink RX5 9 "BarrelRaft$Ways" "used" "[I", Cond.fieldLink RX5 15 "BarrelRaft$Ways" "cameBy" "[I", Cond.fieldLink RX5 18 "BarrelRaft$Ways" "reached" "[I", Cond.fieldLink RX5 21 "BarrelRaft$Ways" "best" "[I", Cond.methodLink RL 106 yL_build, Cond.static yL_build, Cond.initialized RL]
def wsL_law0_r5 : List Cond := [Cond.code yL_build cL_build 12 (some (.object "BarrelRaftLaw$Sim")), Cond.classLink RL 9 RX7, Cond.instantiable RX7 9, Cond.initialized RX7, Cond.fieldLink RL 28 "BarrelRaftLaw$Sim" "waters" "[[I", Cond.instanceMethod yX7_init, Cond.code yX7_init cX7_init 1 none, Cond.methodLink RX7 1 objectInit, Cond.fieldLink RX7 7 "BarrelRaftLaw$Sim" "ropes" "I", Cond.classLink RX7 13 "[I", Cond.fieldLink RX7 15 "BarrelRaftLaw$Sim" "waters" "[[I", Cond.fieldLink RX7 19 "BarrelRaftLaw$Sim" "barrels" "[[I", Cond.fieldLink RX7 22 "BarrelRaftLaw$Sim" "ties" "[[I", Cond.fieldLink RX7 25 "BarrelRaftLaw$Sim" "people" "[[I", Cond.methodLink RL 12 yL_cell, Cond.static yL_cell, Cond.code yL_cell cL_cell 2 (some .int), Cond.constant RL 8 (790386105), Cond.methodLink RL 18 yL_below, Cond.static yL_below, Cond.code yL_below cL_below 2 (some .int), Cond.constant RL 7 (2147483647), Cond.methodLink RL 22 yX6_addWater, Cond.instanceMethod yX6_addWater]
def wsL_law0_r6 : List Cond := [Cond.selects RX6 yX6_addWater yX6_addWater, Cond.code yX6_addWater cX6_addWater 8 (some .int), Cond.classLink RX6 41 "java/lang/IllegalArgumentException", Cond.initialized "java/lang/IllegalArgumentException", Cond.classLink RX6 59 "java/lang/IllegalStateException", Cond.initialized "java/lang/IllegalStateException", Cond.fieldLink RX6 56 "BarrelRaft$Waters" "number" "I", Cond.methodLink RX6 37 yX6_isSea, Cond.static yX6_isSea, Cond.code yX6_isSea cX6_isSea 2 (some .boolean), Cond.methodLink RX6 50 yX6_isFlow, Cond.static yX6_isFlow, Cond.code yX6_isFlow cX6_isFlow 1 (some .boolean), Cond.methodLink RX6 64 yX4_cover, Cond.instanceMethod yX4_cover, Cond.selects RX4 yX4_cover yX4_cover, Cond.code yX4_cover cX4_cover 7 none, Cond.fieldLink RX4 34 "BarrelRaft$Waters" "number" "I", Cond.methodLink RX6 68 yX4_append, Cond.instanceMethod yX4_append, Cond.selects RX4 yX4_append yX4_append, Cond.code yX4_append cX4_append 5 (some .int), Cond.methodLink RL 32 yX7_more, Cond.static yX7_more]
def wsL_law0_r7 : List Cond := [Cond.code yX7_more cX7_more 4 (some (.array (.array .int))), Cond.methodLink RL 36 yX6_addBarrel, Cond.instanceMethod yX6_addBarrel, Cond.selects RX6 yX6_addBarrel yX6_addBarrel, Cond.code yX6_addBarrel cX6_addBarrel 5 (some .int), Cond.fieldLink RX6 94 "BarrelRaft$Raft" "barrels" "LBarrelRaft$Barrels;", Cond.fieldLink RX6 118 "BarrelRaft$Barrels" "number" "I", Cond.methodLink RX6 72 yX6_isBelow, Cond.static yX6_isBelow, Cond.code yX6_isBelow cX6_isBelow 2 (some .boolean), Cond.methodLink RX6 115 yX0_liesAt, Cond.instanceMethod yX0_liesAt, Cond.selects RX0 yX0_liesAt yX0_liesAt, Cond.code yX0_liesAt cX0_liesAt 4 (some .boolean), Cond.fieldLink RX0 45 "BarrelRaft$Barrels" "number" "I", Cond.methodLink RX6 121 yX0_append, Cond.instanceMethod yX0_append, Cond.selects RX0 yX0_append yX0_append, Cond.code yX0_append cX0_append 7 (some .int), Cond.methodLink RX0 62 yX0_firstAfloat, Cond.instanceMethod yX0_firstAfloat, Cond.selects RX0 yX0_firstAfloat yX0_firstAfloat, Cond.code yX0_firstAfloat cX0_firstAfloat 2 (some .int), Cond.methodLink RL 43 yL_tie]
def wsL_law0_r8 : List Cond := [Cond.static yL_tie, Cond.code yL_tie cL_tie 10 (some .boolean), Cond.methodLink RL 54 Lib.Math.abs.name, Cond.static Lib.Math.abs.name, Cond.code Lib.Math.abs.name Lib.Math.abs.code 1 (some .int), Cond.fieldLink RL 59 "BarrelRaftLaw$Sim" "ropes" "I", Cond.methodLink RL 63 yX7_tie_, Cond.instanceMethod yX7_tie_, Cond.selects RX7 yX7_tie_ yX7_tie_, Cond.code yX7_tie_ cX7_tie_ 12 none, Cond.methodLink RX7 49 Lib.Math.min.name, Cond.methodLink RX7 55 Lib.Math.max.name, Cond.static Lib.Math.max.name, Cond.code Lib.Math.max.name Lib.Math.max.code 2 (some .int), Cond.methodLink RX7 62 yX7_tie, Cond.instanceMethod yX7_tie, Cond.selects RX7 yX7_tie yX7_tie, Cond.code yX7_tie cX7_tie 7 (some (.array .int)), Cond.methodLink RX7 66 yX7_untie, Cond.instanceMethod yX7_untie, Cond.selects RX7 yX7_untie yX7_untie, Cond.code yX7_untie cX7_untie 7 none, Cond.methodLink RX7 58 yX7_more, Cond.methodLink RL 66 yX6_tie]
def wsL_law0_r9 : List Cond := [Cond.instanceMethod yX6_tie, Cond.selects RX6 yX6_tie yX6_tie, Cond.code yX6_tie cX6_tie 4 (some .int), Cond.classLink RX6 75 "java/lang/IndexOutOfBoundsException", Cond.initialized "java/lang/IndexOutOfBoundsException", Cond.fieldLink RX6 136 "BarrelRaft$Raft" "lashings" "LBarrelRaft$Lashings;", Cond.methodLink RX6 140 Lib.Math.min.name, Cond.methodLink RX6 145 Lib.Math.max.name, Cond.methodLink RX6 124 yX0_has, Cond.instanceMethod yX0_has, Cond.selects RX0 yX0_has yX0_has, Cond.code yX0_has cX0_has 2 (some .boolean), Cond.methodLink RX6 131 yX0_canBeTied, Cond.instanceMethod yX0_canBeTied, Cond.selects RX0 yX0_canBeTied yX0_canBeTied, Cond.code yX0_canBeTied cX0_canBeTied 4 (some .boolean), Cond.methodLink RX0 56 Lib.Math.abs.name, Cond.methodLink RX0 53 yX0_floats, Cond.instanceMethod yX0_floats, Cond.selects RX0 yX0_floats yX0_floats, Cond.code yX0_floats cX0_floats 2 (some .boolean), Cond.methodLink RX0 49 yX0_has, Cond.methodLink RX6 148 yX2_make, Cond.instanceMethod yX2_make]
def wsL_law0_r10 : List Cond := [Cond.selects RX2 yX2_make yX2_make, Cond.code yX2_make cX2_make 5 none, Cond.fieldLink RX2 33 "BarrelRaft$Lashings" "number" "I", Cond.methodLink RX2 37 yX2_find, Cond.instanceMethod yX2_find, Cond.selects RX2 yX2_find yX2_find, Cond.code yX2_find cX2_find 6 (some .int), Cond.methodLink RX2 24 Lib.Math.min.name, Cond.methodLink RX2 30 Lib.Math.max.name, Cond.methodLink RX2 40 yX2_renew, Cond.instanceMethod yX2_renew, Cond.selects RX2 yX2_renew yX2_renew, Cond.code yX2_renew cX2_renew 3 none, Cond.methodLink RX2 44 yX2_insert, Cond.instanceMethod yX2_insert, Cond.selects RX2 yX2_insert yX2_insert, Cond.code yX2_insert cX2_insert 6 none, Cond.methodLink RX2 48 yX2_isAfter, Cond.instanceMethod yX2_isAfter, Cond.selects RX2 yX2_isAfter yX2_isAfter, Cond.code yX2_isAfter cX2_isAfter 4 (some .boolean), Cond.methodLink RX2 52 yX2_move, Cond.instanceMethod yX2_move, Cond.selects RX2 yX2_move yX2_move]
def wsL_law0_r11 : List Cond := [Cond.code yX2_move cX2_move 3 none, Cond.methodLink RX6 154 yX3_findPieces, Cond.instanceMethod yX3_findPieces, Cond.selects RX3 yX3_findPieces yX3_findPieces, Cond.code yX3_findPieces cX3_findPieces 2 none, Cond.fieldLink RX3 59 "BarrelRaft$Lashings" "number" "I", Cond.fieldLink RX3 62 "BarrelRaft$Lashings" "first" "[I", Cond.fieldLink RX3 65 "BarrelRaft$Lashings" "second" "[I", Cond.methodLink RX3 56 yX0_standAlone, Cond.instanceMethod yX0_standAlone, Cond.selects RX0 yX0_standAlone yX0_standAlone, Cond.code yX0_standAlone cX0_standAlone 2 none, Cond.methodLink RX3 68 yX0_join, Cond.instanceMethod yX0_join, Cond.selects RX0 yX0_join yX0_join, Cond.code yX0_join cX0_join 6 none, Cond.methodLink RX0 66 Lib.Math.min.name, Cond.methodLink RX0 70 Lib.Math.max.name, Cond.methodLink RL 47 yX6_addCastaway, Cond.instanceMethod yX6_addCastaway, Cond.selects RX6 yX6_addCastaway yX6_addCastaway, Cond.code yX6_addCastaway cX6_addCastaway 2 (some .int), Cond.fieldLink RX6 195 "BarrelRaft$Raft" "castaways" "LBarrelRaft$Castaways;", Cond.fieldLink RX6 199 "BarrelRaft$Castaways" "number" "I"]
def wsL_law0_r12 : List Cond := [Cond.fieldLink RX6 204 "BarrelRaft$Barrels" "people" "[I", Cond.methodLink RX6 171 yX0_floats, Cond.methodLink RX6 207 yX1_append, Cond.instanceMethod yX1_append, Cond.selects RX1 yX1_append yX1_append, Cond.code yX1_append cX1_append 3 (some .int), Cond.fieldLink RX1 18 "BarrelRaft$Castaways" "number" "I", Cond.methodLink RL 110 yL_act, Cond.static yL_act, Cond.code yL_act cL_act 10 (some .boolean), Cond.fieldLink RL 69 "BarrelRaftLaw$Sim" "ties" "[[I", Cond.fieldLink RL 96 "BarrelRaftLaw$Sim" "windX" "I", Cond.fieldLink RL 99 "BarrelRaftLaw$Sim" "windY" "I", Cond.methodLink RL 72 yX7_untie, Cond.methodLink RL 79 yX6_cut, Cond.instanceMethod yX6_cut, Cond.selects RX6 yX6_cut yX6_cut, Cond.code yX6_cut cX6_cut 4 (some .int), Cond.methodLink RX6 157 yX2_find, Cond.methodLink RX6 162 yX2_undo, Cond.instanceMethod yX2_undo, Cond.selects RX2 yX2_undo yX2_undo, Cond.code yX2_undo cX2_undo 2 none, Cond.methodLink RX6 166 yX2_sweep]
def wsL_law0_r13 : List Cond := [Cond.instanceMethod yX2_sweep, Cond.selects RX2 yX2_sweep yX2_sweep, Cond.code yX2_sweep cX2_sweep 3 none, Cond.methodLink RL 82 yX6_load, Cond.instanceMethod yX6_load, Cond.selects RX6 yX6_load yX6_load, Cond.code yX6_load cX6_load 4 (some .int), Cond.fieldLink RX6 176 "BarrelRaft$Barrels" "goods" "[I", Cond.methodLink RL 85 yX7_tie, Cond.methodLink RL 88 yX6_go, Cond.instanceMethod yX6_go, Cond.selects RX6 yX6_go yX6_go, Cond.code yX6_go cX6_go 4 (some .int), Cond.fieldLink RX6 212 "BarrelRaft$Castaways" "seat" "[I", Cond.methodLink RX6 209 yX1_has, Cond.instanceMethod yX1_has, Cond.selects RX1 yX1_has yX1_has, Cond.code yX1_has cX1_has 2 (some .boolean), Cond.methodLink RL 91 yX7_load, Cond.instanceMethod yX7_load, Cond.selects RX7 yX7_load yX7_load, Cond.code yX7_load cX7_load 7 (some .int), Cond.methodLink RL 93 yX6_bail, Cond.instanceMethod yX6_bail]
def wsL_law0_r14 : List Cond := [Cond.selects RX6 yX6_bail yX6_bail, Cond.code yX6_bail cX6_bail 3 (some .int), Cond.fieldLink RX6 221 "BarrelRaft$Barrels" "water" "[I", Cond.methodLink RL 102 yX6_setWind, Cond.instanceMethod yX6_setWind, Cond.selects RX6 yX6_setWind yX6_setWind, Cond.code yX6_setWind cX6_setWind 4 (some .int), Cond.fieldLink RX6 105 "BarrelRaft$Waters" "windDx" "I", Cond.fieldLink RX6 108 "BarrelRaft$Waters" "windDy" "I", Cond.methodLink RL 114 yX6_barrel, Cond.instanceMethod yX6_barrel, Cond.selects RX6 yX6_barrel yX6_barrel, Cond.code yX6_barrel cX6_barrel 3 (some .int), Cond.methodLink RX6 182 yX6_barrelFact, Cond.instanceMethod yX6_barrelFact, Cond.selects RX6 yX6_barrelFact yX6_barrelFact, Cond.code yX6_barrelFact cX6_barrelFact 4 (some .int), Cond.fieldLink RX6 291 "BarrelRaft$Barrels" "column" "[I", Cond.fieldLink RX6 294 "BarrelRaft$Barrels" "row" "[I", Cond.fieldLink RX6 297 "BarrelRaft$Barrels" "lift" "[I", Cond.fieldLink RX6 300 "BarrelRaft$Barrels" "leak" "[I", Cond.fieldLink RX6 303 "BarrelRaft$Barrels" "state" "[I", Cond.fieldLink RX6 250 "BarrelRaft$Barrels" "piece" "[I", Cond.fieldLink RX6 306 "BarrelRaft$Barrels" "x" "[I"]
def wsL_law0_r15 : List Cond := [Cond.fieldLink RX6 309 "BarrelRaft$Barrels" "y" "[I", Cond.methodLink RX6 312 yX2_countAt, Cond.instanceMethod yX2_countAt, Cond.selects RX2 yX2_countAt yX2_countAt, Cond.code yX2_countAt cX2_countAt 4 (some .int), Cond.methodLink RX6 281 yX0_liftNow, Cond.instanceMethod yX0_liftNow, Cond.selects RX0 yX0_liftNow yX0_liftNow, Cond.code yX0_liftNow cX0_liftNow 2 (some .int), Cond.methodLink RX6 284 yX0_loadOf, Cond.instanceMethod yX0_loadOf, Cond.selects RX0 yX0_loadOf yX0_loadOf, Cond.code yX0_loadOf cX0_loadOf 2 (some .int), Cond.methodLink RL 117 yX6_lashing, Cond.instanceMethod yX6_lashing, Cond.selects RX6 yX6_lashing yX6_lashing, Cond.code yX6_lashing cX6_lashing 5 (some .int), Cond.fieldLink RX6 185 "BarrelRaft$Lashings" "strength" "[I", Cond.fieldLink RX6 188 "BarrelRaft$Lashings" "wear" "[I", Cond.methodLink RX6 191 yX3_stress, Cond.instanceMethod yX3_stress, Cond.selects RX3 yX3_stress yX3_stress, Cond.code yX3_stress cX3_stress 6 (some .int), Cond.fieldLink RX3 72 "BarrelRaft$Barrels" "x" "[I"]
def wsL_law0_r16 : List Cond := [Cond.fieldLink RX3 75 "BarrelRaft$Barrels" "y" "[I", Cond.methodLink RX3 91 Lib.Math.abs.name, Cond.methodLink RX3 78 yX4_at, Cond.instanceMethod yX4_at, Cond.selects RX4 yX4_at yX4_at, Cond.code yX4_at cX4_at 3 (some .int), Cond.methodLink RX3 84 yX4_waveOf, Cond.instanceMethod yX4_waveOf, Cond.selects RX4 yX4_waveOf yX4_waveOf, Cond.code yX4_waveOf cX4_waveOf 2 (some .int), Cond.methodLink RX4 38 yX4_has, Cond.instanceMethod yX4_has, Cond.selects RX4 yX4_has yX4_has, Cond.code yX4_has cX4_has 2 (some .boolean), Cond.methodLink RX3 88 yX0_loadOf, Cond.methodLink RL 120 yX6_firm, Cond.instanceMethod yX6_firm, Cond.selects RX6 yX6_firm yX6_firm, Cond.code yX6_firm cX6_firm 3 (some .int), Cond.methodLink RX6 243 yX5_countApart, Cond.instanceMethod yX5_countApart, Cond.selects RX5 yX5_countApart yX5_countApart, Cond.code yX5_countApart cX5_countApart 5 (some .int), Cond.fieldLink RX5 30 "BarrelRaft$Lashings" "number" "I"]
def wsL_law0_r17 : List Cond := [Cond.methodLink RX5 24 yJ7_fill_53178, Cond.methodLink RX5 36 yX5_findWay, Cond.instanceMethod yX5_findWay, Cond.selects RX5 yX5_findWay yX5_findWay, Cond.code yX5_findWay cX5_findWay 6 (some .boolean), Cond.methodLink RX5 44 yX5_reachFrom, Cond.instanceMethod yX5_reachFrom, Cond.selects RX5 yX5_reachFrom yX5_reachFrom, Cond.code yX5_reachFrom cX5_reachFrom 8 (some .int), Cond.methodLink RX5 48 yX2_leadsTo, Cond.instanceMethod yX2_leadsTo, Cond.selects RX2 yX2_leadsTo yX2_leadsTo, Cond.code yX2_leadsTo cX2_leadsTo 3 (some .int), Cond.methodLink RX5 52 yX5_direction, Cond.instanceMethod yX5_direction, Cond.selects RX5 yX5_direction yX5_direction, Cond.code yX5_direction cX5_direction 4 (some .int), Cond.fieldLink RX5 56 "BarrelRaft$Lashings" "first" "[I", Cond.methodLink RX5 40 yX5_useWay, Cond.instanceMethod yX5_useWay, Cond.selects RX5 yX5_useWay yX5_useWay, Cond.code yX5_useWay cX5_useWay 8 none, Cond.methodLink RL 123 yX6_hold, Cond.instanceMethod yX6_hold]
def wsL_law0_r18 : List Cond := [Cond.selects RX6 yX6_hold yX6_hold, Cond.code yX6_hold cX6_hold 3 (some .int), Cond.methodLink RX6 247 yX5_strongest, Cond.instanceMethod yX5_strongest, Cond.selects RX5 yX5_strongest yX5_strongest, Cond.code yX5_strongest cX5_strongest 6 (some .int), Cond.methodLink RX5 59 yX5_strengthen, Cond.instanceMethod yX5_strengthen, Cond.selects RX5 yX5_strengthen yX5_strengthen, Cond.code yX5_strengthen cX5_strengthen 7 (some .boolean), Cond.fieldLink RX5 63 "BarrelRaft$Lashings" "second" "[I", Cond.methodLink RX5 70 Lib.Math.max.name, Cond.methodLink RX5 75 Lib.Math.min.name, Cond.methodLink RX5 66 yX2_left, Cond.instanceMethod yX2_left, Cond.selects RX2 yX2_left yX2_left, Cond.code yX2_left cX2_left 2 (some .int), Cond.methodLink RL 126 yX6_foresee, Cond.instanceMethod yX6_foresee, Cond.selects RX6 yX6_foresee yX6_foresee, Cond.code yX6_foresee cX6_foresee 3 (some .int), Cond.fieldLink RX6 271 "BarrelRaft$Lashings" "number" "I", Cond.methodLink RX6 259 yX3_copyFrom, Cond.instanceMethod yX3_copyFrom]
def wsL_law0_r19 : List Cond := [Cond.selects RX3 yX3_copyFrom yX3_copyFrom, Cond.code yX3_copyFrom cX3_copyFrom 2 none, Cond.fieldLink RX3 49 "BarrelRaft$Raft" "hour" "I", Cond.fieldLink RX3 53 "BarrelRaft$Raft" "broken" "I", Cond.methodLink RX3 39 yX0_copyFrom, Cond.instanceMethod yX0_copyFrom, Cond.selects RX0 yX0_copyFrom yX0_copyFrom, Cond.code yX0_copyFrom cX0_copyFrom 2 none, Cond.methodLink RX0 73 arraycopyName, Cond.native arraycopyName, Cond.static arraycopyName, Cond.initialized "java/lang/System", Cond.methodLink RX3 43 yX1_copyFrom, Cond.instanceMethod yX1_copyFrom, Cond.selects RX1 yX1_copyFrom yX1_copyFrom, Cond.code yX1_copyFrom cX1_copyFrom 2 none, Cond.methodLink RX1 29 arraycopyName, Cond.methodLink RX3 46 yX2_copyFrom, Cond.instanceMethod yX2_copyFrom, Cond.selects RX2 yX2_copyFrom yX2_copyFrom, Cond.code yX2_copyFrom cX2_copyFrom 2 none, Cond.methodLink RX2 55 arraycopyName, Cond.methodLink RX6 234 yX3_passHours, Cond.instanceMethod yX3_passHours]
def wsL_law0_r20 : List Cond := [Cond.selects RX3 yX3_passHours yX3_passHours, Cond.code yX3_passHours cX3_passHours 4 none, Cond.methodLink RX3 96 yX0_firstAfloat, Cond.methodLink RX3 100 yX0_takeInWater, Cond.instanceMethod yX0_takeInWater, Cond.selects RX0 yX0_takeInWater yX0_takeInWater, Cond.code yX0_takeInWater cX0_takeInWater 2 none, Cond.methodLink RX3 103 yX3_loseOverloaded, Cond.instanceMethod yX3_loseOverloaded, Cond.selects RX3 yX3_loseOverloaded yX3_loseOverloaded, Cond.code yX3_loseOverloaded cX3_loseOverloaded 4 none, Cond.fieldLink RX3 119 "BarrelRaft$Barrels" "number" "I", Cond.fieldLink RX3 120 "BarrelRaft$Barrels" "piece" "[I", Cond.methodLink RX3 116 yX3_weighPieces, Cond.instanceMethod yX3_weighPieces, Cond.selects RX3 yX3_weighPieces yX3_weighPieces, Cond.code yX3_weighPieces cX3_weighPieces 3 none, Cond.methodLink RX3 178 yX0_liftNow, Cond.methodLink RX3 123 yX0_end, Cond.instanceMethod yX0_end, Cond.selects RX0 yX0_end yX0_end, Cond.code yX0_end cX0_end 3 none, Cond.methodLink RX3 126 yX3_leaveEnded, Cond.instanceMethod yX3_leaveEnded]
def wsL_law0_r21 : List Cond := [Cond.selects RX3 yX3_leaveEnded yX3_leaveEnded, Cond.code yX3_leaveEnded cX3_leaveEnded 2 none, Cond.methodLink RX3 175 yX1_shareFate, Cond.instanceMethod yX1_shareFate, Cond.selects RX1 yX1_shareFate yX1_shareFate, Cond.code yX1_shareFate cX1_shareFate 4 none, Cond.fieldLink RX1 28 "BarrelRaft$Barrels" "state" "[I", Cond.methodLink RX1 22 yX0_has, Cond.methodLink RX3 171 yX0_floats, Cond.methodLink RX3 136 yX2_undo, Cond.methodLink RX3 143 yX2_sweep, Cond.methodLink RX3 106 yX3_wearLashings, Cond.instanceMethod yX3_wearLashings, Cond.selects RX3 yX3_wearLashings yX3_wearLashings, Cond.code yX3_wearLashings cX3_wearLashings 5 none, Cond.fieldLink RX3 140 "BarrelRaft$Lashings" "wear" "[I", Cond.methodLink RX3 129 yX3_stress, Cond.methodLink RX3 133 yX2_left, Cond.methodLink RX3 146 yX3_findPieces, Cond.methodLink RX3 110 yX3_drift, Cond.instanceMethod yX3_drift, Cond.selects RX3 yX3_drift yX3_drift, Cond.code yX3_drift cX3_drift 4 none, Cond.methodLink RX3 149 yX3_driftPiece]
def wsL_law0_r22 : List Cond := [Cond.instanceMethod yX3_driftPiece, Cond.selects RX3 yX3_driftPiece yX3_driftPiece, Cond.code yX3_driftPiece cX3_driftPiece 6 none, Cond.fieldLink RX3 159 "BarrelRaft$Waters" "windDx" "I", Cond.fieldLink RX3 162 "BarrelRaft$Waters" "windDy" "I", Cond.methodLink RX3 165 Lib.Math.min.name, Cond.methodLink RX3 168 Lib.Math.max.name, Cond.methodLink RX3 153 yX4_dxOf, Cond.instanceMethod yX4_dxOf, Cond.selects RX4 yX4_dxOf yX4_dxOf, Cond.code yX4_dxOf cX4_dxOf 2 (some .int), Cond.methodLink RX3 156 yX4_dyOf, Cond.instanceMethod yX4_dyOf, Cond.selects RX4 yX4_dyOf yX4_dyOf, Cond.code yX4_dyOf cX4_dyOf 2 (some .int), Cond.methodLink RX3 113 yX3_saveAshore, Cond.instanceMethod yX3_saveAshore, Cond.selects RX3 yX3_saveAshore yX3_saveAshore, Cond.code yX3_saveAshore cX3_saveAshore 3 none, Cond.methodLink RX6 263 yX0_countOf, Cond.instanceMethod yX0_countOf, Cond.selects RX0 yX0_countOf yX0_countOf, Cond.code yX0_countOf cX0_countOf 4 (some .int), Cond.methodLink RX6 266 yX1_countOf]
def wsL_law0_r23 : List Cond := [Cond.instanceMethod yX1_countOf, Cond.selects RX1 yX1_countOf yX1_countOf, Cond.code yX1_countOf cX1_countOf 4 (some .int), Cond.methodLink RX6 267 yX0_pieces, Cond.instanceMethod yX0_pieces, Cond.selects RX0 yX0_pieces yX0_pieces, Cond.code yX0_pieces cX0_pieces 3 (some .int), Cond.methodLink RL 129 yX6_castaway, Cond.instanceMethod yX6_castaway, Cond.selects RX6 yX6_castaway yX6_castaway, Cond.code yX6_castaway cX6_castaway 3 (some .int), Cond.methodLink RX6 226 yX6_castawayFact, Cond.instanceMethod yX6_castawayFact, Cond.selects RX6 yX6_castawayFact yX6_castawayFact, Cond.code yX6_castawayFact cX6_castawayFact 3 (some .int), Cond.fieldLink RX6 315 "BarrelRaft$Castaways" "state" "[I", Cond.methodLink RL 132 yX6_count, Cond.instanceMethod yX6_count, Cond.selects RX6 yX6_count yX6_count, Cond.code yX6_count cX6_count 2 (some .int), Cond.methodLink RX6 240 yX6_countFact, Cond.instanceMethod yX6_countFact, Cond.selects RX6 yX6_countFact yX6_countFact, Cond.code yX6_countFact cX6_countFact 2 (some .int)]
def wsL_law0_r24 : List Cond := [Cond.fieldLink RX6 316 "BarrelRaft$Raft" "hour" "I", Cond.fieldLink RX6 231 "BarrelRaft$Raft" "broken" "I", Cond.methodLink RX6 319 yX0_goodsSaved, Cond.instanceMethod yX0_goodsSaved, Cond.selects RX0 yX0_goodsSaved yX0_goodsSaved, Cond.code yX0_goodsSaved cX0_goodsSaved 3 (some .int), Cond.methodLink RL 135 yX6_pass, Cond.instanceMethod yX6_pass, Cond.selects RX6 yX6_pass yX6_pass, Cond.code yX6_pass cX6_pass 3 (some .int), Cond.methodLink RL 138 yX7_pass, Cond.instanceMethod yX7_pass, Cond.selects RX7 yX7_pass yX7_pass, Cond.code yX7_pass cX7_pass 10 (some .int), Cond.methodLink RX7 95 Lib.Math.abs.name, Cond.fieldLink RX7 39 "BarrelRaftLaw$Sim" "windX" "I", Cond.fieldLink RX7 42 "BarrelRaftLaw$Sim" "windY" "I", Cond.fieldLink RX7 33 "BarrelRaftLaw$Sim" "hour" "I", Cond.fieldLink RX7 36 "BarrelRaftLaw$Sim" "broken" "I", Cond.methodLink RX7 81 yX7_name, Cond.instanceMethod yX7_name, Cond.selects RX7 yX7_name yX7_name, Cond.code yX7_name cX7_name 4 (some .int), Cond.methodLink RX7 70 yX7_piece]
def wsL_law0_r25 : List Cond := [Cond.instanceMethod yX7_piece, Cond.selects RX7 yX7_piece yX7_piece, Cond.code yX7_piece cX7_piece 9 (some (.array .boolean)), Cond.arrayClass .boolean, Cond.methodLink RX7 84 yX7_sum, Cond.instanceMethod yX7_sum, Cond.selects RX7 yX7_sum yX7_sum, Cond.code yX7_sum cX7_sum 9 (some .int), Cond.methodLink RX7 74 yX7_lifts, Cond.instanceMethod yX7_lifts, Cond.selects RX7 yX7_lifts yX7_lifts, Cond.code yX7_lifts cX7_lifts 2 (some .int), Cond.methodLink RX7 78 yX7_load, Cond.methodLink RX7 88 yX7_end, Cond.instanceMethod yX7_end, Cond.selects RX7 yX7_end yX7_end, Cond.code yX7_end cX7_end 8 none, Cond.methodLink RX7 92 yX7_sea, Cond.instanceMethod yX7_sea, Cond.selects RX7 yX7_sea yX7_sea, Cond.code yX7_sea cX7_sea 6 (some (.array .int)), Cond.methodLink RL 141 yX6_piece, Cond.instanceMethod yX6_piece, Cond.selects RX6 yX6_piece yX6_piece]
def wsL_law0_r26 : List Cond := [Cond.code yX6_piece cX6_piece 4 (some .int), Cond.methodLink RX6 253 yX6_singleLashings, Cond.instanceMethod yX6_singleLashings, Cond.selects RX6 yX6_singleLashings yX6_singleLashings, Cond.code yX6_singleLashings cX6_singleLashings 6 (some .int), Cond.fieldLink RX6 275 "BarrelRaft$Lashings" "first" "[I", Cond.fieldLink RX6 278 "BarrelRaft$Lashings" "second" "[I", Cond.methodLink RX6 256 yX6_pieceSum, Cond.instanceMethod yX6_pieceSum, Cond.selects RX6 yX6_pieceSum yX6_pieceSum, Cond.code yX6_pieceSum cX6_pieceSum 6 (some .int)]
def wsL_law0 : List Cond := (wsL_law0_r1 ++ (wsL_law0_r2 ++ (wsL_law0_r3 ++ (wsL_law0_r4 ++ (wsL_law0_r5 ++ (wsL_law0_r6 ++ (wsL_law0_r7 ++ (wsL_law0_r8 ++ (wsL_law0_r9 ++ (wsL_law0_r10 ++ (wsL_law0_r11 ++ (wsL_law0_r12 ++ (wsL_law0_r13 ++ (wsL_law0_r14 ++ (wsL_law0_r15 ++ (wsL_law0_r16 ++ (wsL_law0_r17 ++ (wsL_law0_r18 ++ (wsL_law0_r19 ++ (wsL_law0_r20 ++ (wsL_law0_r21 ++ (wsL_law0_r22 ++ (wsL_law0_r23 ++ (wsL_law0_r24 ++ (wsL_law0_r25 ++ wsL_law0_r26))))))))))))))))))))))))) ++ wsX60 ++ wsX70 ++ wsX40 ++ wsX30 ++ wsX50 ++ wsX00 ++ wsX10 ++ wsX20 ++ ([] : List Cond)
def wsL_law : List Cond := wsL_law0 ++ (vx_atS RX6 45 "java/lang/IllegalArgumentException" ["java/lang/RuntimeException", "java/lang/Exception"]).filter goodWord ++ (vx_atS RX6 63 "java/lang/IllegalStateException" ["java/lang/RuntimeException", "java/lang/Exception"]).filter goodWord ++ (vx_atS RX6 79 "java/lang/IndexOutOfBoundsException" ["java/lang/RuntimeException", "java/lang/Exception"]).filter goodWord
theorem inlX0 : ∀ w ∈ wsX00, w ∈ wsL_law := fun _ h => List.mem_append_left _ (List.mem_append_left _ (List.mem_append_left _ (List.mem_append_left _ (List.mem_append_left _ (List.mem_append_left _ (List.mem_append_right _ h))))))
theorem inlX1 : ∀ w ∈ wsX10, w ∈ wsL_law := fun _ h => List.mem_append_left _ (List.mem_append_left _ (List.mem_append_left _ (List.mem_append_left _ (List.mem_append_left _ (List.mem_append_right _ h)))))
theorem inlX2 : ∀ w ∈ wsX20, w ∈ wsL_law := fun _ h => List.mem_append_left _ (List.mem_append_left _ (List.mem_append_left _ (List.mem_append_left _ (List.mem_append_right _ h))))
theorem inlX3 : ∀ w ∈ wsX30, w ∈ wsL_law := fun _ h => List.mem_append_left _ (List.mem_append_left _ (List.mem_append_left _ (List.mem_append_left _ (List.mem_append_left _ (List.mem_append_left _ (List.mem_append_left _ (List.mem_append_left _ (List.mem_append_right _ h))))))))
theorem inlX4 : ∀ w ∈ wsX40, w ∈ wsL_law := fun _ h => List.mem_append_left _ (List.mem_append_left _ (List.mem_append_left _ (List.mem_append_left _ (List.mem_append_left _ (List.mem_append_left _ (List.mem_append_left _ (List.mem_append_left _ (List.mem_append_left _ (List.mem_append_right _ h)))))))))
theorem inlX5 : ∀ w ∈ wsX50, w ∈ wsL_law := fun _ h => List.mem_append_left _ (List.mem_append_left _ (List.mem_append_left _ (List.mem_append_left _ (List.mem_append_left _ (List.mem_append_left _ (List.mem_append_left _ (List.mem_append_right _ h)))))))
theorem inlX6 : ∀ w ∈ wsX60, w ∈ wsL_law := fun _ h => List.mem_append_left _ (List.mem_append_left _ (List.mem_append_left _ (List.mem_append_left _ (List.mem_append_left _ (List.mem_append_left _ (List.mem_append_left _ (List.mem_append_left _ (List.mem_append_left _ (List.mem_append_left _ (List.mem_append_left _ (List.mem_append_right _ h)))))))))))
theorem inlX7 : ∀ w ∈ wsX70, w ∈ wsL_law := fun _ h => List.mem_append_left _ (List.mem_append_left _ (List.mem_append_left _ (List.mem_append_left _ (List.mem_append_left _ (List.mem_append_left _ (List.mem_append_left _ (List.mem_append_left _ (List.mem_append_left _ (List.mem_append_left _ (List.mem_append_right _ h))))))))))
theorem inJx145de : ∀ w ∈ wsJx145de0, w ∈ lw_tbl := by decide +kernel
