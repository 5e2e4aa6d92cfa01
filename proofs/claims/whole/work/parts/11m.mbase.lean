/-! arrays of rows -/
abbrev aR (c : Nat → ClassId) (a n : Nat) (f : Nat → Option Nat) : Nat × va_E := (a, .inl (c 3, n, .inr (.inr (.inr (.inr f)))))
section VVRows2
variable {g : CtxT} {D : va_G} {c : Nat → ClassId} {cc : ByteArray} {own : String} {Ts : List Cond} {nL cells slots pc : Nat} {rm : Room} {ws : va_W} {lv : List (Nat × Value)} {st : List Value}
theorem vv_anewA (C : CX g D c cc own Ts nL rm) {n : Int32} {N index : Nat} (hw : Cond.classLink own index "[I" ∈ Ts) (hn : ¬ n < 0) (hN : n.toNatClampNeg = N) (hb8 : n.toNatClampNeg * 4 ≤ 536870912) (hcs : cells + 1 ≤ rm.cells ∧ slots + N ≤ rm.slots) (hd : decode cc pc = .ok (.anewarray index, 3)) (pc' cells' slots' : Nat) (hp : pc + 3 = pc') (he : cells + 1 = cells' ∧ slots + N = slots')
    (kk : ∀ q : Nat, VV g D nL cells' slots' (ws ++ [aR c q N (fun _ => none)]) lv pc' (.ref q :: st)) : VV g D nL cells slots ws lv pc (.int n :: st) := by
  obtain ⟨rfl, rfl⟩ := he
  obtain ⟨p, l, e, R, s, m, args, below, meth, c0, A, H0, Q⟩ := g
  obtain ⟨hx, hb, hml, hown, hts, hK, hA, hlk, rfl, hNW⟩ := C
  subst hp
  subst hN
  intro H locs ls hP hD hS hl
  refine W.anewA (t := .int) hx hb hown (hts _ hw) (NW.over hNW) rfl hd rfl hn hb8 hcs.1 hcs.2 fun cA kA comp f1 f2 f3 f4 => ?_
  have e3 : cA = c 3 := Option.some.inj (f1.symm.trans (hK.2 3 (c 3, .array .int) rfl).2)
  subst e3
  generalize hH1 : H.push ({ cls := c 3, slots := Array.replicate n.toNatClampNeg .null, vm := .none } : Cell) = H1
  have z1 : H1.size = H.size + 1 := by rw [← hH1, Array.size_push]
  have e1 : H1[H.size]? = some (arrV (c 3) n.toNatClampNeg (fun _ => .null)) := by rw [← hH1, Array.getElem?_push_size, ← arrV_new]
  have o1 : ∀ q : Nat, q < H.size → H1[q]? = H[q]? := fun q hq => by rw [← hH1, Array.getElem?_push, if_neg (Nat.ne_of_lt hq)]
  have hk : ∀ (k : Nat) (x : Nat × va_E), ws[k]? = some x → H1[x.1]? = H[x.1]? := fun k x hx => o1 x.1 ((hP k x hx).lt)
  refine kk H.size H1 locs ls ((hP.kept hk).app (fun k x hx => ?_)) (hD.push hP rfl (hA _ hS.1)) ⟨Nat.le_trans hS.1 (by omega), fun x h1 h2 => (o1 x (Nat.lt_of_lt_of_le h1 hS.1)).trans (hS.2.1 x h1 h2), hS.2.2⟩ hl
  have hz : k < 1 := (List.getElem?_eq_some_iff.mp hx).1
  rw [show k = 0 by omega] at hx
  cases hx
  exact e1
theorem vv_aastA (C : CX g D c cc own Ts nL rm) {a q0 qv n n1 v : Nat} {f : Nat → Option Nat} {f1 : Nat → Int32} {i : Int32} (ws' : va_W) (ha : ws[q0]? = some (aR c a n f)) (hv : ws[qv]? = some (aI c v n1 f1)) (hin : vp_in i n) (hws : ws.set q0 (aR c a n (va_up f i.toNatClampNeg (some v))) = ws') (hd : decode cc pc = .ok (.aastore, 1)) (pc' : Nat) (hp : pc + 1 = pc')
    (kk : VV g D nL cells slots ws' lv pc' st) : VV g D nL cells slots ws lv pc (.ref v :: .int i :: .ref a :: st) := by
  subst hws
  obtain ⟨p, l, e, R, s, m, args, below, meth, c0, A, H0, Q⟩ := g
  obtain ⟨hx, hb, hml, hown, hts, hK, hA, hlk, rfl, hNW⟩ := C
  subst hp
  intro H locs ls hP hD hS hl
  have hlt : i.toNatClampNeg < n := Nat.not_le.mp fun q => hin (Or.inr q)
  have h0 : ¬ i < 0 := fun q => hin (Or.inl q)
  obtain ⟨k3, k1, k2⟩ := NW.rows hNW
  obtain ⟨-, k0, j1, -⟩ := (hK.2 0 (c 0, .int) rfl).1 0 (fun _ => .null)
  refine W.aast hx hb (hP q0 _ ha) (fun q h => by cases h) (fun h => by cases h) k1 k2 rfl j1 ⟨h0, by show _ < (arrV _ _ _).slots.size; rw [arrV_size]; exact hlt⟩ (hP qv _ hv) (fun q h => by cases h) j1 (va_asg _ _) rfl rfl hd fun H1 e z oq => ?_
  refine kk H1 _ ls (hP.set hD ha ?_ oq) (hD.set ha) (hS.put z oq (hD.2 q0 _ ha)) hl
  show H1[a]? = some (vp_cell _ _)
  rw [e]
  rw [vp_cell_q, vp_cell_q, arrV_store]
  congr 2
  funext q
  by_cases hq : q = i.toNatClampNeg
  · subst hq
    simp [updV, va_up, va_rf]
  · simp [updV, va_up, hq]
theorem vv_aaldA (C : CX g D c cc own Ts nL rm) {a q0 n v : Nat} {f : Nat → Option Nat} {i : Int32} (ha : ws[q0]? = some (aR c a n f)) (hin : vp_in i n) (hf : f i.toNatClampNeg = some v) (hd : decode cc pc = .ok (.aaload, 1)) (pc' : Nat) (hp : pc + 1 = pc')
    (kk : VV g D nL cells slots ws lv pc' (.ref v :: st)) : VV g D nL cells slots ws lv pc (.int i :: .ref a :: st) := by
  obtain ⟨p, l, e, R, s, m, args, below, meth, c0, A, H0, Q⟩ := g
  obtain ⟨hx, hb, hml, hown, hts, hK, hA, hlk, rfl, hNW⟩ := C
  subst hp
  intro H locs ls hP hD hS hl
  have hlt : i.toNatClampNeg < n := Nat.not_le.mp fun q => hin (Or.inr q)
  exact W.aald (v := .ref v) (ty := .array .int) hx hb (hP q0 _ ha) ((hK.2 3 (c 3, .array .int) rfl).1 n (fun j => va_rf (f j))) rfl (fun q => by cases q) (by show ¬ (i < 0 ∨ (arrV _ _ _).slots.size ≤ _); rw [arrV_size]; exact hin) (by show (arrV _ _ _).slots[_]? = _; rw [arrV_read _ _ hlt, hf]; rfl) rfl rfl hd (kk H locs ls hP hD hS hl)
theorem vv_clone (C : CX g D c cc own Ts nL rm) {a q0 n index : Nat} {f : Nat → Int32} (h1 : Cond.methodLink own index ⟨"[I", "clone", "()Ljava/lang/Object;"⟩ ∈ Ts) (h2 : Cond.sameMethod "[I" "java/lang/Object" "clone" "()Ljava/lang/Object;" ∈ Ts) (h3 : Cond.native ⟨"java/lang/Object", "clone", "()Ljava/lang/Object;"⟩ ∈ Ts) (h4 : Cond.instanceMethod ⟨"java/lang/Object", "clone", "()Ljava/lang/Object;"⟩ ∈ Ts) (h5 : Cond.selects "[I" ⟨"[I", "clone", "()Ljava/lang/Object;"⟩ ⟨"java/lang/Object", "clone", "()Ljava/lang/Object;"⟩ ∈ Ts)
    (ha : ws[q0]? = some (aI c a n f)) (hr : 1 ≤ rm.frames ∧ (st.map fun v => v.category).sum + 14 ≤ rm.locals) (hcs : cells + 1 ≤ rm.cells ∧ slots + n ≤ rm.slots) (hd : decode cc pc = .ok (.invokevirtual index, 3)) (pc' cells' slots' : Nat) (hp : pc + 3 = pc') (he : cells + 1 = cells' ∧ slots + n = slots')
    (kk : ∀ q : Nat, VV g D nL cells' slots' (ws ++ [aI c q n f]) lv pc' (.ref q :: st)) : VV g D nL cells slots ws lv pc (.ref a :: st) := by
  obtain ⟨rfl, rfl⟩ := he
  obtain ⟨p, l, e, R, s, m, args, below, meth, c0, A, H0, Q⟩ := g
  obtain ⟨hx, hb, hml, hown, hts, hK, hA, hlk, rfl, hNW⟩ := C
  subst hp
  intro H locs ls hP hD hS hl
  refine va_clone hx hb (hml.trans hl.1.symm) hown (hts _ h1) (hts _ h2) (hts _ h3) (hts _ h4) (hts _ h5) (NW.cln hNW) hK hP hD hS hA q0 0 ha rfl (hK.2 0 (c 0, .int) rfl).2 (fun i v hv => ?_) hr.1 hr.2 hcs.1 hcs.2 hd (fun q H1 _ hP1 hD1 hS1 => kk q H1 locs ls hP1 hD1 hS1 hl)
  have hi : i < n := by
    have := (Array.getElem?_eq_some_iff.mp hv).1
    rwa [vp_cell_i, arrV_size] at this
  rw [vp_cell_i, arrV_read _ _ hi] at hv
  cases hv
  rfl
theorem vv_castA (C : CX g D c cc own Ts nL rm) {a q0 n index : Nat} {f : Nat → Int32} (hw : Cond.classLink own index "[I" ∈ Ts) (ha : ws[q0]? = some (aI c a n f)) (hd : decode cc pc = .ok (.checkcast index, 3)) (pc' : Nat) (hp : pc + 3 = pc')
    (kk : VV g D nL cells slots ws lv pc' (.ref a :: st)) : VV g D nL cells slots ws lv pc (.ref a :: st) := by
  obtain ⟨p, l, e, R, s, m, args, below, meth, c0, A, H0, Q⟩ := g
  obtain ⟨hx, hb, hml, hown, hts, hK, hA, hlk, rfl, hNW⟩ := C
  subst hp
  intro H locs ls hP hD hS hl
  exact va_castA hx hb hown (hts _ hw) hP q0 ha (hK.2 0 (c 0, .int) rfl).2 hd (kk H locs ls hP hD hS hl)
end VVRows2
/-! contracts whose world behind is one of many -/
def MJi {S : Type} (l : Launch) (y : MethodName) (wy : List Cond) (rm : Room) (D : va_G) (c : Nat → ClassId) (w : va_W) (av : List Value) (post : Int32 → S → Prop) (w' : S → va_W) (mc ms : Nat) : Prop :=
  ∀ sz, Met l y wy rm (va_Pc av (CPre D c w sz)) (va_Qi post (fun u t => CPost D c (w' u) (va_A w sz) t) (va_A w sz)) mc ms (va_A w sz)
def MJv {S : Type} (l : Launch) (y : MethodName) (wy : List Cond) (rm : Room) (D : va_G) (c : Nat → ClassId) (w : va_W) (av : List Value) (post : S → Prop) (w' : S → va_W) (mc ms : Nat) : Prop :=
  ∀ sz, Met l y wy rm (va_Pc av (CPre D c w sz)) (va_Qv post (fun u t => CPost D c (w' u) (va_A w sz) t) (va_A w sz)) mc ms (va_A w sz)
def MJr {S : Type} (l : Launch) (y : MethodName) (wy : List Cond) (rm : Room) (D : va_G) (c : Nat → ClassId) (w : va_W) (av : List Value) (post : S → Prop) (ra : S → Nat) (w' : S → va_W) (mc ms : Nat) : Prop :=
  ∀ sz, Met l y wy rm (va_Pc av (CPre D c w sz)) (va_Qr post (fun u a t => a = ra u ∧ CPost D c (w' u) (va_A w sz) t) (va_A w sz)) mc ms (va_A w sz)
section OfJ
variable {S : Type} {l : Launch} {y : MethodName} {wy wy' : List Cond} {rm : Room} {D : va_G} {c : Nat → ClassId} {w : va_W} {av : List Value} {w' : S → va_W} {mc ms : Nat} {cc : ByteArray} {nL : Nat}
theorem MJi_of {post : Int32 → S → Prop} (own : String) (ho : y.cls = own) (hy : plainName y.cls = true) (hw : wy = Cond.code y cc nL (some .int) :: wy') (hlen : (lg_sl av).length ≤ nL)
    (body : ∀ (g : CtxT), CX g D c cc own wy nL rm → (∀ (u : S) (r : Int32), post r u → ∀ (lv : List (Nat × Value)) (pc : Nat), decode cc pc = .ok (.ireturn, 1) → VV g D nL mc ms (w' u) lv pc [.int r]) → VV g D nL 0 0 w (lv_args 0 av) 0 []) : MJi l y wy rm D c w av post w' mc ms := by
  intro sz
  refine Met.ofW (cc := cc) (maxL := nL) (ret := some .int) hy hw ?_
  intro p e s m args below meth c0 s₁ B hml hv
  obtain ⟨rfl, hsz, hP, hK, hD0, hNW⟩ := hv
  have hts := atoms_spec (ws := wy) B.pre
  have hown : s.vm.findClass own = some m.cls := ho ▸ findClass_of_methodNamed B.named
  subst hsz
  rw [lg_entry_eq]
  exact body (p, l, e, _, s, m, _, below, meth, c0, va_A w s.heap.size, s.heap, _) ⟨B.exec, B.bytes, hml, hown, hts, hK, fun q h => Or.inr h, B.notSynchronized, rfl, hNW⟩
    (fun u r hu lv pc hd H locs ls hP hD hS hl => W.iret B.exec B.bytes B.returns (fun t ht hW => ⟨⟨r, u, rfl, hu, by rw [ht]; exact hP, va_K.moved hW.alike hK, hD⟩, hS.F ht⟩) hS.2.2 hd B.notSynchronized)
    s.heap [] _ hP hD0.self va_S.rf (lv_entry av hlen)
theorem MJv_of {post : S → Prop} (own : String) (ho : y.cls = own) (hy : plainName y.cls = true) (hw : wy = Cond.code y cc nL none :: wy') (hlen : (lg_sl av).length ≤ nL)
    (body : ∀ (g : CtxT), CX g D c cc own wy nL rm → (∀ (u : S), post u → ∀ (lv : List (Nat × Value)) (pc : Nat), decode cc pc = .ok (.return_, 1) → VV g D nL mc ms (w' u) lv pc []) → VV g D nL 0 0 w (lv_args 0 av) 0 []) : MJv l y wy rm D c w av post w' mc ms := by
  intro sz
  refine Met.ofW (cc := cc) (maxL := nL) (ret := none) hy hw ?_
  intro p e s m args below meth c0 s₁ B hml hv
  obtain ⟨rfl, hsz, hP, hK, hD0, hNW⟩ := hv
  have hts := atoms_spec (ws := wy) B.pre
  have hown : s.vm.findClass own = some m.cls := ho ▸ findClass_of_methodNamed B.named
  subst hsz
  rw [lg_entry_eq]
  exact body (p, l, e, _, s, m, _, below, meth, c0, va_A w s.heap.size, s.heap, _) ⟨B.exec, B.bytes, hml, hown, hts, hK, fun q h => Or.inr h, B.notSynchronized, rfl, hNW⟩
    (fun u hu lv pc hd H locs ls hP hD hS hl => W.vret B.exec B.bytes B.returns (fun t ht hW => ⟨⟨u, rfl, hu, by rw [ht]; exact hP, va_K.moved hW.alike hK, hD⟩, hS.F ht⟩) hS.2.2 hd B.notSynchronized)
    s.heap [] _ hP hD0.self va_S.rf (lv_entry av hlen)
theorem MJr_of {post : S → Prop} {ra : S → Nat} {t0 : FieldType} (own : String) (ho : y.cls = own) (hy : plainName y.cls = true) (hw : wy = Cond.code y cc nL (some (.array t0)) :: wy') (hlen : (lg_sl av).length ≤ nL)
    (body : ∀ (g : CtxT), CX g D c cc own wy nL rm → (∀ (u : S), post u → ∀ (lv : List (Nat × Value)) (pc : Nat), decode cc pc = .ok (.areturn, 1) → VV g D nL mc ms (w' u) lv pc [.ref (ra u)]) → VV g D nL 0 0 w (lv_args 0 av) 0 []) : MJr l y wy rm D c w av post ra w' mc ms := by
  intro sz
  refine Met.ofW (cc := cc) (maxL := nL) (ret := some (.array t0)) hy hw ?_
  intro p e s m args below meth c0 s₁ B hml hv
  obtain ⟨rfl, hsz, hP, hK, hD0, hNW⟩ := hv
  have hts := atoms_spec (ws := wy) B.pre
  have hown : s.vm.findClass own = some m.cls := ho ▸ findClass_of_methodNamed B.named
  subst hsz
  rw [lg_entry_eq]
  exact body (p, l, e, _, s, m, _, below, meth, c0, va_A w s.heap.size, s.heap, _) ⟨B.exec, B.bytes, hml, hown, hts, hK, fun q h => Or.inr h, B.notSynchronized, rfl, hNW⟩
    (fun u hu lv pc hd H locs ls hP hD hS hl => W.aret B.exec B.bytes B.returns (Or.inr ⟨t0, rfl⟩) (Or.inr ⟨_, rfl⟩) (fun t ht hW => ⟨⟨u, ra u, rfl, hu, rfl, by rw [ht]; exact hP, va_K.moved hW.alike hK, hD⟩, hS.F ht⟩) hS.2.2 hd B.notSynchronized)
    s.heap [] _ hP hD0.self va_S.rf (lv_entry av hlen)
end OfJ
section VVCallsJ
variable {S : Type} {g : CtxT} {D : va_G} {c : Nat → ClassId} {cc : ByteArray} {own : String} {Ts : List Cond} {nL cells slots pc : Nat} {rm : Room} {ws : va_W} {lv : List (Nat × Value)} {st : List Value}
variable {y : MethodName} {wy wy' : List Cond} {rmy : Room} {wc : va_W} {w' : S → va_W} {mc ms maxL n index b ci N : Nat} {ret : Option FieldType} {bytes : ByteArray} {Cn : String} {T : u_T} {As : List Value} {fs : List Value}
theorem vv_callJi (C : CX g D c cc own Ts nL rm) {post : Int32 → S → Prop} (M : ∀ l, MJi l y wy rmy D c wc (.ref b :: As) post w' mc ms) (hG : GoodIn Ts (wsV own index Cn y wy)) (hwy : wy = Cond.code y bytes maxL ret :: wy') (hrc : rmy.cells = mc) (hrs : rmy.slots = ms)
    (hyd : y.cls = Cn ∧ y.cls ≠ "java/lang/invoke/MethodHandle" ∧ y.cls ≠ "java/lang/invoke/VarHandle" ∧ (parseMethodDescriptor y.desc).map (fun d => d.parameters.length) = some n) (hR : rmy.frames + 1 ≤ rm.frames ∧ 8 + (maxL + 11) + rmy.locals ≤ rm.locals)
    (isC isR : List Nat) (wr : va_W) (hC : isC.map (fun i => ws[i]?) = wc.map some) (hnd : va_nd isC = true) (hCR : isR.map (fun i => ws[i]?) = wr.map some) (hnr : va_nd isR = true) (hdis : ∀ i ∈ isR, i ∉ isC) (k0 : Nat) (hk0 : wc[k0]? = some (b, .inr (ci, fs))) (hci : vwCl[ci]? = some (Cn, T, N)) (hAs : As.length = n) (rest : List Value) (hst : st = As.reverse ++ .ref b :: rest) (hcat : (rest.map fun v => v.category).sum ≤ 8)
    (hf : cells + mc ≤ rm.cells ∧ slots + ms ≤ rm.slots) (hd : decode cc pc = .ok (.invokevirtual index, 3)) (pc' cells' slots' : Nat) (hp : pc + 3 = pc') (hcs : cells + mc = cells' ∧ slots + ms = slots') (kk : ∀ (r : Int32) (u : S), post r u → VV g D nL cells' slots' (wr ++ w' u) lv pc' (.int r :: rest)) : VV g D nL cells slots ws lv pc st := by
  obtain ⟨p, l, e, R, s, m, args, below, meth, c0, A, H0, Q⟩ := g
  obtain ⟨hx, hb, hml, hown, hts, hK, hA, hlk, rfl, hNW⟩ := C
  obtain ⟨rfl, rfl⟩ := hcs
  subst hp; subst hst
  intro H locs ls hP hD hS hl
  have hF := va_free hD hS hA isC hC
  refine va_calli (va_runV (As := As) (rest := rest) ⟨hx, hb, hml, hown, hts⟩ (M l H.size) (cwV n hts hG hwy hrc hrs hyd hR) ⟨CPre_blind, va_recv hK (hP.sub isC (fm_of_map hC)) hci hk0, fun U hU hW => ⟨rfl, by rw [hU], by rw [hU]; exact hP.sub isC (fm_of_map hC), va_K.moved hW.alike hK, (hD.sub isC hnd hC).weaken (fun _ _ _ _ => trivial), hNW.warm hW⟩⟩ rfl hAs hl.1 rfl (lv_room hcat) hd hf) hS (fun q _ h => hF q h) hF (fun r_ u t H1 locs1 ht hvm hw hB hz1 hk1 hS1 => ?_)
  obtain ⟨hP1, hK1, hD1⟩ := hB
  rw [ht] at hP1
  obtain ⟨hP2, hD2⟩ := va_join hP hD isC isR hC hCR hnr hdis hk1 hF hP1 hD1
  exact kk r_ u hw H1 locs1 ls hP2 hD2 hS1 hl
theorem vv_callJv (C : CX g D c cc own Ts nL rm) {post : S → Prop} (M : ∀ l, MJv l y wy rmy D c wc (.ref b :: As) post w' mc ms) (hG : GoodIn Ts (wsV own index Cn y wy)) (hwy : wy = Cond.code y bytes maxL ret :: wy') (hrc : rmy.cells = mc) (hrs : rmy.slots = ms)
    (hyd : y.cls = Cn ∧ y.cls ≠ "java/lang/invoke/MethodHandle" ∧ y.cls ≠ "java/lang/invoke/VarHandle" ∧ (parseMethodDescriptor y.desc).map (fun d => d.parameters.length) = some n) (hR : rmy.frames + 1 ≤ rm.frames ∧ 8 + (maxL + 11) + rmy.locals ≤ rm.locals)
    (isC isR : List Nat) (wr : va_W) (hC : isC.map (fun i => ws[i]?) = wc.map some) (hnd : va_nd isC = true) (hCR : isR.map (fun i => ws[i]?) = wr.map some) (hnr : va_nd isR = true) (hdis : ∀ i ∈ isR, i ∉ isC) (k0 : Nat) (hk0 : wc[k0]? = some (b, .inr (ci, fs))) (hci : vwCl[ci]? = some (Cn, T, N)) (hAs : As.length = n) (rest : List Value) (hst : st = As.reverse ++ .ref b :: rest) (hcat : (rest.map fun v => v.category).sum ≤ 8)
    (hf : cells + mc ≤ rm.cells ∧ slots + ms ≤ rm.slots) (hd : decode cc pc = .ok (.invokevirtual index, 3)) (pc' cells' slots' : Nat) (hp : pc + 3 = pc') (hcs : cells + mc = cells' ∧ slots + ms = slots') (kk : ∀ (u : S), post u → VV g D nL cells' slots' (wr ++ w' u) lv pc' (rest)) : VV g D nL cells slots ws lv pc st := by
  obtain ⟨p, l, e, R, s, m, args, below, meth, c0, A, H0, Q⟩ := g
  obtain ⟨hx, hb, hml, hown, hts, hK, hA, hlk, rfl, hNW⟩ := C
  obtain ⟨rfl, rfl⟩ := hcs
  subst hp; subst hst
  intro H locs ls hP hD hS hl
  have hF := va_free hD hS hA isC hC
  refine va_callv (va_runV (As := As) (rest := rest) ⟨hx, hb, hml, hown, hts⟩ (M l H.size) (cwV n hts hG hwy hrc hrs hyd hR) ⟨CPre_blind, va_recv hK (hP.sub isC (fm_of_map hC)) hci hk0, fun U hU hW => ⟨rfl, by rw [hU], by rw [hU]; exact hP.sub isC (fm_of_map hC), va_K.moved hW.alike hK, (hD.sub isC hnd hC).weaken (fun _ _ _ _ => trivial), hNW.warm hW⟩⟩ rfl hAs hl.1 rfl (lv_room hcat) hd hf) hS (fun q _ h => hF q h) hF (fun u t H1 locs1 ht hvm hw hB hz1 hk1 hS1 => ?_)
  obtain ⟨hP1, hK1, hD1⟩ := hB
  rw [ht] at hP1
  obtain ⟨hP2, hD2⟩ := va_join hP hD isC isR hC hCR hnr hdis hk1 hF hP1 hD1
  exact kk u hw H1 locs1 ls hP2 hD2 hS1 hl
theorem vv_callJr (C : CX g D c cc own Ts nL rm) {post : S → Prop} {ra : S → Nat} (M : ∀ l, MJr l y wy rmy D c wc (.ref b :: As) post ra w' mc ms) (hG : GoodIn Ts (wsV own index Cn y wy)) (hwy : wy = Cond.code y bytes maxL ret :: wy') (hrc : rmy.cells = mc) (hrs : rmy.slots = ms)
    (hyd : y.cls = Cn ∧ y.cls ≠ "java/lang/invoke/MethodHandle" ∧ y.cls ≠ "java/lang/invoke/VarHandle" ∧ (parseMethodDescriptor y.desc).map (fun d => d.parameters.length) = some n) (hR : rmy.frames + 1 ≤ rm.frames ∧ 8 + (maxL + 11) + rmy.locals ≤ rm.locals)
    (isC isR : List Nat) (wr : va_W) (hC : isC.map (fun i => ws[i]?) = wc.map some) (hnd : va_nd isC = true) (hCR : isR.map (fun i => ws[i]?) = wr.map some) (hnr : va_nd isR = true) (hdis : ∀ i ∈ isR, i ∉ isC) (k0 : Nat) (hk0 : wc[k0]? = some (b, .inr (ci, fs))) (hci : vwCl[ci]? = some (Cn, T, N)) (hAs : As.length = n) (rest : List Value) (hst : st = As.reverse ++ .ref b :: rest) (hcat : (rest.map fun v => v.category).sum ≤ 8)
    (hf : cells + mc ≤ rm.cells ∧ slots + ms ≤ rm.slots) (hd : decode cc pc = .ok (.invokevirtual index, 3)) (pc' cells' slots' : Nat) (hp : pc + 3 = pc') (hcs : cells + mc = cells' ∧ slots + ms = slots') (kk : ∀ (u : S), post u → VV g D nL cells' slots' (wr ++ w' u) lv pc' (.ref (ra u) :: rest)) : VV g D nL cells slots ws lv pc st := by
  obtain ⟨p, l, e, R, s, m, args, below, meth, c0, A, H0, Q⟩ := g
  obtain ⟨hx, hb, hml, hown, hts, hK, hA, hlk, rfl, hNW⟩ := C
  obtain ⟨rfl, rfl⟩ := hcs
  subst hp; subst hst
  intro H locs ls hP hD hS hl
  have hF := va_free hD hS hA isC hC
  refine va_callr (va_runV (As := As) (rest := rest) ⟨hx, hb, hml, hown, hts⟩ (M l H.size) (cwV n hts hG hwy hrc hrs hyd hR) ⟨CPre_blind, va_recv hK (hP.sub isC (fm_of_map hC)) hci hk0, fun U hU hW => ⟨rfl, by rw [hU], by rw [hU]; exact hP.sub isC (fm_of_map hC), va_K.moved hW.alike hK, (hD.sub isC hnd hC).weaken (fun _ _ _ _ => trivial), hNW.warm hW⟩⟩ rfl hAs hl.1 rfl (lv_room hcat) hd hf) hS (fun q _ h => hF q h) hF (fun u a_ t H1 locs1 ht hvm hw hB hz1 hk1 hS1 => ?_)
  obtain ⟨rfl, hP1, hK1, hD1⟩ := hB
  rw [ht] at hP1
  obtain ⟨hP2, hD2⟩ := va_join hP hD isC isR hC hCR hnr hdis hk1 hF hP1 hD1
  exact kk u hw H1 locs1 ls hP2 hD2 hS1 hl
end VVCallsJ
