/-! arrays of rows -/
abbrev aR (c : Nat → ClassId) (a n : Nat) (f : Nat → Option Nat) : Nat × va_E := (a, .inl (c 3, n, .inr (.inr (.inr (.inr f)))))
section VVRows2
variable {g : CtxT} {D : va_G} {c : Nat → ClassId} {cc : ByteArray} {own : String} {Ts : List Cond} {nL cells slots pc : Nat} {rm : Room} {ws : va_W} {lv : List (Nat × Value)} {st : List Value}
theorem vv_anewA (C : CX g D c cc own Ts nL rm) {n : Int32} {N index : Nat} (hw : Cond.classLink own index "[I" ∈ Ts) (hn : ¬ n < 0) (hN : n.toNatClampNeg = N) (hb8 : n.toNatClampNeg * 4 ≤ 536870912) (hcs : cells + 1 ≤ rm.cells ∧ slots + N ≤ rm.slots) (hd : decode cc pc = .ok (.anewarray index, 3)) (pc' cells' slots' : Nat) (hp : pc + 3 = pc') (he : cells + 1 = cells' ∧ slots + N = slots')
    (kk : ∀ q : Nat, VV g D nL cells' slots' (ws ++ [aR c q N (fun _ => none)]) lv pc' (.ref q :: st)) : VV g D nL cells slots ws lv pc (.int n :: st) := by
  obtain ⟨rfl, rfl⟩ := he
  obtain ⟨p, l, e, R, s, m, args, below, meth, c0, A, H0, Q⟩ := g
  obtain ⟨hx, hb, hml, hown, hts, hK, hA, hlk, rfl, hNW⟩ := C
  subst hp
  subst hN
  intro H locs ls hP hD hS hl
  refine W.anewA (t := .int) hx hb hown (hts _ hw) (NW.over hNW) rfl hd rfl hn hb8 hcs.1 hcs.2 fun cA kA comp f1 f2 f3 f4 => ?_
  have e3 : cA = c 3 := Option.some.inj (f1.symm.trans (hK.2 3 (c 3, .array .int) rfl).2)
  subst e3
  generalize hH1 : H.push ({ cls := c 3, slots := Array.replicate n.toNatClampNeg .null, vm := .none } : Cell) = H1
  have z1 : H1.size = H.size + 1 := by rw [← hH1, Array.size_push]
  have e1 : H1[H.size]? = some (arrV (c 3) n.toNatClampNeg (fun _ => .null)) := by rw [← hH1, Array.getElem?_push_size, ← arrV_new]
  have o1 : ∀ q : Nat, q < H.size → H1[q]? = H[q]? := fun q hq => by rw [← hH1, Array.getElem?_push, if_neg (Nat.ne_of_lt hq)]
  have hk : ∀ (k : Nat) (x : Nat × va_E), ws[k]? = some x → H1[x.1]? = H[x.1]? := fun k x hx => o1 x.1 ((hP k x hx).lt)
  refine kk H.size H1 locs ls ((hP.kept hk).app (fun k x hx => ?_)) (hD.push hP rfl (hA _ hS.1)) ⟨Nat.le_trans hS.1 (by omega), fun x h1 h2 => (o1 x (Nat.lt_of_lt_of_le h1 hS.1)).trans (hS.2.1 x h1 h2), hS.2.2⟩ hl
  have hz : k < 1 := (List.getElem?_eq_some_iff.mp hx).1
  rw [show k = 0 by omega] at hx
  cases hx
  exact e1
theorem vv_aastA (C : CX g D c cc own Ts nL rm) {a q0 qv n n1 v : Nat} {f : Nat → Option Nat} {f1 : Nat → Int32} {i : Int32} (ws' : va_W) (ha : ws[q0]? = some (aR c a n f)) (hv : ws[qv]? = some (aI c v n1 f1)) (hin : vp_in i n) (hws : ws.set q0 (aR c a n (va_up f i.toNatClampNeg (some v))) = ws') (hd : decode cc pc = .ok (.aastore, 1)) (pc' : Nat) (hp : pc + 1 = pc')
    (kk : VV g D nL cells slots ws' lv pc' st) : VV g D nL cells slots ws lv pc (.ref v :: .int i :: .ref a :: st) := by
  subst hws
  obtain ⟨p, l, e, R, s, m, args, below, meth, c0, A, H0, Q⟩ := g
  obtain ⟨hx, hb, hml, hown, hts, hK, hA, hlk, rfl, hNW⟩ := C
  subst hp
  intro H locs ls hP hD hS hl
  have hlt : i.toNatClampNeg < n := Nat.not_le.mp fun q => hin (Or.inr q)
  have h0 : ¬ i < 0 := fun q => hin (Or.inl q)
  obtain ⟨k3, k1, k2⟩ := NW.rows hNW
  obtain ⟨-, k0, j1, -⟩ := (hK.2 0 (c 0, .int) rfl).1 0 (fun _ => .null)
  refine W.aast hx hb (hP q0 _ ha) (fun q h => by cases h) (fun h => by cases h) k1 k2 rfl j1 ⟨h0, by show _ < (arrV _ _ _).slots.size; rw [arrV_size]; exact hlt⟩ (hP qv _ hv) (fun q h => by cases h) j1 (va_asg _ _) rfl rfl hd fun H1 e z oq => ?_
  refine kk H1 _ ls (hP.set hD ha ?_ oq) (hD.set ha) (hS.put z oq (hD.2 q0 _ ha)) hl
  show H1[a]? = some (vp_cell _ _)
  rw [e]
  rw [vp_cell_q, vp_cell_q, arrV_store]
  congr 2
  funext q
  by_cases hq : q = i.toNatClampNeg
  · subst hq
    simp [updV, va_up, va_rf]
  · simp [updV, va_up, hq]
theorem vv_aaldA (C : CX g D c cc own Ts nL rm) {a q0 n v : Nat} {f : Nat → Option Nat} {i : Int32} (ha : ws[q0]? = some (aR c a n f)) (hin : vp_in i n) (hf : f i.toNatClampNeg = some v) (hd : decode cc pc = .ok (.aaload, 1)) (pc' : Nat) (hp : pc + 1 = pc')
    (kk : VV g D nL cells slots ws lv pc' (.ref v :: st)) : VV g D nL cells slots ws lv pc (.int i :: .ref a :: st) := by
  obtain ⟨p, l, e, R, s, m, args, below, meth, c0, A, H0, Q⟩ := g
  obtain ⟨hx, hb, hml, hown, hts, hK, hA, hlk, rfl, hNW⟩ := C
  subst hp
  intro H locs ls hP hD hS hl
  have hlt : i.toNatClampNeg < n := Nat.not_le.mp fun q => hin (Or.inr q)
  exact W.aald (v := .ref v) (ty := .array .int) hx hb (hP q0 _ ha) ((hK.2 3 (c 3, .array .int) rfl).1 n (fun j => va_rf (f j))) rfl (fun q => by cases q) (by show ¬ (i < 0 ∨ (arrV _ _ _).slots.size ≤ _); rw [arrV_size]; exact hin) (by show (arrV _ _ _).slots[_]? = _; rw [arrV_read _ _ hlt, hf]; rfl) rfl rfl hd (kk H locs ls hP hD hS hl)
theorem vv_clone (C : CX g D c cc own Ts nL rm) {a q0 n index : Nat} {f : Nat → Int32} (h1 : Cond.methodLink own index ⟨"[I", "clone", "()Ljava/lang/Object;"⟩ ∈ Ts) (h2 : Cond.sameMethod "[I" "java/lang/Object" "clone" "()Ljava/lang/Object;" ∈ Ts) (h3 : Cond.native ⟨"java/lang/Object", "clone", "()Ljava/lang/Object;"⟩ ∈ Ts) (h4 : Cond.instanceMethod ⟨"java/lang/Object", "clone", "()Ljava/lang/Object;"⟩ ∈ Ts) (h5 : Cond.selects "[I" ⟨"[I", "clone", "()Ljava/lang/Object;"⟩ ⟨"java/lang/Object", "clone", "()Ljava/lang/Object;"⟩ ∈ Ts)
    (ha : ws[q0]? = some (aI c a n f)) (hr : 1 ≤ rm.frames ∧ (st.map fun v => v.category).sum + 14 ≤ rm.locals) (hcs : cells + 1 ≤ rm.cells ∧ slots + n ≤ rm.slots) (hd : decode cc pc = .ok (.invokevirtual index, 3)) (pc' cells' slots' : Nat) (hp : pc + 3 = pc') (he : cells + 1 = cells' ∧ slots + n = slots')
    (kk : ∀ q : Nat, VV g D nL cells' slots' (ws ++ [aI c q n f]) lv pc' (.ref q :: st)) : VV g D nL cells slots ws lv pc (.ref a :: st) := by
  obtain ⟨rfl, rfl⟩ := he
  obtain ⟨p, l, e, R, s, m, args, below, meth, c0, A, H0, Q⟩ := g
  obtain ⟨hx, hb, hml, hown, hts, hK, hA, hlk, rfl, hNW⟩ := C
  subst hp
  intro H locs ls hP hD hS hl
  refine va_clone hx hb (hml.trans hl.1.symm) hown (hts _ h1) (hts _ h2) (hts _ h3) (hts _ h4) (hts _ h5) (NW.cln hNW) hK hP hD hS hA q0 0 ha rfl (hK.2 0 (c 0, .int) rfl).2 (fun i v hv => ?_) hr.1 hr.2 hcs.1 hcs.2 hd (fun q H1 _ hP1 hD1 hS1 => kk q H1 locs ls hP1 hD1 hS1 hl)
  have hi : i < n := by
    have := (Array.getElem?_eq_some_iff.mp hv).1
    rwa [vp_cell_i, arrV_size] at this
  rw [vp_cell_i, arrV_read _ _ hi] at hv
  cases hv
  rfl
theorem vv_castA (C : CX g D c cc own Ts nL rm) {a q0 n index : Nat} {f : Nat → Int32} (hw : Cond.classLink own index "[I" ∈ Ts) (ha : ws[q0]? = some (aI c a n f)) (hd : decode cc pc = .ok (.checkcast index, 3)) (pc' : Nat) (hp : pc + 3 = pc')
    (kk : VV g D nL cells slots ws lv pc' (.ref a :: st)) : VV g D nL cells slots ws lv pc (.ref a :: st) := by
  obtain ⟨p, l, e, R, s, m, args, below, meth, c0, A, H0, Q⟩ := g
  obtain ⟨hx, hb, hml, hown, hts, hK, hA, hlk, rfl, hNW⟩ := C
  subst hp
  intro H locs ls hP hD hS hl
  exact va_castA hx hb hown (hts _ hw) hP q0 ha (hK.2 0 (c 0, .int) rfl).2 hd (kk H locs ls hP hD hS hl)
end VVRows2
/-! contracts whose world behind is one of many -/
def MJi {S : Type} (l : Launch) (y : MethodName) (wy : List Cond) (rm : Room) (D : va_G) (c : Nat → ClassId) (w : va_W) (av : List Value) (post : Int32 → S → Prop) (w' : S → va_W) (mc ms : Nat) : Prop :=
  ∀ sz, Met l y wy rm (va_Pc av (CPre D c w sz)) (va_Qi post (fun u t => CPost D c (w' u) (va_A w sz) t) (va_A w sz)) mc ms (va_A w sz)
def MJv {S : Type} (l : Launch) (y : MethodName) (wy : List Cond) (rm : Room) (D : va_G) (c : Nat → ClassId) (w : va_W) (av : List Value) (post : S → Prop) (w' : S → va_W) (mc ms : Nat) : Prop :=
  ∀ sz, Met l y wy rm (va_Pc av (CPre D c w sz)) (va_Qv post (fun u t => CPost D c (w' u) (va_A w sz) t) (va_A w sz)) mc ms (va_A w sz)
def MJr {S : Type} (l : Launch) (y : MethodName) (wy : List Cond) (rm : Room) (D : va_G) (c : Nat → ClassId) (w : va_W) (av : List Value) (post : S → Prop) (ra : S → Nat) (w' : S → va_W) (mc ms : Nat) : Prop :=
  ∀ sz, Met l y wy rm (va_Pc av (CPre D c w sz)) (va_Qr post (fun u a t => a = ra u ∧ CPost D c (w' u) (va_A w sz) t) (va_A w sz)) mc ms (va_A w sz)
section OfJ
variable {S : Type} {l : Launch} {y : MethodName} {wy wy' : List Cond} {rm : Room} {D : va_G} {c : Nat → ClassId} {w : va_W} {av : List Value} {w' : S → va_W} {mc ms : Nat} {cc : ByteArray} {nL : Nat}
theorem MJi_of {post : Int32 → S → Prop} (own : String) (ho : y.cls = own) (hy : plainName y.cls = true) (hw : wy = Cond.code y cc nL (some .int) :: wy') (hlen : (lg_sl av).length ≤ nL)
    (body : ∀ (g : CtxT), CX g D c cc own wy nL rm → (∀ (u : S) (r : Int32), post r u → ∀ (lv : List (Nat × Value)) (pc : Nat), decode cc pc = .ok (.ireturn, 1) → VV g D nL mc ms (w' u) lv pc [.int r]) → VV g D nL 0 0 w (lv_args 0 av) 0 []) : MJi l y wy rm D c w av post w' mc ms := by
  intro sz
  refine Met.ofW (cc := cc) (maxL := nL) (ret := some .int) hy hw ?_
  intro p e s m args below meth c0 s₁ B hml hv
  obtain ⟨rfl, hsz, hP, hK, hD0, hNW⟩ := hv
  have hts := atoms_spec (ws := wy) B.pre
  have hown : s.vm.findClass own = some m.cls := ho ▸ findClass_of_methodNamed B.named
  subst hsz
  rw [lg_entry_eq]
  exact body (p, l, e, _, s, m, _, below, meth, c0, va_A w s.heap.size, s.heap, _) ⟨B.exec, B.bytes, hml, hown, hts, hK, fun q h => Or.inr h, B.notSynchronized, rfl, hNW⟩
    (fun u r hu lv pc hd H locs ls hP hD hS hl => W.iret B.exec B.bytes B.returns (fun t ht hW => ⟨⟨r, u, rfl, hu, by rw [ht]; exact hP, va_K.moved hW.alike hK, hD⟩, hS.F ht⟩) hS.2.2 hd B.notSynchronized)
    s.heap [] _ hP hD0.self va_S.rf (lv_entry av hlen)
theorem MJv_of {post : S → Prop} (own : String) (ho : y.cls = own) (hy : plainName y.cls = true) (hw : wy = Cond.code y cc nL none :: wy') (hlen : (lg_sl av).length ≤ nL)
    (body : ∀ (g : CtxT), CX g D c cc own wy nL rm → (∀ (u : S), post u → ∀ (lv : List (Nat × Value)) (pc : Nat), decode cc pc = .ok (.return_, 1) → VV g D nL mc ms (w' u) lv pc []) → VV g D nL 0 0 w (lv_args 0 av) 0 []) : MJv l y wy rm D c w av post w' mc ms := by
  intro sz
  refine Met.ofW (cc := cc) (maxL := nL) (ret := none) hy hw ?_
  intro p e s m args below meth c0 s₁ B hml hv
  obtain ⟨rfl, hsz, hP, hK, hD0, hNW⟩ := hv
  have hts := atoms_spec (ws := wy) B.pre
  have hown : s.vm.findClass own = some m.cls := ho ▸ findClass_of_methodNamed B.named
  subst hsz
  rw [lg_entry_eq]
  exact body (p, l, e, _, s, m, _, below, meth, c0, va_A w s.heap.size, s.heap, _) ⟨B.exec, B.bytes, hml, hown, hts, hK, fun q h => Or.inr h, B.notSynchronized, rfl, hNW⟩
    (fun u hu lv pc hd H locs ls hP hD hS hl => W.vret B.exec B.bytes B.returns (fun t ht hW => ⟨⟨u, rfl, hu, by rw [ht]; exact hP, va_K.moved hW.alike hK, hD⟩, hS.F ht⟩) hS.2.2 hd B.notSynchronized)
    s.heap [] _ hP hD0.self va_S.rf (lv_entry av hlen)
theorem MJr_of {post : S → Prop} {ra : S → Nat} {t0 : FieldType} (own : String) (ho : y.cls = own) (hy : plainName y.cls = true) (hw : wy = Cond.code y cc nL (some (.array t0)) :: wy') (hlen : (lg_sl av).length ≤ nL)
    (body : ∀ (g : CtxT), CX g D c cc own wy nL rm → (∀ (u : S), post u → ∀ (lv : List (Nat × Value)) (pc : Nat), decode cc pc = .ok (.areturn, 1) → VV g D nL mc ms (w' u) lv pc [.ref (ra u)]) → VV g D nL 0 0 w (lv_args 0 av) 0 []) : MJr l y wy rm D c w av post ra w' mc ms := by
  intro sz
  refine Met.ofW (cc := cc) (maxL := nL) (ret := some (.array t0)) hy hw ?_
  intro p e s m args below meth c0 s₁ B hml hv
  obtain ⟨rfl, hsz, hP, hK, hD0, hNW⟩ := hv
  have hts := atoms_spec (ws := wy) B.pre
  have hown : s.vm.findClass own = some m.cls := ho ▸ findClass_of_methodNamed B.named
  subst hsz
  rw [lg_entry_eq]
  exact body (p, l, e, _, s, m, _, below, meth, c0, va_A w s.heap.size, s.heap, _) ⟨B.exec, B.bytes, hml, hown, hts, hK, fun q h => Or.inr h, B.notSynchronized, rfl, hNW⟩
    (fun u hu lv pc hd H locs ls hP hD hS hl => W.aret B.exec B.bytes B.returns (Or.inr ⟨t0, rfl⟩) (Or.inr ⟨_, rfl⟩) (fun t ht hW => ⟨⟨u, ra u, rfl, hu, rfl, by rw [ht]; exact hP, va_K.moved hW.alike hK, hD⟩, hS.F ht⟩) hS.2.2 hd B.notSynchronized)
    s.heap [] _ hP hD0.self va_S.rf (lv_entry av hlen)
end OfJ
section VVCallsJ
variable {S : Type} {g : CtxT} {D : va_G} {c : Nat → ClassId} {cc : ByteArray} {own : String} {Ts : List Cond} {nL cells slots pc : Nat} {rm : Room} {ws : va_W} {lv : List (Nat × Value)} {st : List Value}
variable {y : MethodName} {wy wy' : List Cond} {rmy : Room} {wc : va_W} {w' : S → va_W} {mc ms maxL n index b ci N : Nat} {ret : Option FieldType} {bytes : ByteArray} {Cn : String} {T : u_T} {As : List Value} {fs : List Value}
theorem vv_callJi (C : CX g D c cc own Ts nL rm) {post : Int32 → S → Prop} (M : ∀ l, MJi l y wy rmy D c wc (.ref b :: As) post w' mc ms) (hG : GoodIn Ts (wsV own index Cn y wy)) (hwy : wy = Cond.code y bytes maxL ret :: wy') (hrc : rmy.cells = mc) (hrs : rmy.slots = ms)
    (hyd : y.cls = Cn ∧ y.cls ≠ "java/lang/invoke/MethodHandle" ∧ y.cls ≠ "java/lang/invoke/VarHandle" ∧ (parseMethodDescriptor y.desc).map (fun d => d.parameters.length) = some n) (hR : rmy.frames + 1 ≤ rm.frames ∧ 8 + (maxL + 11) + rmy.locals ≤ rm.locals)
    (isC isR : List Nat) (wr : va_W) (hC : isC.map (fun i => ws[i]?) = wc.map some) (hnd : va_nd isC = true) (hCR : isR.map (fun i => ws[i]?) = wr.map some) (hnr : va_nd isR = true) (hdis : ∀ i ∈ isR, i ∉ isC) (k0 : Nat) (hk0 : wc[k0]? = some (b, .inr (ci, fs))) (hci : vwCl[ci]? = some (Cn, T, N)) (hAs : As.length = n) (rest : List Value) (hst : st = As.reverse ++ .ref b :: rest) (hcat : (rest.map fun v => v.category).sum ≤ 8)
    (hf : cells + mc ≤ rm.cells ∧ slots + ms ≤ rm.slots) (hd : decode cc pc = .ok (.invokevirtual index, 3)) (pc' cells' slots' : Nat) (hp : pc + 3 = pc') (hcs : cells + mc = cells' ∧ slots + ms = slots') (kk : ∀ (r : Int32) (u : S), post r u → VV g D nL cells' slots' (wr ++ w' u) lv pc' (.int r :: rest)) : VV g D nL cells slots ws lv pc st := by
  obtain ⟨p, l, e, R, s, m, args, below, meth, c0, A, H0, Q⟩ := g
  obtain ⟨hx, hb, hml, hown, hts, hK, hA, hlk, rfl, hNW⟩ := C
  obtain ⟨rfl, rfl⟩ := hcs
  subst hp; subst hst
  intro H locs ls hP hD hS hl
  have hF := va_free hD hS hA isC hC
  refine va_calli (va_runV (As := As) (rest := rest) ⟨hx, hb, hml, hown, hts⟩ (M l H.size) (cwV n hts hG hwy hrc hrs hyd hR) ⟨CPre_blind, va_recv hK (hP.sub isC (fm_of_map hC)) hci hk0, fun U hU hW => ⟨rfl, by rw [hU], by rw [hU]; exact hP.sub isC (fm_of_map hC), va_K.moved hW.alike hK, (hD.sub isC hnd hC).weaken (fun _ _ _ _ => trivial), hNW.warm hW⟩⟩ rfl hAs hl.1 rfl (lv_room hcat) hd hf) hS (fun q _ h => hF q h) hF (fun r_ u t H1 locs1 ht hvm hw hB hz1 hk1 hS1 => ?_)
  obtain ⟨hP1, hK1, hD1⟩ := hB
  rw [ht] at hP1
  obtain ⟨hP2, hD2⟩ := va_join hP hD isC isR hC hCR hnr hdis hk1 hF hP1 hD1
  exact kk r_ u hw H1 locs1 ls hP2 hD2 hS1 hl
theorem vv_callJv (C : CX g D c cc own Ts nL rm) {post : S → Prop} (M : ∀ l, MJv l y wy rmy D c wc (.ref b :: As) post w' mc ms) (hG : GoodIn Ts (wsV own index Cn y wy)) (hwy : wy = Cond.code y bytes maxL ret :: wy') (hrc : rmy.cells = mc) (hrs : rmy.slots = ms)
    (hyd : y.cls = Cn ∧ y.cls ≠ "java/lang/invoke/MethodHandle" ∧ y.cls ≠ "java/lang/invoke/VarHandle" ∧ (parseMethodDescriptor y.desc).map (fun d => d.parameters.length) = some n) (hR : rmy.frames + 1 ≤ rm.frames ∧ 8 + (maxL + 11) + rmy.locals ≤ rm.locals)
    (isC isR : List Nat) (wr : va_W) (hC : isC.map (fun i => ws[i]?) = wc.map some) (hnd : va_nd isC = true) (hCR : isR.map (fun i => ws[i]?) = wr.map some) (hnr : va_nd isR = true) (hdis : ∀ i ∈ isR, i ∉ isC) (k0 : Nat) (hk0 : wc[k0]? = some (b, .inr (ci, fs))) (hci : vwCl[ci]? = some (Cn, T, N)) (hAs : As.length = n) (rest : List Value) (hst : st = As.reverse ++ .ref b :: rest) (hcat : (rest.map fun v => v.category).sum ≤ 8)
    (hf : cells + mc ≤ rm.cells ∧ slots + ms ≤ rm.slots) (hd : decode cc pc = .ok (.invokevirtual index, 3)) (pc' cells' slots' : Nat) (hp : pc + 3 = pc') (hcs : cells + mc = cells' ∧ slots + ms = slots') (kk : ∀ (u : S), post u → VV g D nL cells' slots' (wr ++ w' u) lv pc' (rest)) : VV g D nL cells slots ws lv pc st := by
  obtain ⟨p, l, e, R, s, m, args, below, meth, c0, A, H0, Q⟩ := g
  obtain ⟨hx, hb, hml, hown, hts, hK, hA, hlk, rfl, hNW⟩ := C
  obtain ⟨rfl, rfl⟩ := hcs
  subst hp; subst hst
  intro H locs ls hP hD hS hl
  have hF := va_free hD hS hA isC hC
  refine va_callv (va_runV (As := As) (rest := rest) ⟨hx, hb, hml, hown, hts⟩ (M l H.size) (cwV n hts hG hwy hrc hrs hyd hR) ⟨CPre_blind, va_recv hK (hP.sub isC (fm_of_map hC)) hci hk0, fun U hU hW => ⟨rfl, by rw [hU], by rw [hU]; exact hP.sub isC (fm_of_map hC), va_K.moved hW.alike hK, (hD.sub isC hnd hC).weaken (fun _ _ _ _ => trivial), hNW.warm hW⟩⟩ rfl hAs hl.1 rfl (lv_room hcat) hd hf) hS (fun q _ h => hF q h) hF (fun u t H1 locs1 ht hvm hw hB hz1 hk1 hS1 => ?_)
  obtain ⟨hP1, hK1, hD1⟩ := hB
  rw [ht] at hP1
  obtain ⟨hP2, hD2⟩ := va_join hP hD isC isR hC hCR hnr hdis hk1 hF hP1 hD1
  exact kk u hw H1 locs1 ls hP2 hD2 hS1 hl
theorem vv_callJr (C : CX g D c cc own Ts nL rm) {post : S → Prop} {ra : S → Nat} (M : ∀ l, MJr l y wy rmy D c wc (.ref b :: As) post ra w' mc ms) (hG : GoodIn Ts (wsV own index Cn y wy)) (hwy : wy = Cond.code y bytes maxL ret :: wy') (hrc : rmy.cells = mc) (hrs : rmy.slots = ms)
    (hyd : y.cls = Cn ∧ y.cls ≠ "java/lang/invoke/MethodHandle" ∧ y.cls ≠ "java/lang/invoke/VarHandle" ∧ (parseMethodDescriptor y.desc).map (fun d => d.parameters.length) = some n) (hR : rmy.frames + 1 ≤ rm.frames ∧ 8 + (maxL + 11) + rmy.locals ≤ rm.locals)
    (isC isR : List Nat) (wr : va_W) (hC : isC.map (fun i => ws[i]?) = wc.map some) (hnd : va_nd isC = true) (hCR : isR.map (fun i => ws[i]?) = wr.map some) (hnr : va_nd isR = true) (hdis : ∀ i ∈ isR, i ∉ isC) (k0 : Nat) (hk0 : wc[k0]? = some (b, .inr (ci, fs))) (hci : vwCl[ci]? = some (Cn, T, N)) (hAs : As.length = n) (rest : List Value) (hst : st = As.reverse ++ .ref b :: rest) (hcat : (rest.map fun v => v.category).sum ≤ 8)
    (hf : cells + mc ≤ rm.cells ∧ slots + ms ≤ rm.slots) (hd : decode cc pc = .ok (.invokevirtual index, 3)) (pc' cells' slots' : Nat) (hp : pc + 3 = pc') (hcs : cells + mc = cells' ∧ slots + ms = slots') (kk : ∀ (u : S), post u → VV g D nL cells' slots' (wr ++ w' u) lv pc' (.ref (ra u) :: rest)) : VV g D nL cells slots ws lv pc st := by
  obtain ⟨p, l, e, R, s, m, args, below, meth, c0, A, H0, Q⟩ := g
  obtain ⟨hx, hb, hml, hown, hts, hK, hA, hlk, rfl, hNW⟩ := C
  obtain ⟨rfl, rfl⟩ := hcs
  subst hp; subst hst
  intro H locs ls hP hD hS hl
  have hF := va_free hD hS hA isC hC
  refine va_callr (va_runV (As := As) (rest := rest) ⟨hx, hb, hml, hown, hts⟩ (M l H.size) (cwV n hts hG hwy hrc hrs hyd hR) ⟨CPre_blind, va_recv hK (hP.sub isC (fm_of_map hC)) hci hk0, fun U hU hW => ⟨rfl, by rw [hU], by rw [hU]; exact hP.sub isC (fm_of_map hC), va_K.moved hW.alike hK, (hD.sub isC hnd hC).weaken (fun _ _ _ _ => trivial), hNW.warm hW⟩⟩ rfl hAs hl.1 rfl (lv_room hcat) hd hf) hS (fun q _ h => hF q h) hF (fun u a_ t H1 locs1 ht hvm hw hB hz1 hk1 hS1 => ?_)
  obtain ⟨rfl, hP1, hK1, hD1⟩ := hB
  rw [ht] at hP1
  obtain ⟨hP2, hD2⟩ := va_join hP hD isC isR hC hCR hnr hdis hk1 hF hP1 hD1
  exact kk u hw H1 locs1 ls hP2 hD2 hS1 hl
end VVCallsJ
theorem vv_cs {g : CtxT} {D : va_G} {nL cells slots pc k n : Nat} {ws : va_W} {lv : List (Nat × Value)} {st : List Value} (h1 : cells = k) (h2 : slots = n) (kk : VV g D nL k n ws lv pc st) : VV g D nL cells slots ws lv pc st := by
  subst h1; subst h2; exact kk
def bud {α : Type} (bu : Nat) (k : Nat → Option α) : Option α := match bu with
  | 0 => none
  | b + 1 => k b
theorem bud_s {α : Type} {bu : Nat} {k : Nat → Option α} {r : α} (h : bud bu k = some r) : ∃ b, bu = b + 1 ∧ k b = some r := by
  cases bu with
  | zero => cases h
  | succ b => exact ⟨b, rfl, h⟩
/-! the reference with all its rows: its own cell, its rows by their addresses -/
def mA (m0 : Nat) (M : Nat → Nat) : Nat → Nat
  | 0 => m0
  | k + 1 => M (k + 1)
def mB (M u : Nat → Nat) : Nat → Nat
  | 3 => u 1
  | 4 => u 2
  | 5 => u 3
  | 6 => u 4
  | 7 => u 5
  | k => M k
def kA (a b c d e f : Nat) : Nat → Nat
  | 0 => a
  | 1 => b
  | 2 => c
  | 3 => d
  | 4 => e
  | _ => f
def kF (u : Nat → Nat) : Nat → Option Nat := va_up (va_up (va_up (va_up (va_up (fun _ => none) (Int32.toNatClampNeg 0) (some (u 1))) (Int32.toNatClampNeg 1) (some (u 2))) (Int32.toNatClampNeg 2) (some (u 3))) (Int32.toNatClampNeg 3) (some (u 4))) (Int32.toNatClampNeg 4) (some (u 5))
abbrev wM (c : Nat → ClassId) (m0 : Nat) (M : Nat → Nat) (M_thrown : Int32) (M_waters : Int32) (M_windX : Int32) (M_windY : Int32) (M_barrels : Int32) (M_crew : Int32) (M_waterTable : Nat → Int32) (M_fixed : Nat → Int32) (M_table : Nat → Int32) (M_strength : Nat → Int32) (M_wear : Nat → Int32) (M_people : Nat → Int32) (M_numbers : Nat → Int32) (M_pieces : Nat → Int32) (M_used : Nat → Int32) (M_from : Nat → Int32) (M_line : Nat → Int32) (M_is : Nat → Int32) : va_W := [(m0, .inr (7, [.int M_thrown, .int M_waters, .ref (M 1), .int M_windX, .int M_windY, .int M_barrels, .ref (M 2), .int M_crew, .ref (M 3), .ref (M 4), .ref (M 5), .ref (M 6), .ref (M 7), .ref (M 8), .ref (M 9), .ref (M 10), .ref (M 11), .ref (M 12)])), aI c (M 1) 56 M_waterTable, aI c (M 2) 72 M_fixed, aI c (M 3) 120 M_table, aI c (M 4) 576 M_strength, aI c (M 5) 576 M_wear, aI c (M 6) 16 M_people, aI c (M 7) 3 M_numbers, aI c (M 8) 24 M_pieces, aZ c (M 9) 576 M_used, aI c (M 10) 24 M_from, aI c (M 11) 24 M_line, aZ c (M 12) 24 M_is]
abbrev rmX7_kept : Room := { frames := 1, cells := 6, slots := 1296, locals := 30 }
theorem yd_X7_kept : yX7_kept.cls = RX7 ∧ yX7_kept.cls ≠ "java/lang/invoke/MethodHandle" ∧ yX7_kept.cls ≠ "java/lang/invoke/VarHandle" ∧ (parseMethodDescriptor yX7_kept.desc).map (fun d => d.parameters.length) = some 0 := by decide +kernel
theorem kwX7_kept_1 : Cond.classLink RX7 180 "[I" ∈ wsX7_kept := List.mem_of_getElem? (i := 1) rfl
theorem kwX7_kept_2 : Cond.fieldLink RX7 16 "BarrelRaftModel" "table" "[I" ∈ wsX7_kept := List.mem_of_getElem? (i := 2) rfl
theorem kwX7_kept_3 : Cond.methodLink RX7 181 ⟨"[I", "clone", "()Ljava/lang/Object;"⟩ ∈ wsX7_kept := List.mem_of_getElem? (i := 3) rfl
theorem kwX7_kept_4 : Cond.sameMethod "[I" "java/lang/Object" "clone" "()Ljava/lang/Object;" ∈ wsX7_kept := List.mem_of_getElem? (i := 4) rfl
theorem kwX7_kept_5 : Cond.native ⟨"java/lang/Object", "clone", "()Ljava/lang/Object;"⟩ ∈ wsX7_kept := List.mem_of_getElem? (i := 5) rfl
theorem kwX7_kept_6 : Cond.instanceMethod ⟨"java/lang/Object", "clone", "()Ljava/lang/Object;"⟩ ∈ wsX7_kept := List.mem_of_getElem? (i := 6) rfl
theorem kwX7_kept_7 : Cond.selects "[I" ⟨"[I", "clone", "()Ljava/lang/Object;"⟩ ⟨"java/lang/Object", "clone", "()Ljava/lang/Object;"⟩ ∈ wsX7_kept := List.mem_of_getElem? (i := 7) rfl
theorem kwX7_kept_8 : Cond.fieldLink RX7 19 "BarrelRaftModel" "strength" "[I" ∈ wsX7_kept := List.mem_of_getElem? (i := 8) rfl
theorem kwX7_kept_9 : Cond.fieldLink RX7 22 "BarrelRaftModel" "wear" "[I" ∈ wsX7_kept := List.mem_of_getElem? (i := 9) rfl
theorem kwX7_kept_10 : Cond.fieldLink RX7 25 "BarrelRaftModel" "people" "[I" ∈ wsX7_kept := List.mem_of_getElem? (i := 10) rfl
theorem kwX7_kept_11 : Cond.fieldLink RX7 28 "BarrelRaftModel" "numbers" "[I" ∈ wsX7_kept := List.mem_of_getElem? (i := 11) rfl
set_option maxRecDepth 20000 in
theorem kinX7_kept_X7 : ∀ w ∈ u_ws RX7 TX7 18, w ∈ wsX7_kept := by decide +kernel
set_option maxHeartbeats 4000000 in
set_option maxRecDepth 100000 in
theorem mt_X7_kept (l : Launch) (D : va_G) (c : Nat → ClassId) (m0 : Nat) (M : Nat → Nat) (M_thrown : Int32) (M_waters : Int32) (M_windX : Int32) (M_windY : Int32) (M_barrels : Int32) (M_crew : Int32) (M_waterTable : Nat → Int32) (M_fixed : Nat → Int32) (M_table : Nat → Int32) (M_strength : Nat → Int32) (M_wear : Nat → Int32) (M_people : Nat → Int32) (M_numbers : Nat → Int32) (M_pieces : Nat → Int32) (M_used : Nat → Int32) (M_from : Nat → Int32) (M_line : Nat → Int32) (M_is : Nat → Int32) : MJr l yX7_kept wsX7_kept rmX7_kept D c (wM c m0 M M_thrown M_waters M_windX M_windY M_barrels M_crew M_waterTable M_fixed M_table M_strength M_wear M_people M_numbers M_pieces M_used M_from M_line M_is) [.ref m0] (fun (_ : Nat → Nat) => True) (fun u => u 0) (fun u => (wM c m0 M M_thrown M_waters M_windX M_windY M_barrels M_crew M_waterTable M_fixed M_table M_strength M_wear M_people M_numbers M_pieces M_used M_from M_line M_is) ++ [aR c (u 0) 5 (kF u), aI c (u 1) 120 M_table, aI c (u 2) 576 M_strength, aI c (u 3) 576 M_wear, aI c (u 4) 16 M_people, aI c (u 5) 3 M_numbers]) 6 1296 := by
  refine MJr_of (t0 := .array .int) (cc := cX7_kept) (nL := 1) RX7 rfl (by decide) rfl (Nat.le_of_ble_eq_true rfl) (fun g C ret => ?_)
  refine vv_lv [0] [(0, .ref m0)] rfl ?_
  refine vv_iconst C (v := 5) dX7_kept_0 (by decide) 1 rfl ?_
  refine vv_anewA C (N := 5) kwX7_kept_1 (by decide) (by decide) (by decide) ⟨by decide, by decide⟩ dX7_kept_1 4 1 5 rfl ⟨rfl, rfl⟩ (fun qr => ?_)
  refine vv_dup C dX7_kept_4 rfl 5 rfl ?_
  refine vv_iconst C (v := 0) dX7_kept_5 (by decide) 6 rfl ?_
  refine vv_aload_n C dX7_kept_6 rfl 0 rfl 7 rfl ?_
  refine vv_get C (q0 := 0) (ci := 7) (k := 8) kinX7_kept_X7 rfl rfl (by decide) kwX7_kept_2 rfl rfl dX7_kept_7 10 rfl ?_
  refine vv_clone C (q0 := 3) kwX7_kept_3 kwX7_kept_4 kwX7_kept_5 kwX7_kept_6 kwX7_kept_7 rfl ⟨Nat.le_of_ble_eq_true rfl, Nat.le_of_ble_eq_true rfl⟩ ⟨by decide, by decide⟩ dX7_kept_10 13 2 125 rfl ⟨rfl, rfl⟩ (fun q0 => ?_)
  refine vv_castA C (q0 := 14) kwX7_kept_1 rfl dX7_kept_13 16 rfl ?_
  refine vv_aastA C (q0 := 13) (qv := 14) ((wM c m0 M M_thrown M_waters M_windX M_windY M_barrels M_crew M_waterTable M_fixed M_table M_strength M_wear M_people M_numbers M_pieces M_used M_from M_line M_is) ++ [aR c qr 5 (va_up (fun _ => none) (Int32.toNatClampNeg 0) (some q0)), aI c q0 120 M_table]) rfl rfl (inB_t (by decide)) rfl dX7_kept_16 17 rfl ?_
  refine vv_dup C dX7_kept_17 rfl 18 rfl ?_
  refine vv_iconst C (v := 1) dX7_kept_18 (by decide) 19 rfl ?_
  refine vv_aload_n C dX7_kept_19 rfl 0 rfl 20 rfl ?_
  refine vv_get C (q0 := 0) (ci := 7) (k := 9) kinX7_kept_X7 rfl rfl (by decide) kwX7_kept_8 rfl rfl dX7_kept_20 23 rfl ?_
  refine vv_clone C (q0 := 4) kwX7_kept_3 kwX7_kept_4 kwX7_kept_5 kwX7_kept_6 kwX7_kept_7 rfl ⟨Nat.le_of_ble_eq_true rfl, Nat.le_of_ble_eq_true rfl⟩ ⟨by decide, by decide⟩ dX7_kept_23 26 3 701 rfl ⟨rfl, rfl⟩ (fun q1 => ?_)
  refine vv_castA C (q0 := 15) kwX7_kept_1 rfl dX7_kept_26 29 rfl ?_
  refine vv_aastA C (q0 := 13) (qv := 15) ((wM c m0 M M_thrown M_waters M_windX M_windY M_barrels M_crew M_waterTable M_fixed M_table M_strength M_wear M_people M_numbers M_pieces M_used M_from M_line M_is) ++ [aR c qr 5 (va_up (va_up (fun _ => none) (Int32.toNatClampNeg 0) (some q0)) (Int32.toNatClampNeg 1) (some q1)), aI c q0 120 M_table, aI c q1 576 M_strength]) rfl rfl (inB_t (by decide)) rfl dX7_kept_29 30 rfl ?_
  refine vv_dup C dX7_kept_30 rfl 31 rfl ?_
  refine vv_iconst C (v := 2) dX7_kept_31 (by decide) 32 rfl ?_
  refine vv_aload_n C dX7_kept_32 rfl 0 rfl 33 rfl ?_
  refine vv_get C (q0 := 0) (ci := 7) (k := 10) kinX7_kept_X7 rfl rfl (by decide) kwX7_kept_9 rfl rfl dX7_kept_33 36 rfl ?_
  refine vv_clone C (q0 := 5) kwX7_kept_3 kwX7_kept_4 kwX7_kept_5 kwX7_kept_6 kwX7_kept_7 rfl ⟨Nat.le_of_ble_eq_true rfl, Nat.le_of_ble_eq_true rfl⟩ ⟨by decide, by decide⟩ dX7_kept_36 39 4 1277 rfl ⟨rfl, rfl⟩ (fun q2 => ?_)
  refine vv_castA C (q0 := 16) kwX7_kept_1 rfl dX7_kept_39 42 rfl ?_
  refine vv_aastA C (q0 := 13) (qv := 16) ((wM c m0 M M_thrown M_waters M_windX M_windY M_barrels M_crew M_waterTable M_fixed M_table M_strength M_wear M_people M_numbers M_pieces M_used M_from M_line M_is) ++ [aR c qr 5 (va_up (va_up (va_up (fun _ => none) (Int32.toNatClampNeg 0) (some q0)) (Int32.toNatClampNeg 1) (some q1)) (Int32.toNatClampNeg 2) (some q2)), aI c q0 120 M_table, aI c q1 576 M_strength, aI c q2 576 M_wear]) rfl rfl (inB_t (by decide)) rfl dX7_kept_42 43 rfl ?_
  refine vv_dup C dX7_kept_43 rfl 44 rfl ?_
  refine vv_iconst C (v := 3) dX7_kept_44 (by decide) 45 rfl ?_
  refine vv_aload_n C dX7_kept_45 rfl 0 rfl 46 rfl ?_
  refine vv_get C (q0 := 0) (ci := 7) (k := 11) kinX7_kept_X7 rfl rfl (by decide) kwX7_kept_10 rfl rfl dX7_kept_46 49 rfl ?_
  refine vv_clone C (q0 := 6) kwX7_kept_3 kwX7_kept_4 kwX7_kept_5 kwX7_kept_6 kwX7_kept_7 rfl ⟨Nat.le_of_ble_eq_true rfl, Nat.le_of_ble_eq_true rfl⟩ ⟨by decide, by decide⟩ dX7_kept_49 52 5 1293 rfl ⟨rfl, rfl⟩ (fun q3 => ?_)
  refine vv_castA C (q0 := 17) kwX7_kept_1 rfl dX7_kept_52 55 rfl ?_
  refine vv_aastA C (q0 := 13) (qv := 17) ((wM c m0 M M_thrown M_waters M_windX M_windY M_barrels M_crew M_waterTable M_fixed M_table M_strength M_wear M_people M_numbers M_pieces M_used M_from M_line M_is) ++ [aR c qr 5 (va_up (va_up (va_up (va_up (fun _ => none) (Int32.toNatClampNeg 0) (some q0)) (Int32.toNatClampNeg 1) (some q1)) (Int32.toNatClampNeg 2) (some q2)) (Int32.toNatClampNeg 3) (some q3)), aI c q0 120 M_table, aI c q1 576 M_strength, aI c q2 576 M_wear, aI c q3 16 M_people]) rfl rfl (inB_t (by decide)) rfl dX7_kept_55 56 rfl ?_
  refine vv_dup C dX7_kept_56 rfl 57 rfl ?_
  refine vv_iconst C (v := 4) dX7_kept_57 (by decide) 58 rfl ?_
  refine vv_aload_n C dX7_kept_58 rfl 0 rfl 59 rfl ?_
  refine vv_get C (q0 := 0) (ci := 7) (k := 12) kinX7_kept_X7 rfl rfl (by decide) kwX7_kept_11 rfl rfl dX7_kept_59 62 rfl ?_
  refine vv_clone C (q0 := 7) kwX7_kept_3 kwX7_kept_4 kwX7_kept_5 kwX7_kept_6 kwX7_kept_7 rfl ⟨Nat.le_of_ble_eq_true rfl, Nat.le_of_ble_eq_true rfl⟩ ⟨by decide, by decide⟩ dX7_kept_62 65 6 1296 rfl ⟨rfl, rfl⟩ (fun q4 => ?_)
  refine vv_castA C (q0 := 18) kwX7_kept_1 rfl dX7_kept_65 68 rfl ?_
  refine vv_aastA C (q0 := 13) (qv := 18) ((wM c m0 M M_thrown M_waters M_windX M_windY M_barrels M_crew M_waterTable M_fixed M_table M_strength M_wear M_people M_numbers M_pieces M_used M_from M_line M_is) ++ [aR c qr 5 (va_up (va_up (va_up (va_up (va_up (fun _ => none) (Int32.toNatClampNeg 0) (some q0)) (Int32.toNatClampNeg 1) (some q1)) (Int32.toNatClampNeg 2) (some q2)) (Int32.toNatClampNeg 3) (some q3)) (Int32.toNatClampNeg 4) (some q4)), aI c q0 120 M_table, aI c q1 576 M_strength, aI c q2 576 M_wear, aI c q3 16 M_people, aI c q4 3 M_numbers]) rfl rfl (inB_t (by decide)) rfl dX7_kept_68 69 rfl ?_
  exact ret (kA qr q0 q1 q2 q3 q4) trivial _ _ dX7_kept_69
abbrev rmX7_bringBack : Room := { frames := 0, cells := 0, slots := 0, locals := 0 }
theorem yd_X7_bringBack : yX7_bringBack.cls = RX7 ∧ yX7_bringBack.cls ≠ "java/lang/invoke/MethodHandle" ∧ yX7_bringBack.cls ≠ "java/lang/invoke/VarHandle" ∧ (parseMethodDescriptor yX7_bringBack.desc).map (fun d => d.parameters.length) = some 1 := by decide +kernel
theorem kwX7_bringBack_1 : Cond.fieldLink RX7 16 "BarrelRaftModel" "table" "[I" ∈ wsX7_bringBack := List.mem_of_getElem? (i := 1) rfl
theorem kwX7_bringBack_2 : Cond.fieldLink RX7 19 "BarrelRaftModel" "strength" "[I" ∈ wsX7_bringBack := List.mem_of_getElem? (i := 2) rfl
theorem kwX7_bringBack_3 : Cond.fieldLink RX7 22 "BarrelRaftModel" "wear" "[I" ∈ wsX7_bringBack := List.mem_of_getElem? (i := 3) rfl
theorem kwX7_bringBack_4 : Cond.fieldLink RX7 25 "BarrelRaftModel" "people" "[I" ∈ wsX7_bringBack := List.mem_of_getElem? (i := 4) rfl
theorem kwX7_bringBack_5 : Cond.fieldLink RX7 28 "BarrelRaftModel" "numbers" "[I" ∈ wsX7_bringBack := List.mem_of_getElem? (i := 5) rfl
set_option maxRecDepth 20000 in
theorem kinX7_bringBack_X7 : ∀ w ∈ u_ws RX7 TX7 18, w ∈ wsX7_bringBack := by decide +kernel
set_option maxHeartbeats 4000000 in
set_option maxRecDepth 100000 in
theorem mt_X7_bringBack (l : Launch) (D : va_G) (c : Nat → ClassId) (m0 : Nat) (M u : Nat → Nat) (M_thrown : Int32) (M_waters : Int32) (M_windX : Int32) (M_windY : Int32) (M_barrels : Int32) (M_crew : Int32) (M_waterTable : Nat → Int32) (M_fixed : Nat → Int32) (M_table : Nat → Int32) (M_strength : Nat → Int32) (M_wear : Nat → Int32) (M_people : Nat → Int32) (M_numbers : Nat → Int32) (M_pieces : Nat → Int32) (M_used : Nat → Int32) (M_from : Nat → Int32) (M_line : Nat → Int32) (M_is : Nat → Int32) (S_table : Nat → Int32) (S_strength : Nat → Int32) (S_wear : Nat → Int32) (S_people : Nat → Int32) (S_numbers : Nat → Int32) : MJv l yX7_bringBack wsX7_bringBack rmX7_bringBack D c ((wM c m0 M M_thrown M_waters M_windX M_windY M_barrels M_crew M_waterTable M_fixed M_table M_strength M_wear M_people M_numbers M_pieces M_used M_from M_line M_is) ++ [aR c (u 0) 5 (kF u), aI c (u 1) 120 S_table, aI c (u 2) 576 S_strength, aI c (u 3) 576 S_wear, aI c (u 4) 16 S_people, aI c (u 5) 3 S_numbers]) [.ref m0, .ref (u 0)] (fun (_ : Unit) => True) (fun _ => wM c m0 (mB M u) M_thrown M_waters M_windX M_windY M_barrels M_crew M_waterTable M_fixed S_table S_strength S_wear S_people S_numbers M_pieces M_used M_from M_line M_is) 0 0 := by
  refine MJv_of (cc := cX7_bringBack) (nL := 2) RX7 rfl (by decide) rfl (Nat.le_of_ble_eq_true rfl) (fun g C ret => ?_)
  refine vv_lv [0, 1] [(0, .ref m0), (1, .ref (u 0))] rfl ?_
  refine vv_aload_n C dX7_bringBack_0 rfl 0 rfl 1 rfl ?_
  refine vv_aload_n C dX7_bringBack_1 rfl 1 rfl 2 rfl ?_
  refine vv_iconst C (v := 0) dX7_bringBack_2 (by decide) 3 rfl ?_
  refine vv_aaldA C (q0 := 13) (v := u 1) rfl (inB_t (by decide)) rfl dX7_bringBack_3 4 rfl ?_
  refine vv_put C (q0 := 0) (ci := 7) (k := 8) (ty := .array .int) [(m0, .inr (7, [.int M_thrown, .int M_waters, .ref (M 1), .int M_windX, .int M_windY, .int M_barrels, .ref (M 2), .int M_crew, .ref (u 1), .ref (M 4), .ref (M 5), .ref (M 6), .ref (M 7), .ref (M 8), .ref (M 9), .ref (M 10), .ref (M 11), .ref (M 12)])), aI c (M 1) 56 M_waterTable, aI c (M 2) 72 M_fixed, aI c (M 3) 120 M_table, aI c (M 4) 576 M_strength, aI c (M 5) 576 M_wear, aI c (M 6) 16 M_people, aI c (M 7) 3 M_numbers, aI c (M 8) 24 M_pieces, aZ c (M 9) 576 M_used, aI c (M 10) 24 M_from, aI c (M 11) 24 M_line, aZ c (M 12) 24 M_is, aR c (u 0) 5 (kF u), aI c (u 1) 120 S_table, aI c (u 2) 576 S_strength, aI c (u 3) 576 S_wear, aI c (u 4) 16 S_people, aI c (u 5) 3 S_numbers] tyX7 tyX7_ok nmX7 kinX7_bringBack_X7 rfl rfl (by decide) kwX7_bringBack_1 rfl rfl rfl rfl rfl (Nat.le_of_ble_eq_true rfl) rfl dX7_bringBack_4 7 rfl ?_
  refine vv_aload_n C dX7_bringBack_7 rfl 0 rfl 8 rfl ?_
  refine vv_aload_n C dX7_bringBack_8 rfl 1 rfl 9 rfl ?_
  refine vv_iconst C (v := 1) dX7_bringBack_9 (by decide) 10 rfl ?_
  refine vv_aaldA C (q0 := 13) (v := u 2) rfl (inB_t (by decide)) rfl dX7_bringBack_10 11 rfl ?_
  refine vv_put C (q0 := 0) (ci := 7) (k := 9) (ty := .array .int) [(m0, .inr (7, [.int M_thrown, .int M_waters, .ref (M 1), .int M_windX, .int M_windY, .int M_barrels, .ref (M 2), .int M_crew, .ref (u 1), .ref (u 2), .ref (M 5), .ref (M 6), .ref (M 7), .ref (M 8), .ref (M 9), .ref (M 10), .ref (M 11), .ref (M 12)])), aI c (M 1) 56 M_waterTable, aI c (M 2) 72 M_fixed, aI c (M 3) 120 M_table, aI c (M 4) 576 M_strength, aI c (M 5) 576 M_wear, aI c (M 6) 16 M_people, aI c (M 7) 3 M_numbers, aI c (M 8) 24 M_pieces, aZ c (M 9) 576 M_used, aI c (M 10) 24 M_from, aI c (M 11) 24 M_line, aZ c (M 12) 24 M_is, aR c (u 0) 5 (kF u), aI c (u 1) 120 S_table, aI c (u 2) 576 S_strength, aI c (u 3) 576 S_wear, aI c (u 4) 16 S_people, aI c (u 5) 3 S_numbers] tyX7 tyX7_ok nmX7 kinX7_bringBack_X7 rfl rfl (by decide) kwX7_bringBack_2 rfl rfl rfl rfl rfl (Nat.le_of_ble_eq_true rfl) rfl dX7_bringBack_11 14 rfl ?_
  refine vv_aload_n C dX7_bringBack_14 rfl 0 rfl 15 rfl ?_
  refine vv_aload_n C dX7_bringBack_15 rfl 1 rfl 16 rfl ?_
  refine vv_iconst C (v := 2) dX7_bringBack_16 (by decide) 17 rfl ?_
  refine vv_aaldA C (q0 := 13) (v := u 3) rfl (inB_t (by decide)) rfl dX7_bringBack_17 18 rfl ?_
  refine vv_put C (q0 := 0) (ci := 7) (k := 10) (ty := .array .int) [(m0, .inr (7, [.int M_thrown, .int M_waters, .ref (M 1), .int M_windX, .int M_windY, .int M_barrels, .ref (M 2), .int M_crew, .ref (u 1), .ref (u 2), .ref (u 3), .ref (M 6), .ref (M 7), .ref (M 8), .ref (M 9), .ref (M 10), .ref (M 11), .ref (M 12)])), aI c (M 1) 56 M_waterTable, aI c (M 2) 72 M_fixed, aI c (M 3) 120 M_table, aI c (M 4) 576 M_strength, aI c (M 5) 576 M_wear, aI c (M 6) 16 M_people, aI c (M 7) 3 M_numbers, aI c (M 8) 24 M_pieces, aZ c (M 9) 576 M_used, aI c (M 10) 24 M_from, aI c (M 11) 24 M_line, aZ c (M 12) 24 M_is, aR c (u 0) 5 (kF u), aI c (u 1) 120 S_table, aI c (u 2) 576 S_strength, aI c (u 3) 576 S_wear, aI c (u 4) 16 S_people, aI c (u 5) 3 S_numbers] tyX7 tyX7_ok nmX7 kinX7_bringBack_X7 rfl rfl (by decide) kwX7_bringBack_3 rfl rfl rfl rfl rfl (Nat.le_of_ble_eq_true rfl) rfl dX7_bringBack_18 21 rfl ?_
  refine vv_aload_n C dX7_bringBack_21 rfl 0 rfl 22 rfl ?_
  refine vv_aload_n C dX7_bringBack_22 rfl 1 rfl 23 rfl ?_
  refine vv_iconst C (v := 3) dX7_bringBack_23 (by decide) 24 rfl ?_
  refine vv_aaldA C (q0 := 13) (v := u 4) rfl (inB_t (by decide)) rfl dX7_bringBack_24 25 rfl ?_
  refine vv_put C (q0 := 0) (ci := 7) (k := 11) (ty := .array .int) [(m0, .inr (7, [.int M_thrown, .int M_waters, .ref (M 1), .int M_windX, .int M_windY, .int M_barrels, .ref (M 2), .int M_crew, .ref (u 1), .ref (u 2), .ref (u 3), .ref (u 4), .ref (M 7), .ref (M 8), .ref (M 9), .ref (M 10), .ref (M 11), .ref (M 12)])), aI c (M 1) 56 M_waterTable, aI c (M 2) 72 M_fixed, aI c (M 3) 120 M_table, aI c (M 4) 576 M_strength, aI c (M 5) 576 M_wear, aI c (M 6) 16 M_people, aI c (M 7) 3 M_numbers, aI c (M 8) 24 M_pieces, aZ c (M 9) 576 M_used, aI c (M 10) 24 M_from, aI c (M 11) 24 M_line, aZ c (M 12) 24 M_is, aR c (u 0) 5 (kF u), aI c (u 1) 120 S_table, aI c (u 2) 576 S_strength, aI c (u 3) 576 S_wear, aI c (u 4) 16 S_people, aI c (u 5) 3 S_numbers] tyX7 tyX7_ok nmX7 kinX7_bringBack_X7 rfl rfl (by decide) kwX7_bringBack_4 rfl rfl rfl rfl rfl (Nat.le_of_ble_eq_true rfl) rfl dX7_bringBack_25 28 rfl ?_
  refine vv_aload_n C dX7_bringBack_28 rfl 0 rfl 29 rfl ?_
  refine vv_aload_n C dX7_bringBack_29 rfl 1 rfl 30 rfl ?_
  refine vv_iconst C (v := 4) dX7_bringBack_30 (by decide) 31 rfl ?_
  refine vv_aaldA C (q0 := 13) (v := u 5) rfl (inB_t (by decide)) rfl dX7_bringBack_31 32 rfl ?_
  refine vv_put C (q0 := 0) (ci := 7) (k := 12) (ty := .array .int) [(m0, .inr (7, [.int M_thrown, .int M_waters, .ref (M 1), .int M_windX, .int M_windY, .int M_barrels, .ref (M 2), .int M_crew, .ref (u 1), .ref (u 2), .ref (u 3), .ref (u 4), .ref (u 5), .ref (M 8), .ref (M 9), .ref (M 10), .ref (M 11), .ref (M 12)])), aI c (M 1) 56 M_waterTable, aI c (M 2) 72 M_fixed, aI c (M 3) 120 M_table, aI c (M 4) 576 M_strength, aI c (M 5) 576 M_wear, aI c (M 6) 16 M_people, aI c (M 7) 3 M_numbers, aI c (M 8) 24 M_pieces, aZ c (M 9) 576 M_used, aI c (M 10) 24 M_from, aI c (M 11) 24 M_line, aZ c (M 12) 24 M_is, aR c (u 0) 5 (kF u), aI c (u 1) 120 S_table, aI c (u 2) 576 S_strength, aI c (u 3) 576 S_wear, aI c (u 4) 16 S_people, aI c (u 5) 3 S_numbers] tyX7 tyX7_ok nmX7 kinX7_bringBack_X7 rfl rfl (by decide) kwX7_bringBack_5 rfl rfl rfl rfl rfl (Nat.le_of_ble_eq_true rfl) rfl dX7_bringBack_32 35 rfl ?_
  refine vv_sub [0, 1, 2, 14, 15, 16, 17, 18, 8, 9, 10, 11, 12] [] (wM c m0 (mB M u) M_thrown M_waters M_windX M_windY M_barrels M_crew M_waterTable M_fixed S_table S_strength S_wear S_people S_numbers M_pieces M_used M_from M_line M_is) [] rfl (by decide) rfl ?_
  exact ret () trivial _ _ dX7_bringBack_35
abbrev rmX7_look : Room := { frames := 5, cells := 6, slots := 1296, locals := 119 }
theorem yd_X7_look : yX7_look.cls = RX7 ∧ yX7_look.cls ≠ "java/lang/invoke/MethodHandle" ∧ yX7_look.cls ≠ "java/lang/invoke/VarHandle" ∧ (parseMethodDescriptor yX7_look.desc).map (fun d => d.parameters.length) = some 2 := by decide +kernel
def jX7_look_L8 (M_waters : Int32) (M_windX : Int32) (M_windY : Int32) (M_barrels : Int32) (M_crew : Int32) (M_waterTable : Nat → Int32) (M_fixed : Nat → Int32) (u1 : Int32) (n : Nat) (M_table_8 : Nat → Int32) (M_strength_8 : Nat → Int32) (M_wear_8 : Nat → Int32) (M_people_8 : Nat → Int32) (M_numbers_8 : Nat → Int32) (M_pieces_8 : Nat → Int32) (v4_8 : Int32) : Option ((Nat → Int32) × (Nat → Int32) × (Nat → Int32) × (Nat → Int32) × (Nat → Int32) × (Nat → Int32)) :=
  match n with
  | 0 => none
  | n + 1 => (if u1 ≤ v4_8 then some (M_table_8, M_strength_8, M_wear_8, M_people_8, M_numbers_8, M_pieces_8) else bnd (jX7_hourOn M_waters M_windX M_windY M_barrels M_crew M_waterTable M_fixed M_table_8 M_strength_8 M_wear_8 M_people_8 M_numbers_8 M_pieces_8) (fun r1 => jX7_look_L8 M_waters M_windX M_windY M_barrels M_crew M_waterTable M_fixed u1 n r1.2.1 r1.2.2.1 r1.2.2.2.1 r1.2.2.2.2.1 r1.2.2.2.2.2.1 r1.2.2.2.2.2.2 (v4_8 + 1)))
def jX7_look (M_waters : Int32) (M_windX : Int32) (M_windY : Int32) (M_barrels : Int32) (M_crew : Int32) (M_waterTable : Nat → Int32) (M_fixed : Nat → Int32) (M_table : Nat → Int32) (M_strength : Nat → Int32) (M_wear : Nat → Int32) (M_people : Nat → Int32) (M_numbers : Nat → Int32) (M_pieces : Nat → Int32) (a1 : Int32) (a2 : Int32) : Option (Int32 × (Nat → Int32)) :=
  bnd (jX7_look_L8 M_waters M_windX M_windY M_barrels M_crew M_waterTable M_fixed a1 FU M_table M_strength M_wear M_people M_numbers M_pieces 0) (fun r2 => (if a2 = 0 then bnd (jX7_counted M_barrels M_crew r2.1 r2.2.1 r2.2.2.2.1 r2.2.2.2.2.1 r2.2.2.2.2.2 2) (fun r6 => some (r6.1, r6.2)) else (if a2 = 1 then bnd (jX7_counted M_barrels M_crew r2.1 r2.2.1 r2.2.2.2.1 r2.2.2.2.2.1 r2.2.2.2.2.2 6) (fun r5 => some (r5.1, r5.2)) else (if a2 = 2 then bnd (jX7_counted M_barrels M_crew r2.1 r2.2.1 r2.2.2.2.1 r2.2.2.2.2.1 r2.2.2.2.2.2 8) (fun r4 => some (r4.1, r4.2)) else bnd (jX7_counted M_barrels M_crew r2.1 r2.2.1 r2.2.2.2.1 r2.2.2.2.2.1 r2.2.2.2.2.2 7) (fun r3 => some (r3.1, r3.2))))))
set_option maxHeartbeats 4000000 in
set_option maxRecDepth 100000 in
theorem mt_X7_look (l : Launch) (D : va_G) (c : Nat → ClassId) (m0 : Nat) (M : Nat → Nat) (M_thrown : Int32) (M_waters : Int32) (M_windX : Int32) (M_windY : Int32) (M_barrels : Int32) (M_crew : Int32) (M_waterTable : Nat → Int32) (M_fixed : Nat → Int32) (M_table : Nat → Int32) (M_strength : Nat → Int32) (M_wear : Nat → Int32) (M_people : Nat → Int32) (M_numbers : Nat → Int32) (M_pieces : Nat → Int32) (M_used : Nat → Int32) (M_from : Nat → Int32) (M_line : Nat → Int32) (M_is : Nat → Int32) (a1 : Int32) (a2 : Int32) (q0 : Int32 × (Nat → Int32)) (h : jX7_look M_waters M_windX M_windY M_barrels M_crew M_waterTable M_fixed M_table M_strength M_wear M_people M_numbers M_pieces a1 a2 = some q0) : MJi l yX7_look wsX7_look rmX7_look D c (wM c m0 M M_thrown M_waters M_windX M_windY M_barrels M_crew M_waterTable M_fixed M_table M_strength M_wear M_people M_numbers M_pieces M_used M_from M_line M_is) [.ref m0, .int a1, .int a2] (fun (r : Int32) (_ : Nat → Nat) => r = q0.1) (fun u => (wM c m0 u M_thrown M_waters M_windX M_windY M_barrels M_crew M_waterTable M_fixed M_table M_strength M_wear M_people M_numbers q0.2 M_used M_from M_line M_is)) 6 1296 := by
  refine MJi_of (cc := cX7_look) (nL := 5) RX7 rfl (by decide) rfl (Nat.le_of_ble_eq_true rfl) (fun g C ret => ?_)
  unfold jX7_look at h
  refine vv_lv [0, 1, 2] [(0, .ref m0), (1, .int a1), (2, .int a2)] rfl ?_
  refine vv_aload_n C dX7_look_0 rfl 0 rfl 1 rfl ?_
  refine vv_callJr C (fun l => mt_X7_kept l D c m0 M M_thrown M_waters M_windX M_windY M_barrels M_crew M_waterTable M_fixed M_table M_strength M_wear M_people M_numbers M_pieces M_used M_from M_line M_is) gX7_look_X7_kept rfl rfl rfl yd_X7_kept ⟨Nat.le_of_ble_eq_true rfl, Nat.le_of_ble_eq_true rfl⟩ [0, 1, 2, 3, 4, 5, 6, 7, 8, 9, 10, 11, 12] [] [] rfl (by decide) rfl (by decide) (by decide) 0 rfl rfl rfl [] rfl (Nat.le_of_ble_eq_true rfl) ⟨Nat.le_of_ble_eq_true rfl, Nat.le_of_ble_eq_true rfl⟩ dX7_look_1 4 6 1296 rfl ⟨rfl, rfl⟩ (fun u1 _ => ?_)
  refine vv_astore_n C [(3, .ref (u1 0)), (0, .ref m0), (1, .int a1), (2, .int a2)] dX7_look_4 rfl (by decide) rfl 5 rfl ?_
  refine vv_iconst C (v := 0) dX7_look_5 (by decide) 6 rfl ?_
  refine vv_istore C [(4, .int 0), (3, .ref (u1 0)), (0, .ref m0), (1, .int a1), (2, .int a2)] dX7_look_6 (by decide) rfl 8 rfl ?_
  refine vv_lv [2, 3, 4, 1, 0] [(0, .ref m0), (1, .int a1), (2, .int a2), (3, .ref (u1 0)), (4, .int 0)] rfl ?_
  have L8 : ∀ (n : Nat) (M_table_8 : Nat → Int32) (M_strength_8 : Nat → Int32) (M_wear_8 : Nat → Int32) (M_people_8 : Nat → Int32) (M_numbers_8 : Nat → Int32) (M_pieces_8 : Nat → Int32) (v4_8 : Int32) (q8 : (Nat → Int32) × (Nat → Int32) × (Nat → Int32) × (Nat → Int32) × (Nat → Int32) × (Nat → Int32)), jX7_look_L8 M_waters M_windX M_windY M_barrels M_crew M_waterTable M_fixed a1 n M_table_8 M_strength_8 M_wear_8 M_people_8 M_numbers_8 M_pieces_8 v4_8 = some q8 → (VV g D 5 6 1296 ((wM c m0 M M_thrown M_waters M_windX M_windY M_barrels M_crew M_waterTable M_fixed q8.1 q8.2.1 q8.2.2.1 q8.2.2.2.1 q8.2.2.2.2.1 q8.2.2.2.2.2 M_used M_from M_line M_is) ++ [aR c (u1 0) 5 (kF u1), aI c (u1 1) 120 M_table, aI c (u1 2) 576 M_strength, aI c (u1 3) 576 M_wear, aI c (u1 4) 16 M_people, aI c (u1 5) 3 M_numbers]) [(0, .ref m0), (2, .int a2), (3, .ref (u1 0))] 25 []) → VV g D 5 6 1296 ((wM c m0 M M_thrown M_waters M_windX M_windY M_barrels M_crew M_waterTable M_fixed M_table_8 M_strength_8 M_wear_8 M_people_8 M_numbers_8 M_pieces_8 M_used M_from M_line M_is) ++ [aR c (u1 0) 5 (kF u1), aI c (u1 1) 120 M_table, aI c (u1 2) 576 M_strength, aI c (u1 3) 576 M_wear, aI c (u1 4) 16 M_people, aI c (u1 5) 3 M_numbers]) [(0, .ref m0), (1, .int a1), (2, .int a2), (3, .ref (u1 0)), (4, .int v4_8)] 8 [] := by
    intro n
    induction n with
    | zero =>
      intro M_table_8 M_strength_8 M_wear_8 M_people_8 M_numbers_8 M_pieces_8 v4_8 q8 h _
      rw [jX7_look_L8] at h
      cases h
    | succ n ih8 =>
      intro M_table_8 M_strength_8 M_wear_8 M_people_8 M_numbers_8 M_pieces_8 v4_8 q8 h kk8
      rw [jX7_look_L8] at h
      refine vv_iload C dX7_look_8 4 rfl 10 rfl ?_
      refine vv_iload_n C dX7_look_10 rfl 1 rfl 11 rfl ?_
      refine vv_icmp_ge C 25 14 dX7_look_11 (by decide) rfl (fun hc => ?_) (fun hc => ?_)
      · replace h := ite_t hc h
        refine vv_lv [0, 2, 3] [(0, .ref m0), (2, .int a2), (3, .ref (u1 0))] rfl ?_
        obtain rfl := Option.some.inj h
        exact kk8
      · replace h := ite_f hc h
        refine vv_aload_n C dX7_look_14 rfl 0 rfl 15 rfl ?_
        obtain ⟨r1, hr1, h⟩ := bnd_s h
        refine vv_callVi C (fun l => mt_X7_hourOn l D c (mA m0 M) M_thrown M_waters M_windX M_windY M_barrels M_crew M_waterTable M_fixed M_table_8 M_strength_8 M_wear_8 M_people_8 M_numbers_8 M_pieces_8 r1 hr1) gX7_look_X7_hourOn rfl rfl rfl yd_X7_hourOn ⟨Nat.le_of_ble_eq_true rfl, Nat.le_of_ble_eq_true rfl⟩ [0, 1, 2, 3, 4, 5, 6, 7, 8] rfl (by decide) 0 rfl rfl ((wM c m0 M M_thrown M_waters M_windX M_windY M_barrels M_crew M_waterTable M_fixed r1.2.1 r1.2.2.1 r1.2.2.2.1 r1.2.2.2.2.1 r1.2.2.2.2.2.1 r1.2.2.2.2.2.2 M_used M_from M_line M_is) ++ [aR c (u1 0) 5 (kF u1), aI c (u1 1) 120 M_table, aI c (u1 2) 576 M_strength, aI c (u1 3) 576 M_wear, aI c (u1 4) 16 M_people, aI c (u1 5) 3 M_numbers]) [(true, 0), (true, 1), (true, 2), (true, 3), (true, 4), (true, 5), (true, 6), (true, 7), (true, 8), (false, 9), (false, 10), (false, 11), (false, 12), (false, 13), (false, 14), (false, 15), (false, 16), (false, 17), (false, 18)] rfl (by decide) rfl rfl [] rfl (Nat.le_of_ble_eq_true rfl) ⟨Nat.le_of_ble_eq_true rfl, Nat.le_of_ble_eq_true rfl⟩ dX7_look_15 18 6 1296 rfl ⟨rfl, rfl⟩ ?_
        refine vv_pop C dX7_look_18 rfl 19 rfl ?_
        refine vv_iinc C (k := 4) [(4, .int (v4_8 + 1)), (0, .ref m0), (1, .int a1), (2, .int a2), (3, .ref (u1 0))] dX7_look_19 rfl rfl (by decide) rfl 22 rfl ?_
        refine vv_goto C 8 dX7_look_22 (by decide) ?_
        refine vv_lv [1, 2, 3, 4, 0] [(0, .ref m0), (1, .int a1), (2, .int a2), (3, .ref (u1 0)), (4, .int (v4_8 + 1))] rfl ?_
        exact ih8 r1.2.1 r1.2.2.1 r1.2.2.2.1 r1.2.2.2.2.1 r1.2.2.2.2.2.1 r1.2.2.2.2.2.2 (v4_8 + 1) _ h kk8
  obtain ⟨r2, hr2, h⟩ := bnd_s h
  refine L8 FU M_table M_strength M_wear M_people M_numbers M_pieces 0 r2 hr2 ?_
  refine vv_aload_n C dX7_look_25 rfl 0 rfl 26 rfl ?_
  refine vv_iload_n C dX7_look_26 rfl 1 rfl 27 rfl ?_
  refine vv_if_ne C 34 30 dX7_look_27 (by decide) rfl (fun hc => ?_) (fun hc => ?_)
  · replace h := ite_f hc h
    refine vv_iload_n C dX7_look_34 rfl 1 rfl 35 rfl ?_
    refine vv_iconst C (v := 1) dX7_look_35 (by decide) 36 rfl ?_
    refine vv_icmp_ne C 44 39 dX7_look_36 (by decide) rfl (fun hc => ?_) (fun hc => ?_)
    · replace h := ite_f hc h
      refine vv_iload_n C dX7_look_44 rfl 1 rfl 45 rfl ?_
      refine vv_iconst C (v := 2) dX7_look_45 (by decide) 46 rfl ?_
      refine vv_icmp_ne C 54 49 dX7_look_46 (by decide) rfl (fun hc => ?_) (fun hc => ?_)
      · replace h := ite_f hc h
        refine vv_bipush C (v := 7) dX7_look_54 (by decide) 56 rfl ?_
        obtain ⟨r3, hr3, h⟩ := bnd_s h
        refine vv_callVi C (fun l => mt_X7_counted l D c (mA m0 M) M_thrown M_waters M_windX M_windY M_barrels M_crew r2.1 r2.2.1 r2.2.2.2.1 r2.2.2.2.2.1 r2.2.2.2.2.2 7 r3 hr3) gX7_look_X7_counted rfl rfl rfl yd_X7_counted ⟨Nat.le_of_ble_eq_true rfl, Nat.le_of_ble_eq_true rfl⟩ [0, 3, 4, 6, 7, 8] rfl (by decide) 0 rfl rfl ((wM c m0 M M_thrown M_waters M_windX M_windY M_barrels M_crew M_waterTable M_fixed r2.1 r2.2.1 r2.2.2.1 r2.2.2.2.1 r2.2.2.2.2.1 r3.2 M_used M_from M_line M_is) ++ [aR c (u1 0) 5 (kF u1), aI c (u1 1) 120 M_table, aI c (u1 2) 576 M_strength, aI c (u1 3) 576 M_wear, aI c (u1 4) 16 M_people, aI c (u1 5) 3 M_numbers]) [(true, 0), (false, 1), (false, 2), (true, 1), (true, 2), (false, 5), (true, 3), (true, 4), (true, 5), (false, 9), (false, 10), (false, 11), (false, 12), (false, 13), (false, 14), (false, 15), (false, 16), (false, 17), (false, 18)] rfl (by decide) rfl rfl [] rfl (Nat.le_of_ble_eq_true rfl) ⟨Nat.le_of_ble_eq_true rfl, Nat.le_of_ble_eq_true rfl⟩ dX7_look_56 59 6 1296 rfl ⟨rfl, rfl⟩ ?_
        refine vv_istore C [(4, .int r3.1), (0, .ref m0), (2, .int a2), (3, .ref (u1 0))] dX7_look_59 (by decide) rfl 61 rfl ?_
        refine vv_aload_n C dX7_look_61 rfl 1 rfl 62 rfl ?_
        refine vv_aload_n C dX7_look_62 rfl 3 rfl 63 rfl ?_
        refine vv_callJv C (fun l => mt_X7_bringBack l D c m0 M u1 M_thrown M_waters M_windX M_windY M_barrels M_crew M_waterTable M_fixed r2.1 r2.2.1 r2.2.2.1 r2.2.2.2.1 r2.2.2.2.2.1 r3.2 M_used M_from M_line M_is M_table M_strength M_wear M_people M_numbers) gX7_look_X7_bringBack rfl rfl rfl yd_X7_bringBack ⟨Nat.le_of_ble_eq_true rfl, Nat.le_of_ble_eq_true rfl⟩ [0, 1, 2, 3, 4, 5, 6, 7, 8, 9, 10, 11, 12, 13, 14, 15, 16, 17, 18] [] [] rfl (by decide) rfl (by decide) (by decide) 0 rfl rfl rfl [] rfl (Nat.le_of_ble_eq_true rfl) ⟨Nat.le_of_ble_eq_true rfl, Nat.le_of_ble_eq_true rfl⟩ dX7_look_63 66 6 1296 rfl ⟨rfl, rfl⟩ (fun _ _ => ?_)
        refine vv_lv [0, 1, 2] [(4, .int r3.1), (0, .ref m0), (2, .int a2)] rfl ?_
        refine vv_iload C dX7_look_66 0 rfl 68 rfl ?_
        obtain rfl := Option.some.inj h
        exact ret (mB M u1) _ rfl _ _ dX7_look_68
      · replace h := ite_t hc h
        refine vv_bipush C (v := 8) dX7_look_49 (by decide) 51 rfl ?_
        refine vv_goto C 56 dX7_look_51 (by decide) ?_
        obtain ⟨r4, hr4, h⟩ := bnd_s h
        refine vv_callVi C (fun l => mt_X7_counted l D c (mA m0 M) M_thrown M_waters M_windX M_windY M_barrels M_crew r2.1 r2.2.1 r2.2.2.2.1 r2.2.2.2.2.1 r2.2.2.2.2.2 8 r4 hr4) gX7_look_X7_counted rfl rfl rfl yd_X7_counted ⟨Nat.le_of_ble_eq_true rfl, Nat.le_of_ble_eq_true rfl⟩ [0, 3, 4, 6, 7, 8] rfl (by decide) 0 rfl rfl ((wM c m0 M M_thrown M_waters M_windX M_windY M_barrels M_crew M_waterTable M_fixed r2.1 r2.2.1 r2.2.2.1 r2.2.2.2.1 r2.2.2.2.2.1 r4.2 M_used M_from M_line M_is) ++ [aR c (u1 0) 5 (kF u1), aI c (u1 1) 120 M_table, aI c (u1 2) 576 M_strength, aI c (u1 3) 576 M_wear, aI c (u1 4) 16 M_people, aI c (u1 5) 3 M_numbers]) [(true, 0), (false, 1), (false, 2), (true, 1), (true, 2), (false, 5), (true, 3), (true, 4), (true, 5), (false, 9), (false, 10), (false, 11), (false, 12), (false, 13), (false, 14), (false, 15), (false, 16), (false, 17), (false, 18)] rfl (by decide) rfl rfl [] rfl (Nat.le_of_ble_eq_true rfl) ⟨Nat.le_of_ble_eq_true rfl, Nat.le_of_ble_eq_true rfl⟩ dX7_look_56 59 6 1296 rfl ⟨rfl, rfl⟩ ?_
        refine vv_istore C [(4, .int r4.1), (0, .ref m0), (2, .int a2), (3, .ref (u1 0))] dX7_look_59 (by decide) rfl 61 rfl ?_
        refine vv_aload_n C dX7_look_61 rfl 1 rfl 62 rfl ?_
        refine vv_aload_n C dX7_look_62 rfl 3 rfl 63 rfl ?_
        refine vv_callJv C (fun l => mt_X7_bringBack l D c m0 M u1 M_thrown M_waters M_windX M_windY M_barrels M_crew M_waterTable M_fixed r2.1 r2.2.1 r2.2.2.1 r2.2.2.2.1 r2.2.2.2.2.1 r4.2 M_used M_from M_line M_is M_table M_strength M_wear M_people M_numbers) gX7_look_X7_bringBack rfl rfl rfl yd_X7_bringBack ⟨Nat.le_of_ble_eq_true rfl, Nat.le_of_ble_eq_true rfl⟩ [0, 1, 2, 3, 4, 5, 6, 7, 8, 9, 10, 11, 12, 13, 14, 15, 16, 17, 18] [] [] rfl (by decide) rfl (by decide) (by decide) 0 rfl rfl rfl [] rfl (Nat.le_of_ble_eq_true rfl) ⟨Nat.le_of_ble_eq_true rfl, Nat.le_of_ble_eq_true rfl⟩ dX7_look_63 66 6 1296 rfl ⟨rfl, rfl⟩ (fun _ _ => ?_)
        refine vv_lv [0, 1, 2] [(4, .int r4.1), (0, .ref m0), (2, .int a2)] rfl ?_
        refine vv_iload C dX7_look_66 0 rfl 68 rfl ?_
        obtain rfl := Option.some.inj h
        exact ret (mB M u1) _ rfl _ _ dX7_look_68
    · replace h := ite_t hc h
      refine vv_bipush C (v := 6) dX7_look_39 (by decide) 41 rfl ?_
      refine vv_goto C 56 dX7_look_41 (by decide) ?_
      obtain ⟨r5, hr5, h⟩ := bnd_s h
      refine vv_callVi C (fun l => mt_X7_counted l D c (mA m0 M) M_thrown M_waters M_windX M_windY M_barrels M_crew r2.1 r2.2.1 r2.2.2.2.1 r2.2.2.2.2.1 r2.2.2.2.2.2 6 r5 hr5) gX7_look_X7_counted rfl rfl rfl yd_X7_counted ⟨Nat.le_of_ble_eq_true rfl, Nat.le_of_ble_eq_true rfl⟩ [0, 3, 4, 6, 7, 8] rfl (by decide) 0 rfl rfl ((wM c m0 M M_thrown M_waters M_windX M_windY M_barrels M_crew M_waterTable M_fixed r2.1 r2.2.1 r2.2.2.1 r2.2.2.2.1 r2.2.2.2.2.1 r5.2 M_used M_from M_line M_is) ++ [aR c (u1 0) 5 (kF u1), aI c (u1 1) 120 M_table, aI c (u1 2) 576 M_strength, aI c (u1 3) 576 M_wear, aI c (u1 4) 16 M_people, aI c (u1 5) 3 M_numbers]) [(true, 0), (false, 1), (false, 2), (true, 1), (true, 2), (false, 5), (true, 3), (true, 4), (true, 5), (false, 9), (false, 10), (false, 11), (false, 12), (false, 13), (false, 14), (false, 15), (false, 16), (false, 17), (false, 18)] rfl (by decide) rfl rfl [] rfl (Nat.le_of_ble_eq_true rfl) ⟨Nat.le_of_ble_eq_true rfl, Nat.le_of_ble_eq_true rfl⟩ dX7_look_56 59 6 1296 rfl ⟨rfl, rfl⟩ ?_
      refine vv_istore C [(4, .int r5.1), (0, .ref m0), (2, .int a2), (3, .ref (u1 0))] dX7_look_59 (by decide) rfl 61 rfl ?_
      refine vv_aload_n C dX7_look_61 rfl 1 rfl 62 rfl ?_
      refine vv_aload_n C dX7_look_62 rfl 3 rfl 63 rfl ?_
      refine vv_callJv C (fun l => mt_X7_bringBack l D c m0 M u1 M_thrown M_waters M_windX M_windY M_barrels M_crew M_waterTable M_fixed r2.1 r2.2.1 r2.2.2.1 r2.2.2.2.1 r2.2.2.2.2.1 r5.2 M_used M_from M_line M_is M_table M_strength M_wear M_people M_numbers) gX7_look_X7_bringBack rfl rfl rfl yd_X7_bringBack ⟨Nat.le_of_ble_eq_true rfl, Nat.le_of_ble_eq_true rfl⟩ [0, 1, 2, 3, 4, 5, 6, 7, 8, 9, 10, 11, 12, 13, 14, 15, 16, 17, 18] [] [] rfl (by decide) rfl (by decide) (by decide) 0 rfl rfl rfl [] rfl (Nat.le_of_ble_eq_true rfl) ⟨Nat.le_of_ble_eq_true rfl, Nat.le_of_ble_eq_true rfl⟩ dX7_look_63 66 6 1296 rfl ⟨rfl, rfl⟩ (fun _ _ => ?_)
      refine vv_lv [0, 1, 2] [(4, .int r5.1), (0, .ref m0), (2, .int a2)] rfl ?_
      refine vv_iload C dX7_look_66 0 rfl 68 rfl ?_
      obtain rfl := Option.some.inj h
      exact ret (mB M u1) _ rfl _ _ dX7_look_68
  · replace h := ite_t hc h
    refine vv_iconst C (v := 2) dX7_look_30 (by decide) 31 rfl ?_
    refine vv_goto C 56 dX7_look_31 (by decide) ?_
    obtain ⟨r6, hr6, h⟩ := bnd_s h
    refine vv_callVi C (fun l => mt_X7_counted l D c (mA m0 M) M_thrown M_waters M_windX M_windY M_barrels M_crew r2.1 r2.2.1 r2.2.2.2.1 r2.2.2.2.2.1 r2.2.2.2.2.2 2 r6 hr6) gX7_look_X7_counted rfl rfl rfl yd_X7_counted ⟨Nat.le_of_ble_eq_true rfl, Nat.le_of_ble_eq_true rfl⟩ [0, 3, 4, 6, 7, 8] rfl (by decide) 0 rfl rfl ((wM c m0 M M_thrown M_waters M_windX M_windY M_barrels M_crew M_waterTable M_fixed r2.1 r2.2.1 r2.2.2.1 r2.2.2.2.1 r2.2.2.2.2.1 r6.2 M_used M_from M_line M_is) ++ [aR c (u1 0) 5 (kF u1), aI c (u1 1) 120 M_table, aI c (u1 2) 576 M_strength, aI c (u1 3) 576 M_wear, aI c (u1 4) 16 M_people, aI c (u1 5) 3 M_numbers]) [(true, 0), (false, 1), (false, 2), (true, 1), (true, 2), (false, 5), (true, 3), (true, 4), (true, 5), (false, 9), (false, 10), (false, 11), (false, 12), (false, 13), (false, 14), (false, 15), (false, 16), (false, 17), (false, 18)] rfl (by decide) rfl rfl [] rfl (Nat.le_of_ble_eq_true rfl) ⟨Nat.le_of_ble_eq_true rfl, Nat.le_of_ble_eq_true rfl⟩ dX7_look_56 59 6 1296 rfl ⟨rfl, rfl⟩ ?_
    refine vv_istore C [(4, .int r6.1), (0, .ref m0), (2, .int a2), (3, .ref (u1 0))] dX7_look_59 (by decide) rfl 61 rfl ?_
    refine vv_aload_n C dX7_look_61 rfl 1 rfl 62 rfl ?_
    refine vv_aload_n C dX7_look_62 rfl 3 rfl 63 rfl ?_
    refine vv_callJv C (fun l => mt_X7_bringBack l D c m0 M u1 M_thrown M_waters M_windX M_windY M_barrels M_crew M_waterTable M_fixed r2.1 r2.2.1 r2.2.2.1 r2.2.2.2.1 r2.2.2.2.2.1 r6.2 M_used M_from M_line M_is M_table M_strength M_wear M_people M_numbers) gX7_look_X7_bringBack rfl rfl rfl yd_X7_bringBack ⟨Nat.le_of_ble_eq_true rfl, Nat.le_of_ble_eq_true rfl⟩ [0, 1, 2, 3, 4, 5, 6, 7, 8, 9, 10, 11, 12, 13, 14, 15, 16, 17, 18] [] [] rfl (by decide) rfl (by decide) (by decide) 0 rfl rfl rfl [] rfl (Nat.le_of_ble_eq_true rfl) ⟨Nat.le_of_ble_eq_true rfl, Nat.le_of_ble_eq_true rfl⟩ dX7_look_63 66 6 1296 rfl ⟨rfl, rfl⟩ (fun _ _ => ?_)
    refine vv_lv [0, 1, 2] [(4, .int r6.1), (0, .ref m0), (2, .int a2)] rfl ?_
    refine vv_iload C dX7_look_66 0 rfl 68 rfl ?_
    obtain rfl := Option.some.inj h
    exact ret (mB M u1) _ rfl _ _ dX7_look_68
abbrev rmX7_foresee : Room := { frames := 6, cells := 6, slots := 1296, locals := 143 }
theorem yd_X7_foresee : yX7_foresee.cls = RX7 ∧ yX7_foresee.cls ≠ "java/lang/invoke/MethodHandle" ∧ yX7_foresee.cls ≠ "java/lang/invoke/VarHandle" ∧ (parseMethodDescriptor yX7_foresee.desc).map (fun d => d.parameters.length) = some 2 := by decide +kernel
theorem kwX7_foresee_1 : Cond.fieldLink RX7 47 "BarrelRaftModel" "thrown" "I" ∈ wsX7_foresee := List.mem_of_getElem? (i := 1) rfl
set_option maxRecDepth 20000 in
theorem kinX7_foresee_X7 : ∀ w ∈ u_ws RX7 TX7 18, w ∈ wsX7_foresee := by decide +kernel
def jX7_foresee (M_thrown : Int32) (M_waters : Int32) (M_windX : Int32) (M_windY : Int32) (M_barrels : Int32) (M_crew : Int32) (M_waterTable : Nat → Int32) (M_fixed : Nat → Int32) (M_table : Nat → Int32) (M_strength : Nat → Int32) (M_wear : Nat → Int32) (M_people : Nat → Int32) (M_numbers : Nat → Int32) (M_pieces : Nat → Int32) (a1 : Int32) (a2 : Int32) : Option (Int32 × Int32 × (Nat → Int32)) :=
  bnd (jX7_isIn a1 1 100) (fun r1 => (if r1 = 0 then bnd (jX7_fail 0 1) (fun r5 => some (r5.1, r5.2, M_pieces)) else bnd (jX7_isIn a2 0 3) (fun r2 => (if r2 = 0 then bnd (jX7_fail 0 2) (fun r3 => some (r3.1, r3.2, M_pieces)) else bnd (jX7_look M_waters M_windX M_windY M_barrels M_crew M_waterTable M_fixed M_table M_strength M_wear M_people M_numbers M_pieces a1 a2) (fun r4 => some (r4.1, 0, r4.2))))))
set_option maxHeartbeats 4000000 in
set_option maxRecDepth 100000 in
theorem mt_X7_foresee (l : Launch) (D : va_G) (c : Nat → ClassId) (m0 : Nat) (M : Nat → Nat) (M_thrown : Int32) (M_waters : Int32) (M_windX : Int32) (M_windY : Int32) (M_barrels : Int32) (M_crew : Int32) (M_waterTable : Nat → Int32) (M_fixed : Nat → Int32) (M_table : Nat → Int32) (M_strength : Nat → Int32) (M_wear : Nat → Int32) (M_people : Nat → Int32) (M_numbers : Nat → Int32) (M_pieces : Nat → Int32) (M_used : Nat → Int32) (M_from : Nat → Int32) (M_line : Nat → Int32) (M_is : Nat → Int32) (a1 : Int32) (a2 : Int32) (q0 : Int32 × Int32 × (Nat → Int32)) (h : jX7_foresee M_thrown M_waters M_windX M_windY M_barrels M_crew M_waterTable M_fixed M_table M_strength M_wear M_people M_numbers M_pieces a1 a2 = some q0) : MJi l yX7_foresee wsX7_foresee rmX7_foresee D c (wM c m0 M M_thrown M_waters M_windX M_windY M_barrels M_crew M_waterTable M_fixed M_table M_strength M_wear M_people M_numbers M_pieces M_used M_from M_line M_is) [.ref m0, .int a1, .int a2] (fun (r : Int32) (_ : Nat → Nat) => r = q0.1) (fun u => (wM c m0 u q0.2.1 M_waters M_windX M_windY M_barrels M_crew M_waterTable M_fixed M_table M_strength M_wear M_people M_numbers q0.2.2 M_used M_from M_line M_is)) 6 1296 := by
  refine MJi_of (cc := cX7_foresee) (nL := 3) RX7 rfl (by decide) rfl (Nat.le_of_ble_eq_true rfl) (fun g C ret => ?_)
  unfold jX7_foresee at h
  refine vv_lv [0, 1, 2] [(0, .ref m0), (1, .int a1), (2, .int a2)] rfl ?_
  refine vv_aload_n C dX7_foresee_0 rfl 0 rfl 1 rfl ?_
  refine vv_iconst C (v := 0) dX7_foresee_1 (by decide) 2 rfl ?_
  refine vv_put C (q0 := 0) (ci := 7) (k := 0) (ty := .int) (wM c m0 M 0 M_waters M_windX M_windY M_barrels M_crew M_waterTable M_fixed M_table M_strength M_wear M_people M_numbers M_pieces M_used M_from M_line M_is) tyX7 tyX7_ok nmX7 kinX7_foresee_X7 rfl rfl (by decide) kwX7_foresee_1 rfl rfl rfl rfl rfl (Nat.le_of_ble_eq_true rfl) rfl dX7_foresee_2 5 rfl ?_
  refine vv_iload_n C dX7_foresee_5 rfl 1 rfl 6 rfl ?_
  refine vv_iconst C (v := 1) dX7_foresee_6 (by decide) 7 rfl ?_
  refine vv_bipush C (v := 100) dX7_foresee_7 (by decide) 9 rfl ?_
  obtain ⟨r1, hr1, h⟩ := bnd_s h
  refine vv_callSi C (fun l => mt_X7_isIn l D c a1 1 100 r1 hr1) gX7_foresee_X7_isIn rfl rfl rfl yd_X7_isIn ⟨Nat.le_of_ble_eq_true rfl, Nat.le_of_ble_eq_true rfl⟩ [] rfl (by decide) (wM c m0 M 0 M_waters M_windX M_windY M_barrels M_crew M_waterTable M_fixed M_table M_strength M_wear M_people M_numbers M_pieces M_used M_from M_line M_is) [(false, 0), (false, 1), (false, 2), (false, 3), (false, 4), (false, 5), (false, 6), (false, 7), (false, 8), (false, 9), (false, 10), (false, 11), (false, 12)] rfl (by decide) rfl rfl [] rfl (Nat.le_of_ble_eq_true rfl) ⟨Nat.le_of_ble_eq_true rfl, Nat.le_of_ble_eq_true rfl⟩ dX7_foresee_9 12 0 0 rfl ⟨rfl, rfl⟩ ?_
  refine vv_if_ne C 21 15 dX7_foresee_12 (by decide) rfl (fun hc => ?_) (fun hc => ?_)
  · replace h := ite_f hc h
    refine vv_iload_n C dX7_foresee_21 rfl 2 rfl 22 rfl ?_
    refine vv_iconst C (v := 0) dX7_foresee_22 (by decide) 23 rfl ?_
    refine vv_iconst C (v := 3) dX7_foresee_23 (by decide) 24 rfl ?_
    obtain ⟨r2, hr2, h⟩ := bnd_s h
    refine vv_callSi C (fun l => mt_X7_isIn l D c a2 0 3 r2 hr2) gX7_foresee_X7_isIn rfl rfl rfl yd_X7_isIn ⟨Nat.le_of_ble_eq_true rfl, Nat.le_of_ble_eq_true rfl⟩ [] rfl (by decide) (wM c m0 M 0 M_waters M_windX M_windY M_barrels M_crew M_waterTable M_fixed M_table M_strength M_wear M_people M_numbers M_pieces M_used M_from M_line M_is) [(false, 0), (false, 1), (false, 2), (false, 3), (false, 4), (false, 5), (false, 6), (false, 7), (false, 8), (false, 9), (false, 10), (false, 11), (false, 12)] rfl (by decide) rfl rfl [] rfl (Nat.le_of_ble_eq_true rfl) ⟨Nat.le_of_ble_eq_true rfl, Nat.le_of_ble_eq_true rfl⟩ dX7_foresee_24 27 0 0 rfl ⟨rfl, rfl⟩ ?_
    refine vv_if_eq C 39 30 dX7_foresee_27 (by decide) rfl (fun hc => ?_) (fun hc => ?_)
    · replace h := ite_t hc h
      refine vv_aload_n C dX7_foresee_39 rfl 0 rfl 40 rfl ?_
      refine vv_iconst C (v := 2) dX7_foresee_40 (by decide) 41 rfl ?_
      obtain ⟨r3, hr3, h⟩ := bnd_s h
      refine vv_callVi C (fun l => mt_X7_fail l D c (mA m0 M) 0 M_waters M_windX M_windY M_barrels M_crew 2 r3 hr3) gX7_foresee_X7_fail rfl rfl rfl yd_X7_fail ⟨Nat.le_of_ble_eq_true rfl, Nat.le_of_ble_eq_true rfl⟩ [0] rfl (by decide) 0 rfl rfl (wM c m0 M r3.2 M_waters M_windX M_windY M_barrels M_crew M_waterTable M_fixed M_table M_strength M_wear M_people M_numbers M_pieces M_used M_from M_line M_is) [(true, 0), (false, 1), (false, 2), (false, 3), (false, 4), (false, 5), (false, 6), (false, 7), (false, 8), (false, 9), (false, 10), (false, 11), (false, 12)] rfl (by decide) rfl rfl [] rfl (Nat.le_of_ble_eq_true rfl) ⟨Nat.le_of_ble_eq_true rfl, Nat.le_of_ble_eq_true rfl⟩ dX7_foresee_41 44 0 0 rfl ⟨rfl, rfl⟩ ?_
      obtain rfl := Option.some.inj h
      refine vv_widen (k := 6) (n := 1296) (by decide) (by decide) ?_
      exact ret M _ rfl _ _ dX7_foresee_44
    · replace h := ite_f hc h
      refine vv_aload_n C dX7_foresee_30 rfl 0 rfl 31 rfl ?_
      refine vv_iload_n C dX7_foresee_31 rfl 1 rfl 32 rfl ?_
      refine vv_iload_n C dX7_foresee_32 rfl 2 rfl 33 rfl ?_
      obtain ⟨r4, hr4, h⟩ := bnd_s h
      refine vv_callJi C (fun l => mt_X7_look l D c m0 M 0 M_waters M_windX M_windY M_barrels M_crew M_waterTable M_fixed M_table M_strength M_wear M_people M_numbers M_pieces M_used M_from M_line M_is a1 a2 r4 hr4) gX7_foresee_X7_look rfl rfl rfl yd_X7_look ⟨Nat.le_of_ble_eq_true rfl, Nat.le_of_ble_eq_true rfl⟩ [0, 1, 2, 3, 4, 5, 6, 7, 8, 9, 10, 11, 12] [] [] rfl (by decide) rfl (by decide) (by decide) 0 rfl rfl rfl [] rfl (Nat.le_of_ble_eq_true rfl) ⟨Nat.le_of_ble_eq_true rfl, Nat.le_of_ble_eq_true rfl⟩ dX7_foresee_33 36 6 1296 rfl ⟨rfl, rfl⟩ (fun r_ u33 hr_ => ?_)
      subst hr_
      refine vv_goto C 44 dX7_foresee_36 (by decide) ?_
      obtain rfl := Option.some.inj h
      exact ret u33 _ rfl _ _ dX7_foresee_44
  · replace h := ite_t hc h
    refine vv_aload_n C dX7_foresee_15 rfl 0 rfl 16 rfl ?_
    refine vv_iconst C (v := 1) dX7_foresee_16 (by decide) 17 rfl ?_
    obtain ⟨r5, hr5, h⟩ := bnd_s h
    refine vv_callVi C (fun l => mt_X7_fail l D c (mA m0 M) 0 M_waters M_windX M_windY M_barrels M_crew 1 r5 hr5) gX7_foresee_X7_fail rfl rfl rfl yd_X7_fail ⟨Nat.le_of_ble_eq_true rfl, Nat.le_of_ble_eq_true rfl⟩ [0] rfl (by decide) 0 rfl rfl (wM c m0 M r5.2 M_waters M_windX M_windY M_barrels M_crew M_waterTable M_fixed M_table M_strength M_wear M_people M_numbers M_pieces M_used M_from M_line M_is) [(true, 0), (false, 1), (false, 2), (false, 3), (false, 4), (false, 5), (false, 6), (false, 7), (false, 8), (false, 9), (false, 10), (false, 11), (false, 12)] rfl (by decide) rfl rfl [] rfl (Nat.le_of_ble_eq_true rfl) ⟨Nat.le_of_ble_eq_true rfl, Nat.le_of_ble_eq_true rfl⟩ dX7_foresee_17 20 0 0 rfl ⟨rfl, rfl⟩ ?_
    obtain rfl := Option.some.inj h
    refine vv_widen (k := 6) (n := 1296) (by decide) (by decide) ?_
    exact ret M _ rfl _ _ dX7_foresee_20
abbrev rmX7_advise (K : Nat) : Room := { frames := 6, cells := (6 * K + 6), slots := (1296 * K + 1296), locals := 143 }
theorem yd_X7_advise : yX7_advise.cls = RX7 ∧ yX7_advise.cls ≠ "java/lang/invoke/MethodHandle" ∧ yX7_advise.cls ≠ "java/lang/invoke/VarHandle" ∧ (parseMethodDescriptor yX7_advise.desc).map (fun d => d.parameters.length) = some 1 := by decide +kernel
theorem kwX7_advise_1 : Cond.fieldLink RX7 47 "BarrelRaftModel" "thrown" "I" ∈ wsX7_advise := List.mem_of_getElem? (i := 1) rfl
set_option maxRecDepth 20000 in
theorem kinX7_advise_X7 : ∀ w ∈ u_ws RX7 TX7 18, w ∈ wsX7_advise := by decide +kernel
theorem kwX7_advise_2 : Cond.fieldLink RX7 19 "BarrelRaftModel" "strength" "[I" ∈ wsX7_advise := List.mem_of_getElem? (i := 2) rfl
theorem kwX7_advise_3 : Cond.fieldLink RX7 22 "BarrelRaftModel" "wear" "[I" ∈ wsX7_advise := List.mem_of_getElem? (i := 3) rfl
def jX7_advise_L33 (M_waters : Int32) (M_windX : Int32) (M_windY : Int32) (M_barrels : Int32) (M_crew : Int32) (M_waterTable : Nat → Int32) (M_fixed : Nat → Int32) (M_table : Nat → Int32) (M_people : Nat → Int32) (M_numbers : Nat → Int32) (u1 : Int32) (n : Nat) (bu : Nat) (M_strength_33 : Nat → Int32) (M_wear_33 : Nat → Int32) (M_pieces_33 : Nat → Int32) (v2_33 : Int32) (v3_33 : Int32) (v4_33 : Int32) : Option ((Nat → Int32) × (Nat → Int32) × (Nat → Int32) × Int32) :=
  match n with
  | 0 => none
  | n + 1 => (if 576 ≤ v4_33 then some (M_strength_33, M_wear_33, M_pieces_33, v2_33) else chk 576 v4_33 ((if rd M_strength_33 v4_33 = 0 then jX7_advise_L33 M_waters M_windX M_windY M_barrels M_crew M_waterTable M_fixed M_table M_people M_numbers u1 n bu M_strength_33 M_wear_33 M_pieces_33 v2_33 v3_33 (v4_33 + 1) else chk 576 v4_33 (chk 576 v4_33 (chk 576 v4_33 (chk 576 v4_33 (bud bu (fun bu => bnd (jX7_look M_waters M_windX M_windY M_barrels M_crew M_waterTable M_fixed M_table (wr M_strength_33 v4_33 50) (wr M_wear_33 v4_33 0) M_people M_numbers M_pieces_33 u1 1) (fun r3 => chk 576 v4_33 (chk 576 v4_33 ((if v3_33 < r3.1 then jX7_advise_L33 M_waters M_windX M_windY M_barrels M_crew M_waterTable M_fixed M_table M_people M_numbers u1 n bu (wr (wr M_strength_33 v4_33 50) v4_33 (rd M_strength_33 v4_33)) (wr (wr M_wear_33 v4_33 0) v4_33 (rd M_wear_33 v4_33)) r3.2 v4_33 r3.1 (v4_33 + 1) else jX7_advise_L33 M_waters M_windX M_windY M_barrels M_crew M_waterTable M_fixed M_table M_people M_numbers u1 n bu (wr (wr M_strength_33 v4_33 50) v4_33 (rd M_strength_33 v4_33)) (wr (wr M_wear_33 v4_33 0) v4_33 (rd M_wear_33 v4_33)) r3.2 v2_33 v3_33 (v4_33 + 1)))))))))))))
def jX7_advise (K : Nat) (M_thrown : Int32) (M_waters : Int32) (M_windX : Int32) (M_windY : Int32) (M_barrels : Int32) (M_crew : Int32) (M_waterTable : Nat → Int32) (M_fixed : Nat → Int32) (M_table : Nat → Int32) (M_strength : Nat → Int32) (M_wear : Nat → Int32) (M_people : Nat → Int32) (M_numbers : Nat → Int32) (M_pieces : Nat → Int32) (a1 : Int32) : Option (Int32 × Int32 × (Nat → Int32) × (Nat → Int32) × (Nat → Int32)) :=
  bnd (jX7_isIn a1 1 50) (fun r1 => (if r1 = 0 then bnd (jX7_fail 0 1) (fun r5 => some (r5.1, r5.2, M_strength, M_wear, M_pieces)) else bnd (jX7_look M_waters M_windX M_windY M_barrels M_crew M_waterTable M_fixed M_table M_strength M_wear M_people M_numbers M_pieces a1 1) (fun r2 => bnd (jX7_advise_L33 M_waters M_windX M_windY M_barrels M_crew M_waterTable M_fixed M_table M_people M_numbers a1 FU K M_strength M_wear r2.2 (-1) r2.1 0) (fun r4 => some (r4.2.2.2, 0, r4.1, r4.2.1, r4.2.2.1)))))
set_option maxHeartbeats 4000000 in
set_option maxRecDepth 100000 in
theorem mt_X7_advise (l : Launch) (D : va_G) (c : Nat → ClassId) (K : Nat) (m0 : Nat) (M : Nat → Nat) (M_thrown : Int32) (M_waters : Int32) (M_windX : Int32) (M_windY : Int32) (M_barrels : Int32) (M_crew : Int32) (M_waterTable : Nat → Int32) (M_fixed : Nat → Int32) (M_table : Nat → Int32) (M_strength : Nat → Int32) (M_wear : Nat → Int32) (M_people : Nat → Int32) (M_numbers : Nat → Int32) (M_pieces : Nat → Int32) (M_used : Nat → Int32) (M_from : Nat → Int32) (M_line : Nat → Int32) (M_is : Nat → Int32) (a1 : Int32) (q0 : Int32 × Int32 × (Nat → Int32) × (Nat → Int32) × (Nat → Int32)) (h : jX7_advise K M_thrown M_waters M_windX M_windY M_barrels M_crew M_waterTable M_fixed M_table M_strength M_wear M_people M_numbers M_pieces a1 = some q0) : MJi l yX7_advise wsX7_advise (rmX7_advise K) D c (wM c m0 M M_thrown M_waters M_windX M_windY M_barrels M_crew M_waterTable M_fixed M_table M_strength M_wear M_people M_numbers M_pieces M_used M_from M_line M_is) [.ref m0, .int a1] (fun (r : Int32) (_ : Nat → Nat) => r = q0.1) (fun u => (wM c m0 u q0.2.1 M_waters M_windX M_windY M_barrels M_crew M_waterTable M_fixed M_table q0.2.2.1 q0.2.2.2.1 M_people M_numbers q0.2.2.2.2 M_used M_from M_line M_is)) (6 * K + 6) (1296 * K + 1296) := by
  refine MJi_of (cc := cX7_advise) (nL := 8) RX7 rfl (by decide) rfl (Nat.le_of_ble_eq_true rfl) (fun g C ret => ?_)
  unfold jX7_advise at h
  refine vv_lv [0, 1] [(0, .ref m0), (1, .int a1)] rfl ?_
  refine vv_aload_n C dX7_advise_0 rfl 0 rfl 1 rfl ?_
  refine vv_iconst C (v := 0) dX7_advise_1 (by decide) 2 rfl ?_
  refine vv_put C (q0 := 0) (ci := 7) (k := 0) (ty := .int) (wM c m0 M 0 M_waters M_windX M_windY M_barrels M_crew M_waterTable M_fixed M_table M_strength M_wear M_people M_numbers M_pieces M_used M_from M_line M_is) tyX7 tyX7_ok nmX7 kinX7_advise_X7 rfl rfl (by decide) kwX7_advise_1 rfl rfl rfl rfl rfl (Nat.le_of_ble_eq_true rfl) rfl dX7_advise_2 5 rfl ?_
  refine vv_iload_n C dX7_advise_5 rfl 1 rfl 6 rfl ?_
  refine vv_iconst C (v := 1) dX7_advise_6 (by decide) 7 rfl ?_
  refine vv_bipush C (v := 50) dX7_advise_7 (by decide) 9 rfl ?_
  obtain ⟨r1, hr1, h⟩ := bnd_s h
  refine vv_callSi C (fun l => mt_X7_isIn l D c a1 1 50 r1 hr1) gX7_advise_X7_isIn rfl rfl rfl yd_X7_isIn ⟨Nat.le_of_ble_eq_true rfl, Nat.le_of_ble_eq_true rfl⟩ [] rfl (by decide) (wM c m0 M 0 M_waters M_windX M_windY M_barrels M_crew M_waterTable M_fixed M_table M_strength M_wear M_people M_numbers M_pieces M_used M_from M_line M_is) [(false, 0), (false, 1), (false, 2), (false, 3), (false, 4), (false, 5), (false, 6), (false, 7), (false, 8), (false, 9), (false, 10), (false, 11), (false, 12)] rfl (by decide) rfl rfl [] rfl (Nat.le_of_ble_eq_true rfl) ⟨Nat.le_of_ble_eq_true rfl, Nat.le_of_ble_eq_true rfl⟩ dX7_advise_9 12 0 0 rfl ⟨rfl, rfl⟩ ?_
  refine vv_if_ne C 21 15 dX7_advise_12 (by decide) rfl (fun hc => ?_) (fun hc => ?_)
  · replace h := ite_f hc h
    refine vv_iconst C (v := (-1)) dX7_advise_21 (by decide) 22 rfl ?_
    refine vv_istore_n C [(2, .int (-1)), (0, .ref m0), (1, .int a1)] dX7_advise_22 rfl (by decide) rfl 23 rfl ?_
    refine vv_aload_n C dX7_advise_23 rfl 1 rfl 24 rfl ?_
    refine vv_iload_n C dX7_advise_24 rfl 2 rfl 25 rfl ?_
    refine vv_iconst C (v := 1) dX7_advise_25 (by decide) 26 rfl ?_
    obtain ⟨r2, hr2, h⟩ := bnd_s h
    refine vv_callJi C (fun l => mt_X7_look l D c m0 M 0 M_waters M_windX M_windY M_barrels M_crew M_waterTable M_fixed M_table M_strength M_wear M_people M_numbers M_pieces M_used M_from M_line M_is a1 1 r2 hr2) gX7_advise_X7_look rfl rfl rfl yd_X7_look ⟨Nat.le_of_ble_eq_true rfl, Nat.le_of_ble_eq_true rfl⟩ [0, 1, 2, 3, 4, 5, 6, 7, 8, 9, 10, 11, 12] [] [] rfl (by decide) rfl (by decide) (by decide) 0 rfl rfl rfl [] rfl (Nat.le_of_ble_eq_true rfl) ⟨show 0 + 6 ≤ 6 * K + 6 by omega, show 0 + 1296 ≤ 1296 * K + 1296 by omega⟩ dX7_advise_26 29 6 1296 rfl ⟨rfl, rfl⟩ (fun r_ u26 hr_ => ?_)
    subst hr_
    refine vv_istore_n C [(3, .int r2.1), (2, .int (-1)), (0, .ref m0), (1, .int a1)] dX7_advise_29 rfl (by decide) rfl 30 rfl ?_
    refine vv_iconst C (v := 0) dX7_advise_30 (by decide) 31 rfl ?_
    refine vv_istore C [(4, .int 0), (3, .int r2.1), (2, .int (-1)), (0, .ref m0), (1, .int a1)] dX7_advise_31 (by decide) rfl 33 rfl ?_
    refine vv_lv [3, 4, 2, 1, 0] [(0, .ref m0), (1, .int a1), (2, .int (-1)), (3, .int r2.1), (4, .int 0)] rfl ?_
    have L33 : ∀ (n : Nat) (bu : Nat) (Mx33 : Nat → Nat) (M_strength_33 : Nat → Int32) (M_wear_33 : Nat → Int32) (M_pieces_33 : Nat → Int32) (v2_33 : Int32) (v3_33 : Int32) (v4_33 : Int32) (q33 : (Nat → Int32) × (Nat → Int32) × (Nat → Int32) × Int32), bu ≤ K → jX7_advise_L33 M_waters M_windX M_windY M_barrels M_crew M_waterTable M_fixed M_table M_people M_numbers a1 n bu M_strength_33 M_wear_33 M_pieces_33 v2_33 v3_33 v4_33 = some q33 → (∀ (bu : Nat) (Mx : Nat → Nat), bu ≤ K → VV g D 8 (6 * (K - bu) + 6) (1296 * (K - bu) + 1296) (wM c m0 Mx 0 M_waters M_windX M_windY M_barrels M_crew M_waterTable M_fixed M_table q33.1 q33.2.1 M_people M_numbers q33.2.2.1 M_used M_from M_line M_is) [(2, .int q33.2.2.2)] 136 []) → VV g D 8 (6 * (K - bu) + 6) (1296 * (K - bu) + 1296) (wM c m0 Mx33 0 M_waters M_windX M_windY M_barrels M_crew M_waterTable M_fixed M_table M_strength_33 M_wear_33 M_people M_numbers M_pieces_33 M_used M_from M_line M_is) [(0, .ref m0), (1, .int a1), (2, .int v2_33), (3, .int v3_33), (4, .int v4_33)] 33 [] := by
      intro n
      induction n with
      | zero =>
        intro bu Mx33 M_strength_33 M_wear_33 M_pieces_33 v2_33 v3_33 v4_33 q33 _ h _
        rw [jX7_advise_L33] at h
        cases h
      | succ n ih33 =>
        intro bu Mx33 M_strength_33 M_wear_33 M_pieces_33 v2_33 v3_33 v4_33 q33 hbu h kk33
        rw [jX7_advise_L33] at h
        refine vv_iload C dX7_advise_33 4 rfl 35 rfl ?_
        refine vv_sipush C (v := 576) dX7_advise_35 (by decide) 38 rfl ?_
        refine vv_icmp_ge C 136 41 dX7_advise_38 (by decide) rfl (fun hc => ?_) (fun hc => ?_)
        · replace h := ite_t hc h
          refine vv_lv [2] [(2, .int v2_33)] rfl ?_
          obtain rfl := Option.some.inj h
          exact kk33 bu Mx33 hbu
        · replace h := ite_f hc h
          refine vv_aload_n C dX7_advise_41 rfl 0 rfl 42 rfl ?_
          refine vv_get C (q0 := 0) (ci := 7) (k := 9) kinX7_advise_X7 rfl rfl (by decide) kwX7_advise_2 rfl rfl dX7_advise_42 45 rfl ?_
          refine vv_iload C dX7_advise_45 4 rfl 47 rfl ?_
          obtain ⟨hi, h⟩ := chk_s h
          refine vv_iald C (q0 := 4) rfl hi dX7_advise_47 48 rfl ?_
          refine vv_if_ne C 54 51 dX7_advise_48 (by decide) rfl (fun hc => ?_) (fun hc => ?_)
          · replace h := ite_f hc h
            refine vv_aload_n C dX7_advise_54 rfl 0 rfl 55 rfl ?_
            refine vv_get C (q0 := 0) (ci := 7) (k := 9) kinX7_advise_X7 rfl rfl (by decide) kwX7_advise_2 rfl rfl dX7_advise_55 58 rfl ?_
            refine vv_iload C dX7_advise_58 4 rfl 60 rfl ?_
            obtain ⟨hi, h⟩ := chk_s h
            refine vv_iald C (q0 := 4) rfl hi dX7_advise_60 61 rfl ?_
            refine vv_istore C [(5, .int (rd M_strength_33 v4_33)), (0, .ref m0), (1, .int a1), (2, .int v2_33), (3, .int v3_33), (4, .int v4_33)] dX7_advise_61 (by decide) rfl 63 rfl ?_
            refine vv_aload_n C dX7_advise_63 rfl 1 rfl 64 rfl ?_
            refine vv_get C (q0 := 0) (ci := 7) (k := 10) kinX7_advise_X7 rfl rfl (by decide) kwX7_advise_3 rfl rfl dX7_advise_64 67 rfl ?_
            refine vv_iload C dX7_advise_67 5 rfl 69 rfl ?_
            obtain ⟨hi, h⟩ := chk_s h
            refine vv_iald C (q0 := 5) rfl hi dX7_advise_69 70 rfl ?_
            refine vv_istore C [(6, .int (rd M_wear_33 v4_33)), (5, .int (rd M_strength_33 v4_33)), (0, .ref m0), (1, .int a1), (2, .int v2_33), (3, .int v3_33), (4, .int v4_33)] dX7_advise_70 (by decide) rfl 72 rfl ?_
            refine vv_aload_n C dX7_advise_72 rfl 2 rfl 73 rfl ?_
            refine vv_get C (q0 := 0) (ci := 7) (k := 9) kinX7_advise_X7 rfl rfl (by decide) kwX7_advise_2 rfl rfl dX7_advise_73 76 rfl ?_
            refine vv_iload C dX7_advise_76 6 rfl 78 rfl ?_
            refine vv_bipush C (v := 50) dX7_advise_78 (by decide) 80 rfl ?_
            obtain ⟨hi, h⟩ := chk_s h
            refine vv_iast C (q0 := 4) (wM c m0 Mx33 0 M_waters M_windX M_windY M_barrels M_crew M_waterTable M_fixed M_table (wr M_strength_33 v4_33 50) M_wear_33 M_people M_numbers M_pieces_33 M_used M_from M_line M_is) rfl hi rfl dX7_advise_80 81 rfl ?_
            refine vv_aload_n C dX7_advise_81 rfl 2 rfl 82 rfl ?_
            refine vv_get C (q0 := 0) (ci := 7) (k := 10) kinX7_advise_X7 rfl rfl (by decide) kwX7_advise_3 rfl rfl dX7_advise_82 85 rfl ?_
            refine vv_iload C dX7_advise_85 6 rfl 87 rfl ?_
            refine vv_iconst C (v := 0) dX7_advise_87 (by decide) 88 rfl ?_
            obtain ⟨hi, h⟩ := chk_s h
            refine vv_iast C (q0 := 5) (wM c m0 Mx33 0 M_waters M_windX M_windY M_barrels M_crew M_waterTable M_fixed M_table (wr M_strength_33 v4_33 50) (wr M_wear_33 v4_33 0) M_people M_numbers M_pieces_33 M_used M_from M_line M_is) rfl hi rfl dX7_advise_88 89 rfl ?_
            refine vv_aload_n C dX7_advise_89 rfl 2 rfl 90 rfl ?_
            refine vv_iload_n C dX7_advise_90 rfl 3 rfl 91 rfl ?_
            refine vv_iconst C (v := 1) dX7_advise_91 (by decide) 92 rfl ?_
            obtain ⟨bu, rfl, h⟩ := bud_s h
            obtain ⟨r3, hr3, h⟩ := bnd_s h
            refine vv_callJi C (fun l => mt_X7_look l D c m0 Mx33 0 M_waters M_windX M_windY M_barrels M_crew M_waterTable M_fixed M_table (wr M_strength_33 v4_33 50) (wr M_wear_33 v4_33 0) M_people M_numbers M_pieces_33 M_used M_from M_line M_is a1 1 r3 hr3) gX7_advise_X7_look rfl rfl rfl yd_X7_look ⟨Nat.le_of_ble_eq_true rfl, Nat.le_of_ble_eq_true rfl⟩ [0, 1, 2, 3, 4, 5, 6, 7, 8, 9, 10, 11, 12] [] [] rfl (by decide) rfl (by decide) (by decide) 0 rfl rfl rfl [] rfl (Nat.le_of_ble_eq_true rfl) ⟨show 6 * (K - (bu + 1)) + 6 + 6 ≤ 6 * K + 6 by omega, show 1296 * (K - (bu + 1)) + 1296 + 1296 ≤ 1296 * K + 1296 by omega⟩ dX7_advise_92 95 (6 * (K - bu) + 6) (1296 * (K - bu) + 1296) rfl ⟨by omega, by omega⟩ (fun r_ u92 hr_ => ?_)
            subst hr_
            have hbu := Nat.le_of_succ_le hbu
            refine vv_istore C [(7, .int r3.1), (6, .int (rd M_wear_33 v4_33)), (5, .int (rd M_strength_33 v4_33)), (0, .ref m0), (1, .int a1), (2, .int v2_33), (3, .int v3_33), (4, .int v4_33)] dX7_advise_95 (by decide) rfl 97 rfl ?_
            refine vv_aload_n C dX7_advise_97 rfl 3 rfl 98 rfl ?_
            refine vv_get C (q0 := 0) (ci := 7) (k := 9) kinX7_advise_X7 rfl rfl (by decide) kwX7_advise_2 rfl rfl dX7_advise_98 101 rfl ?_
            refine vv_iload C dX7_advise_101 7 rfl 103 rfl ?_
            refine vv_iload C dX7_advise_103 2 rfl 105 rfl ?_
            obtain ⟨hi, h⟩ := chk_s h
            refine vv_iast C (q0 := 4) (wM c m0 u92 0 M_waters M_windX M_windY M_barrels M_crew M_waterTable M_fixed M_table (wr (wr M_strength_33 v4_33 50) v4_33 (rd M_strength_33 v4_33)) (wr M_wear_33 v4_33 0) M_people M_numbers r3.2 M_used M_from M_line M_is) rfl hi rfl dX7_advise_105 106 rfl ?_
            refine vv_aload_n C dX7_advise_106 rfl 3 rfl 107 rfl ?_
            refine vv_get C (q0 := 0) (ci := 7) (k := 10) kinX7_advise_X7 rfl rfl (by decide) kwX7_advise_3 rfl rfl dX7_advise_107 110 rfl ?_
            refine vv_iload C dX7_advise_110 7 rfl 112 rfl ?_
            refine vv_iload C dX7_advise_112 1 rfl 114 rfl ?_
            obtain ⟨hi, h⟩ := chk_s h
            refine vv_iast C (q0 := 5) (wM c m0 u92 0 M_waters M_windX M_windY M_barrels M_crew M_waterTable M_fixed M_table (wr (wr M_strength_33 v4_33 50) v4_33 (rd M_strength_33 v4_33)) (wr (wr M_wear_33 v4_33 0) v4_33 (rd M_wear_33 v4_33)) M_people M_numbers r3.2 M_used M_from M_line M_is) rfl hi rfl dX7_advise_114 115 rfl ?_
            refine vv_iload C dX7_advise_115 0 rfl 117 rfl ?_
            refine vv_iload_n C dX7_advise_117 rfl 6 rfl 118 rfl ?_
            refine vv_icmp_gt C 124 121 dX7_advise_118 (by decide) rfl (fun hc => ?_) (fun hc => ?_)
            · replace h := ite_t hc h
              refine vv_iload C dX7_advise_124 7 rfl 126 rfl ?_
              refine vv_istore_n C [(2, .int v4_33), (7, .int r3.1), (6, .int (rd M_wear_33 v4_33)), (5, .int (rd M_strength_33 v4_33)), (0, .ref m0), (1, .int a1), (3, .int v3_33), (4, .int v4_33)] dX7_advise_126 rfl (by decide) rfl 127 rfl ?_
              refine vv_iload C dX7_advise_127 1 rfl 129 rfl ?_
              refine vv_istore_n C [(3, .int r3.1), (2, .int v4_33), (7, .int r3.1), (6, .int (rd M_wear_33 v4_33)), (5, .int (rd M_strength_33 v4_33)), (0, .ref m0), (1, .int a1), (4, .int v4_33)] dX7_advise_129 rfl (by decide) rfl 130 rfl ?_
              refine vv_iinc C (k := 7) [(4, .int (v4_33 + 1)), (3, .int r3.1), (2, .int v4_33), (7, .int r3.1), (6, .int (rd M_wear_33 v4_33)), (5, .int (rd M_strength_33 v4_33)), (0, .ref m0), (1, .int a1)] dX7_advise_130 rfl rfl (by decide) rfl 133 rfl ?_
              refine vv_goto C 33 dX7_advise_133 (by decide) ?_
              refine vv_lv [6, 7, 2, 1, 0] [(0, .ref m0), (1, .int a1), (2, .int v4_33), (3, .int r3.1), (4, .int (v4_33 + 1))] rfl ?_
              exact ih33 bu u92 (wr (wr M_strength_33 v4_33 50) v4_33 (rd M_strength_33 v4_33)) (wr (wr M_wear_33 v4_33 0) v4_33 (rd M_wear_33 v4_33)) r3.2 v4_33 r3.1 (v4_33 + 1) _ hbu h kk33
            · replace h := ite_f hc h
              refine vv_goto C 130 dX7_advise_121 (by decide) ?_
              refine vv_iinc C (k := 7) [(4, .int (v4_33 + 1)), (7, .int r3.1), (6, .int (rd M_wear_33 v4_33)), (5, .int (rd M_strength_33 v4_33)), (0, .ref m0), (1, .int a1), (2, .int v2_33), (3, .int v3_33)] dX7_advise_130 rfl rfl (by decide) rfl 133 rfl ?_
              refine vv_goto C 33 dX7_advise_133 (by decide) ?_
              refine vv_lv [4, 5, 6, 7, 0] [(0, .ref m0), (1, .int a1), (2, .int v2_33), (3, .int v3_33), (4, .int (v4_33 + 1))] rfl ?_
              exact ih33 bu u92 (wr (wr M_strength_33 v4_33 50) v4_33 (rd M_strength_33 v4_33)) (wr (wr M_wear_33 v4_33 0) v4_33 (rd M_wear_33 v4_33)) r3.2 v2_33 v3_33 (v4_33 + 1) _ hbu h kk33
          · replace h := ite_t hc h
            refine vv_goto C 130 dX7_advise_51 (by decide) ?_
            refine vv_iinc C (k := 4) [(4, .int (v4_33 + 1)), (0, .ref m0), (1, .int a1), (2, .int v2_33), (3, .int v3_33)] dX7_advise_130 rfl rfl (by decide) rfl 133 rfl ?_
            refine vv_goto C 33 dX7_advise_133 (by decide) ?_
            refine vv_lv [1, 2, 3, 4, 0] [(0, .ref m0), (1, .int a1), (2, .int v2_33), (3, .int v3_33), (4, .int (v4_33 + 1))] rfl ?_
            exact ih33 bu Mx33 M_strength_33 M_wear_33 M_pieces_33 v2_33 v3_33 (v4_33 + 1) _ hbu h kk33
    obtain ⟨r4, hr4, h⟩ := bnd_s h
    refine vv_cs (k := 6 * (K - K) + 6) (n := 1296 * (K - K) + 1296) (by omega) (by omega) ?_
    refine L33 FU K u26 M_strength M_wear r2.2 (-1) r2.1 0 r4 (Nat.le_refl K) hr4 (fun bu Mx hbu => ?_)
    refine vv_iload_n C dX7_advise_136 rfl 0 rfl 137 rfl ?_
    obtain rfl := Option.some.inj h
    refine vv_widen (k := (6 * K + 6)) (n := (1296 * K + 1296)) (by omega) (by omega) ?_
    exact ret Mx _ rfl _ _ dX7_advise_137
  · replace h := ite_t hc h
    refine vv_aload_n C dX7_advise_15 rfl 0 rfl 16 rfl ?_
    refine vv_iconst C (v := 1) dX7_advise_16 (by decide) 17 rfl ?_
    obtain ⟨r5, hr5, h⟩ := bnd_s h
    refine vv_callVi C (fun l => mt_X7_fail l D c (mA m0 M) 0 M_waters M_windX M_windY M_barrels M_crew 1 r5 hr5) gX7_advise_X7_fail rfl rfl rfl yd_X7_fail ⟨Nat.le_of_ble_eq_true rfl, Nat.le_of_ble_eq_true rfl⟩ [0] rfl (by decide) 0 rfl rfl (wM c m0 M r5.2 M_waters M_windX M_windY M_barrels M_crew M_waterTable M_fixed M_table M_strength M_wear M_people M_numbers M_pieces M_used M_from M_line M_is) [(true, 0), (false, 1), (false, 2), (false, 3), (false, 4), (false, 5), (false, 6), (false, 7), (false, 8), (false, 9), (false, 10), (false, 11), (false, 12)] rfl (by decide) rfl rfl [] rfl (Nat.le_of_ble_eq_true rfl) ⟨Nat.le_of_ble_eq_true rfl, Nat.le_of_ble_eq_true rfl⟩ dX7_advise_17 20 0 0 rfl ⟨rfl, rfl⟩ ?_
    obtain rfl := Option.some.inj h
    refine vv_widen (k := (6 * K + 6)) (n := (1296 * K + 1296)) (by omega) (by omega) ?_
    exact ret M _ rfl _ _ dX7_advise_20
