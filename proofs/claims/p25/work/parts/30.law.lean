/-! the law's own methods: what they find beside their world; calls of the class that don't throw here -/
def XSt (b L : Nat) (xs : Nat → Int32) (A : Nat → Prop) (U : State) (H : Heap) : Prop := va_X b L xs U H ∧ b < H.size ∧ ¬ A b
def CPreL (D : va_G) (c : Nat → ClassId) (w : va_W) (b L : Nat) (xs : Nat → Int32) (sz : Nat) (U : State) : Prop := CPre D c w sz U ∧ XF (va_A w sz) U U.heap ∧ NX U ∧ XSt b L xs (va_A w sz) U U.heap
theorem CPreL_blind {D : va_G} {c : Nat → ClassId} {w : va_W} {b L sz : Nat} {xs : Nat → Int32} {av : List Value} : FrameBlind (va_Pc av (CPreL D c w b L xs sz)) := fun a U g mk q => by
  obtain ⟨q0, q1, q2, q3, q4⟩ := q
  exact ⟨q0, (CPre_blind a U g mk ⟨q0, q1⟩).2, XF.moved (u := U) (U := U.calling g mk a) (Vm.Alike.refl U.vm) q2, q3.same rfl, va_X.moved (u := U) (U := U.calling g mk a) (Vm.Alike.refl U.vm) q4.1, q4.2⟩
def LX (b L : Nat) (xs : Nat → Int32) : CtxT → Prop
  | (_, l, _, _, s, _, _, _, _, _, A, H0, _) => l.stackTraces = false ∧ XF A s H0 ∧ NX s ∧ XSt b L xs A s H0
def MLi {S : Type} (l : Launch) (y : MethodName) (wy : List Cond) (rm : Room) (D : va_G) (c : Nat → ClassId) (w : va_W) (av : List Value) (b L : Nat) (xs : Nat → Int32) (post : Int32 → S → Prop) (w' : S → va_W) (mc ms : Nat) : Prop :=
  ∀ sz, Met l y wy rm (va_Pc av (CPreL D c w b L xs sz)) (va_Qi post (fun u t => CPost D c (w' u) (va_A w sz) t) (va_A w sz)) mc ms (va_A w sz)
def MLq {S : Type} (l : Launch) (y : MethodName) (wy : List Cond) (rm : Room) (D : va_G) (c : Nat → ClassId) (w : va_W) (av : List Value) (b L : Nat) (xs : Nat → Int32) (post : S → Prop) (ro : S → Option Nat) (w' : S → va_W) (mc ms : Nat) : Prop :=
  ∀ sz, Met l y wy rm (va_Pc av (CPreL D c w b L xs sz)) (vz_Qq post ro (fun u t => CPost D c (w' u) (va_A w sz) t) (va_A w sz)) mc ms (va_A w sz)
section OfL
variable {S : Type} {l : Launch} {y : MethodName} {wy wy' : List Cond} {rm : Room} {D : va_G} {c : Nat → ClassId} {w : va_W} {av : List Value} {b L : Nat} {xs : Nat → Int32} {w' : S → va_W} {mc ms : Nat} {cc : ByteArray} {nL : Nat}
theorem MLi_of {post : Int32 → S → Prop} (hfl : l.stackTraces = false) (own : String) (ho : y.cls = own) (hy : plainName y.cls = true) (hw : wy = Cond.code y cc nL (some .int) :: wy') (hlen : (lg_sl av).length ≤ nL)
    (body : ∀ (g : CtxT), CX g D c cc own wy nL rm → LX b L xs g → (∀ (u : S) (r : Int32), post r u → ∀ (lv : List (Nat × Value)) (pc : Nat), decode cc pc = .ok (.ireturn, 1) → VV g D nL mc ms (w' u) lv pc [.int r]) → VV g D nL 0 0 w (lv_args 0 av) 0 []) : MLi l y wy rm D c w av b L xs post w' mc ms := by
  intro sz
  refine Met.ofW (cc := cc) (maxL := nL) (ret := some .int) hy hw ?_
  intro p e s m args below meth c0 s₁ B hml hv
  obtain ⟨rfl, ⟨hsz, hP, hK, hD0, hNW⟩, hXF, hNX, hXS⟩ := hv
  have hts := atoms_spec (ws := wy) B.pre
  have hown : s.vm.findClass own = some m.cls := ho ▸ findClass_of_methodNamed B.named
  subst hsz
  rw [lg_entry_eq]
  exact body (p, l, e, _, s, m, _, below, meth, c0, va_A w s.heap.size, s.heap, _) ⟨B.exec, B.bytes, hml, hown, hts, hK, fun q h => Or.inr h, B.notSynchronized, rfl, hNW⟩ ⟨hfl, hXF, hNX, hXS⟩
    (fun u r hu lv pc hd H locs ls hP hD hS hl => W.iret B.exec B.bytes B.returns (fun t ht hW => ⟨⟨r, u, rfl, hu, by rw [ht]; exact hP, va_K.moved hW.alike hK, hD⟩, hS.F ht⟩) hS.2.2 hd B.notSynchronized)
    s.heap [] _ hP hD0.self va_S.rf (lv_entry av hlen)
theorem MLz_of {post : Int32 → S → Prop} (hfl : l.stackTraces = false) (own : String) (ho : y.cls = own) (hy : plainName y.cls = true) (hw : wy = Cond.code y cc nL (some .boolean) :: wy') (hlen : (lg_sl av).length ≤ nL)
    (body : ∀ (g : CtxT), CX g D c cc own wy nL rm → LX b L xs g → (∀ (u : S) (r : Int32), post r u → (r = 0 ∨ r = 1) → ∀ (lv : List (Nat × Value)) (pc : Nat), decode cc pc = .ok (.ireturn, 1) → VV g D nL mc ms (w' u) lv pc [.int r]) → VV g D nL 0 0 w (lv_args 0 av) 0 []) : MLi l y wy rm D c w av b L xs post w' mc ms := by
  intro sz
  refine Met.ofW (cc := cc) (maxL := nL) (ret := some .boolean) hy hw ?_
  intro p e s m args below meth c0 s₁ B hml hv
  obtain ⟨rfl, ⟨hsz, hP, hK, hD0, hNW⟩, hXF, hNX, hXS⟩ := hv
  have hts := atoms_spec (ws := wy) B.pre
  have hown : s.vm.findClass own = some m.cls := ho ▸ findClass_of_methodNamed B.named
  subst hsz
  rw [lg_entry_eq]
  exact body (p, l, e, _, s, m, _, below, meth, c0, va_A w s.heap.size, s.heap, _) ⟨B.exec, B.bytes, hml, hown, hts, hK, fun q h => Or.inr h, B.notSynchronized, rfl, hNW⟩ ⟨hfl, hXF, hNX, hXS⟩
    (fun u r hu hz lv pc hd H locs ls hP hD hS hl => W.zret B.exec B.bytes B.returns (by rcases hz with h | h <;> subst h <;> rfl) (fun t ht hW => ⟨⟨r, u, rfl, hu, by rw [ht]; exact hP, va_K.moved hW.alike hK, hD⟩, hS.F ht⟩) hS.2.2 hd B.notSynchronized)
    s.heap [] _ hP hD0.self va_S.rf (lv_entry av hlen)
theorem MLq_of {post : S → Prop} {ro : S → Option Nat} {t0 : FieldType} {hrt : (∃ n, t0 = .object n) ∨ ∃ t, t0 = .array t} (hfl : l.stackTraces = false) (own : String) (ho : y.cls = own) (hy : plainName y.cls = true) (hw : wy = Cond.code y cc nL (some t0) :: wy') (hlen : (lg_sl av).length ≤ nL)
    (body : ∀ (g : CtxT), CX g D c cc own wy nL rm → LX b L xs g → (∀ (u : S), post u → ∀ (lv : List (Nat × Value)) (pc : Nat), decode cc pc = .ok (.areturn, 1) → VV g D nL mc ms (w' u) lv pc [va_rf (ro u)]) → VV g D nL 0 0 w (lv_args 0 av) 0 []) : MLq l y wy rm D c w av b L xs post ro w' mc ms := by
  intro sz
  refine Met.ofW (cc := cc) (maxL := nL) (ret := some t0) hy hw ?_
  intro p e s m args below meth c0 s₁ B hml hv
  obtain ⟨rfl, ⟨hsz, hP, hK, hD0, hNW⟩, hXF, hNX, hXS⟩ := hv
  have hts := atoms_spec (ws := wy) B.pre
  have hown : s.vm.findClass own = some m.cls := ho ▸ findClass_of_methodNamed B.named
  subst hsz
  rw [lg_entry_eq]
  exact body (p, l, e, _, s, m, _, below, meth, c0, va_A w s.heap.size, s.heap, _) ⟨B.exec, B.bytes, hml, hown, hts, hK, fun q h => Or.inr h, B.notSynchronized, rfl, hNW⟩ ⟨hfl, hXF, hNX, hXS⟩
    (fun u hu lv pc hd H locs ls hP hD hS hl => W.aret B.exec B.bytes B.returns hrt (by cases ro u with | none => exact Or.inl rfl | some a => exact Or.inr ⟨a, rfl⟩) (fun t ht hW => ⟨⟨u, rfl, hu, by rw [ht]; exact hP, va_K.moved hW.alike hK, hD⟩, hS.F ht⟩) hS.2.2 hd B.notSynchronized)
    s.heap [] _ hP hD0.self va_S.rf (lv_entry av hlen)
end OfL
theorem ls_pick {α : Type} {l l1 l2 : List α} (is isJ : List Nat) (h : is.map (fun i => l[i]?) = l1.map some) (h2 : isJ.map (fun i => l[i]?) = l2.map some) (hp : (is ++ isJ).isPerm (List.range l.length) = true) : l.Perm (l1 ++ l2) := by
  have e := (List.isPerm_iff.mp hp).filterMap (fun i => l[i]?)
  rw [fm_of_map (sg_range l), List.filterMap_append, fm_of_map h, fm_of_map h2] at e
  exact e.symm
theorem sg_at {α : Type} {G : List α} : ∀ {segs : List (List α)} {j : Nat}, segs[j]? = some G → segs.flatten.Perm ((segs.set j []).flatten ++ G)
  | [], j, hj => by simp at hj
  | s :: t, 0, hj => by
    rw [List.getElem?_cons_zero] at hj
    cases hj
    rw [List.set_cons_zero, List.flatten_cons, List.flatten_cons, List.nil_append]
    exact List.perm_append_comm
  | s :: t, j + 1, hj => by
    rw [List.getElem?_cons_succ] at hj
    rw [List.set_cons_succ, List.flatten_cons, List.flatten_cons, List.append_assoc]
    exact (sg_at hj).append_left s
section VLaw
variable {g : CtxT} {D : va_G} {c : Nat → ClassId} {cc : ByteArray} {own : String} {Ts : List Cond} {nL cells slots pc : Nat} {rm : Room} {segs : List va_W} {ws : va_W} {lv : List (Nat × Value)} {st : List Value}
variable {y : MethodName} {wy wy' : List Cond} {rmy : Room} {wc : va_W} {mc ms maxL n index b ci N bb LL : Nat} {xs : Nat → Int32} {ret : Option FieldType} {bytes : ByteArray} {Cn : String} {T : u_T} {As : List Value} {fs : List Value}
theorem vs_callX {R : Type} {u0 : R} {fr : R → Int32} {fw : R → va_W} (C : CX g D c cc own Ts nL rm) (X : LX bb LL xs g) (M : ∀ l : Launch, l.stackTraces = false → DXi l y wy rmy D c wc (.ref b :: As) (Sum.inr u0) fr fw mc ms) (hG : GoodIn Ts (wsV own index Cn y wy)) (hwy : wy = Cond.code y bytes maxL ret :: wy') (hrc : rmy.cells = mc) (hrs : rmy.slots = ms)
    (hyd : y.cls = Cn ∧ y.cls ≠ "java/lang/invoke/MethodHandle" ∧ y.cls ≠ "java/lang/invoke/VarHandle" ∧ (parseMethodDescriptor y.desc).map (fun d => d.parameters.length) = some n) (hR : rmy.frames + 1 ≤ rm.frames ∧ 8 + (maxL + 11) + rmy.locals ≤ rm.locals)
    (j : Nat) (G G' rest : va_W) (hj : segs[j]? = some G) (is isC : List Nat) (h1 : is.map (fun i => G[i]?) = rest.map some) (h2 : isC.map (fun i => G[i]?) = wc.map some) (hp1 : (is ++ isC).isPerm (List.range G.length) = true) (h1' : is.map (fun i => G'[i]?) = rest.map some) (h2' : isC.map (fun i => G'[i]?) = (fw u0).map some) (hp2 : (is ++ isC).isPerm (List.range G'.length) = true) (segs' : List va_W) (hs : segs.set j G' = segs')
    (k0 : Nat) (hk0 : wc[k0]? = some (b, .inr (ci, fs))) (hci : vwCl[ci]? = some (Cn, T, N)) (hAs : As.length = n) (rst : List Value) (hst : st = As.reverse ++ .ref b :: rst) (hcat : (rst.map fun v => v.category).sum ≤ 8)
    (hf : cells + mc ≤ rm.cells ∧ slots + ms ≤ rm.slots) (hd : decode cc pc = .ok (.invokevirtual index, 3)) (pc' cells' slots' : Nat) (hp : pc + 3 = pc') (hcs : cells + mc = cells' ∧ slots + ms = slots')
    (kk : VV g D nL cells' slots' segs'.flatten lv pc' (.int (fr u0) :: rst)) : VV g D nL cells slots segs.flatten lv pc st := by
  subst hs
  have hlt : j < segs.length := (List.getElem?_eq_some_iff.mp hj).1
  have p1 : segs.flatten.Perm (((segs.set j []).flatten ++ rest) ++ wc) := by
    rw [List.append_assoc]
    exact (sg_at hj).trans ((ls_pick is isC h1 h2 hp1).append_left _)
  have p2 : (((segs.set j []).flatten ++ rest) ++ fw u0).Perm (segs.set j G').flatten := by
    rw [List.append_assoc]
    have q := sg_at (segs := segs.set j G') (j := j) (by rw [List.getElem?_set_self hlt])
    rw [List.set_set] at q
    exact (q.trans ((ls_pick is isC h1' h2' hp2).append_left _)).symm
  have kk' : VV g D nL cells' slots' (((segs.set j []).flatten ++ rest) ++ fw u0) lv pc' (.int (fr u0) :: rst) := vv_perm0 p2 kk
  obtain ⟨p, l, e, R, s, m, args, below, meth, c0, A, H0, Q⟩ := g
  obtain ⟨hx, hb, hml, hown, hts, hK, hA, hlk, rfl, hNW⟩ := C
  obtain ⟨hfl, hXF, hNX, -⟩ := X
  obtain ⟨rfl, rfl⟩ := hcs
  subst hp; subst hst
  intro H locs ls hP hD hS hl
  have hF := vs_free p1 hD hS hA
  obtain ⟨hPc, hDc⟩ := vs_sub p1 hP hD
  refine vx_calli (vx_runV (As := As) (rest := rst) ⟨hx, hb, hml, hown, hts⟩ (M l hfl H.size) (cwV n hts hG hwy hrc hrs hyd hR) ⟨CPreX_blind, va_recv hK hPc hci hk0, fun U hU hW => ⟨rfl, ⟨by rw [hU], by rw [hU]; exact hPc, va_K.moved hW.alike hK, hDc, hNW.warm hW⟩, by rw [hU]; exact ((hXF.kept (fun a ha hna => hS.2.1 a ha hna)).narrow hF).moved hW.alike, hNX.warm hW⟩⟩ rfl hAs hl.1 rfl (lv_room hcat) hd hf) hS (fun q _ h => hF q h) hF (fun q _ h => hF q h)
    (fun E ce q9 k t H1 locs1 ht hvm hw hB hz1 hk1 hS1 hce hcv hcl => ?_) (fun r_ u t H1 locs1 ht hvm hw hB hz1 hk1 hS1 => ?_)
  · cases hw
  · obtain ⟨hu, rfl⟩ := hw
    cases hu
    obtain ⟨hP1, hK1, hD1⟩ := hB
    rw [ht] at hP1
    obtain ⟨hP2, hD2⟩ := vs_join p1 hP hD hk1 hF hP1 hD1
    exact kk' H1 locs1 ls hP2 hD2 hS1 hl
theorem vs_callLi {S : Type} {post : Int32 → S → Prop} {w' : S → va_W} (C : CX g D c cc own Ts nL rm) (X : LX bb LL xs g) (M : ∀ l : Launch, l.stackTraces = false → MLi l y wy rmy D c wc As bb LL xs post w' mc ms) (hG : GoodIn Ts (va_wsS own index y wy)) (hwy : wy = Cond.code y bytes maxL ret :: wy') (hrc : rmy.cells = mc) (hrs : rmy.slots = ms)
    (hyd : y.cls ≠ "java/lang/invoke/MethodHandle" ∧ y.cls ≠ "java/lang/invoke/VarHandle" ∧ (parseMethodDescriptor y.desc).map (fun d => d.parameters.length) = some n) (hR : rmy.frames + 1 ≤ rm.frames ∧ 8 + (maxL + 11) + rmy.locals ≤ rm.locals)
    (wr : va_W) (hperm : ws.Perm (wr ++ wc)) (hAs : As.length = n) (rst : List Value) (hst : st = As.reverse ++ rst) (hcat : (rst.map fun v => v.category).sum ≤ 8)
    (hf : cells + mc ≤ rm.cells ∧ slots + ms ≤ rm.slots) (hd : decode cc pc = .ok (.invokestatic index, 3)) (pc' cells' slots' : Nat) (hp : pc + 3 = pc') (hcs : cells + mc = cells' ∧ slots + ms = slots') (kk : ∀ (r : Int32) (u : S), post r u → VV g D nL cells' slots' (wr ++ w' u) lv pc' (.int r :: rst)) : VV g D nL cells slots ws lv pc st := by
  obtain ⟨p, l, e, R, s, m, args, below, meth, c0, A, H0, Q⟩ := g
  obtain ⟨hx, hb, hml, hown, hts, hK, hA, hlk, rfl, hNW⟩ := C
  obtain ⟨hfl, hXF, hNX, hX1, hX2, hX3⟩ := X
  obtain ⟨rfl, rfl⟩ := hcs
  subst hp; subst hst
  intro H locs ls hP hD hS hl
  have hF := vs_free hperm hD hS hA
  obtain ⟨hPc, hDc⟩ := vs_sub hperm hP hD
  refine va_calli (va_runS (As := As) (rest := rst) ⟨hx, hb, hml, hown, hts⟩ (M l hfl H.size) (va_cwS n hts hG hwy hrc hrs hyd hR) ⟨CPreL_blind, fun U hU hW => ⟨rfl, ⟨by rw [hU], by rw [hU]; exact hPc, va_K.moved hW.alike hK, hDc, hNW.warm hW⟩, by rw [hU]; exact ((hXF.kept (fun a ha hna => hS.2.1 a ha hna)).narrow hF).moved hW.alike, hNX.warm hW, by rw [hU]; exact va_X.moved hW.alike (va_X.kept hX1 (hS.2.1 bb hX2 hX3)), by rw [hU]; exact Nat.lt_of_lt_of_le hX2 hS.1, fun z => hX3 (hF bb z)⟩⟩ rfl hAs hl.1 rfl (lv_room hcat) hd hf) hS (fun q _ h => hF q h) hF (fun r_ u t H1 locs1 ht hvm hw hB hz1 hk1 hS1 => ?_)
  obtain ⟨hP1, hK1, hD1⟩ := hB
  rw [ht] at hP1
  obtain ⟨hP2, hD2⟩ := vs_join hperm hP hD hk1 hF hP1 hD1
  exact kk r_ u hw H1 locs1 ls hP2 hD2 hS1 hl
theorem vs_callLq {S : Type} {post : S → Prop} {ro : S → Option Nat} {w' : S → va_W} (C : CX g D c cc own Ts nL rm) (X : LX bb LL xs g) (M : ∀ l : Launch, l.stackTraces = false → MLq l y wy rmy D c wc As bb LL xs post ro w' mc ms) (hG : GoodIn Ts (va_wsS own index y wy)) (hwy : wy = Cond.code y bytes maxL ret :: wy') (hrc : rmy.cells = mc) (hrs : rmy.slots = ms)
    (hyd : y.cls ≠ "java/lang/invoke/MethodHandle" ∧ y.cls ≠ "java/lang/invoke/VarHandle" ∧ (parseMethodDescriptor y.desc).map (fun d => d.parameters.length) = some n) (hR : rmy.frames + 1 ≤ rm.frames ∧ 8 + (maxL + 11) + rmy.locals ≤ rm.locals)
    (wr : va_W) (hperm : ws.Perm (wr ++ wc)) (hAs : As.length = n) (rst : List Value) (hst : st = As.reverse ++ rst) (hcat : (rst.map fun v => v.category).sum ≤ 8)
    (hf : cells + mc ≤ rm.cells ∧ slots + ms ≤ rm.slots) (hd : decode cc pc = .ok (.invokestatic index, 3)) (pc' cells' slots' : Nat) (hp : pc + 3 = pc') (hcs : cells + mc = cells' ∧ slots + ms = slots') (kk : ∀ (u : S), post u → VV g D nL cells' slots' (wr ++ w' u) lv pc' (va_rf (ro u) :: rst)) : VV g D nL cells slots ws lv pc st := by
  obtain ⟨p, l, e, R, s, m, args, below, meth, c0, A, H0, Q⟩ := g
  obtain ⟨hx, hb, hml, hown, hts, hK, hA, hlk, rfl, hNW⟩ := C
  obtain ⟨hfl, hXF, hNX, hX1, hX2, hX3⟩ := X
  obtain ⟨rfl, rfl⟩ := hcs
  subst hp; subst hst
  intro H locs ls hP hD hS hl
  have hF := vs_free hperm hD hS hA
  obtain ⟨hPc, hDc⟩ := vs_sub hperm hP hD
  refine vz_callq (va_runS (As := As) (rest := rst) ⟨hx, hb, hml, hown, hts⟩ (M l hfl H.size) (va_cwS n hts hG hwy hrc hrs hyd hR) ⟨CPreL_blind, fun U hU hW => ⟨rfl, ⟨by rw [hU], by rw [hU]; exact hPc, va_K.moved hW.alike hK, hDc, hNW.warm hW⟩, by rw [hU]; exact ((hXF.kept (fun a ha hna => hS.2.1 a ha hna)).narrow hF).moved hW.alike, hNX.warm hW, by rw [hU]; exact va_X.moved hW.alike (va_X.kept hX1 (hS.2.1 bb hX2 hX3)), by rw [hU]; exact Nat.lt_of_lt_of_le hX2 hS.1, fun z => hX3 (hF bb z)⟩⟩ rfl hAs hl.1 rfl (lv_room hcat) hd hf) hS (fun q _ h => hF q h) hF (fun u t H1 locs1 ht hvm hw hB hz1 hk1 hS1 => ?_)
  obtain ⟨hP1, hK1, hD1⟩ := hB
  rw [ht] at hP1
  obtain ⟨hP2, hD2⟩ := vs_join hperm hP hD hk1 hF hP1 hD1
  exact kk u hw H1 locs1 ls hP2 hD2 hS1 hl
theorem vs_sld (C : CX g D c cc own Ts nL rm) (X : LX bb LL xs g) {i : Int32} (hin : vp_in i LL) (hd : decode cc pc = .ok (.iaload, 1)) (pc' : Nat) (hp : pc + 1 = pc') (kk : VV g D nL cells slots ws lv pc' (.int (xs i.toNatClampNeg) :: st)) : VV g D nL cells slots ws lv pc (.int i :: .ref bb :: st) := by
  obtain ⟨p, l, e, R, s, m, args, below, meth, c0, A, H0, Q⟩ := g
  obtain ⟨hx, hb, hml, hown, hts, hK, hA, hlk, rfl, hNW⟩ := C
  subst hp
  obtain ⟨-, -, -, h1, h2, h3⟩ := X
  intro H locs ls hP hD hS hl
  exact va_sld hx hb h1 h2 h3 hS hin hd (kk H locs ls hP hD hS hl)
theorem vs_slen (C : CX g D c cc own Ts nL rm) (X : LX bb LL xs g) (hd : decode cc pc = .ok (.arraylength, 1)) (pc' : Nat) (hp : pc + 1 = pc') (kk : VV g D nL cells slots ws lv pc' (.int (nI LL) :: st)) : VV g D nL cells slots ws lv pc (.ref bb :: st) := by
  obtain ⟨p, l, e, R, s, m, args, below, meth, c0, A, H0, Q⟩ := g
  obtain ⟨hx, hb, hml, hown, hts, hK, hA, hlk, rfl, hNW⟩ := C
  subst hp
  obtain ⟨-, -, -, h1, h2, h3⟩ := X
  intro H locs ls hP hD hS hl
  exact va_slen hx hb h1 h2 h3 hS hd (kk H locs ls hP hD hS hl)
theorem vs_newi (C : CX g D c cc own Ts nL rm) {n : Int32} {N : Nat} (hw : Cond.arrayClass .int ∈ Ts) (hn : ¬ n < 0) (hN : n.toNatClampNeg = N) (hb8 : N ≤ 1000) (hcs : cells + 1 ≤ rm.cells ∧ slots + N ≤ rm.slots) (hd : decode cc pc = .ok (.newarray .int, 2)) (pc' cells' slots' : Nat) (hp : pc + 2 = pc') (he : cells + 1 ≤ cells' ∧ slots + N ≤ slots')
    (kk : ∀ q : Nat, VV g D nL cells' slots' (ws ++ [aI c q N (fun _ => 0)]) lv pc' (.ref q :: st)) : VV g D nL cells slots ws lv pc (.int n :: st) :=
  vv_newa C hw hn hN (by show N * 4 ≤ 536870912; omega) hcs hd pc' (cells + 1) (slots + N) hp ⟨rfl, rfl⟩ (fun q => vv_widen he.1 he.2 (kk q))
theorem sg_last {A : List va_W} {ws wc : va_W} (h : ws = A.flatten ++ wc) : ws.Perm (A.flatten ++ wc) := by rw [h]
theorem vs_callIN {S : Type} {w' : S → va_W} {host : String} (C : CX g D c cc own Ts nL rm) {post : S → Prop} (M : ∀ l, MJv l y wy rmy D c wc [.ref b] post w' mc ms) (hG : GoodIn Ts wy) (hwy : wy = Cond.code y bytes maxL none :: wy') (hrc : rmy.cells = mc) (hrs : rmy.slots = ms) (hnest : ∀ s : State, NW c s → va_Nw (.methodLinkNest own index y host) s) (hini : Cond.initialized y.cls ∈ Ts) (hin : Cond.instanceMethod y ∈ Ts) (hyn : y.name = "<init>")
    (hyd : y.cls ≠ "java/lang/invoke/MethodHandle" ∧ y.cls ≠ "java/lang/invoke/VarHandle" ∧ (parseMethodDescriptor y.desc).map (fun d => d.parameters.length) = some 0) (hR : rmy.frames + 1 ≤ rm.frames ∧ 8 + (maxL + 11) + rmy.locals ≤ rm.locals)
    (wr : va_W) (hperm : ws.Perm (wr ++ wc)) (rest : List Value) (hst : st = .ref b :: rest) (hcat : (rest.map fun v => v.category).sum ≤ 8)
    (hf : cells + mc ≤ rm.cells ∧ slots + ms ≤ rm.slots) (hd : decode cc pc = .ok (.invokespecial index, 3)) (pc' cells' slots' : Nat) (hp : pc + 3 = pc') (hcs : cells + mc = cells' ∧ slots + ms = slots') (kk : ∀ (u : S), post u → VV g D nL cells' slots' (wr ++ w' u) lv pc' rest) : VV g D nL cells slots ws lv pc st := by
  refine vv_perm0 hperm ?_
  refine vv_callIN C M hG hwy hrc hrs hnest hini hin hyn hyd hR ((List.range wc.length).map (fun i => wr.length + i)) (List.range wr.length) wr ?_ ?_ ?_ ?_ ?_ rest hst hcat hf hd pc' cells' slots' hp hcs kk
  · rw [List.map_map, ← sg_range wc]
    refine List.map_congr_left (fun i _ => ?_)
    show (wr ++ wc)[wr.length + i]? = wc[i]?
    rw [List.getElem?_append_right (by omega), Nat.add_sub_cancel_left]
  · refine va_nd_of ?_
    exact List.Pairwise.map _ (fun a b hab e => hab (by omega)) List.nodup_range
  · rw [← sg_range wr]
    exact List.map_congr_left (fun i hi => List.getElem?_append_left (List.mem_range.mp hi))
  · exact va_nd_of List.nodup_range
  · intro i hi hc
    obtain ⟨j, -, e⟩ := List.mem_map.mp hc
    have := List.mem_range.mp hi
    omega
theorem vs_nilR {wr : va_W} (kk : VV g D nL cells slots wr lv pc st) : VV g D nL cells slots (wr ++ List.flatten []) lv pc st := by
  have e : wr ++ List.flatten ([] : List va_W) = wr := by simp
  rw [e]; exact kk
theorem vs_nilP : ws.Perm (ws ++ List.flatten ([] : List va_W)) := by simp
end VLaw
/-! a number below n, and a cell of the script -/
abbrev shr5 (x k : Int32) : Int32 := x >>> (k &&& 31)
def bl (v n : Int32) : Int32 := (v &&& 2147483647) - (v &&& 2147483647) / n * n
def cellv (L : Nat) (xs : Nat → Int32) (k : Int32) : Int32 := if nI L ≤ k then 790386105 * (k + 3) else xs k.toNatClampNeg
abbrev rmL_below : Room := { frames := 0, cells := 0, slots := 0, locals := 0 }
theorem yd_L_below : yL_below.cls ≠ "java/lang/invoke/MethodHandle" ∧ yL_below.cls ≠ "java/lang/invoke/VarHandle" ∧ (parseMethodDescriptor yL_below.desc).map (fun d => d.parameters.length) = some 2 := by decide +kernel
theorem kwL_below_1 : Cond.constant RL 7 (2147483647) ∈ wsL_below := List.mem_of_getElem? (i := 1) rfl
theorem mt_L_below (l : Launch) (D : va_G) (c : Nat → ClassId) (v n : Int32) (hn : ¬ n = 0) : MJi l yL_below wsL_below rmL_below D c (List.flatten []) [.int v, .int n] (fun r (_ : Unit) => r = bl v n) (fun _ => List.flatten []) 0 0 := by
  refine MJi_of (cc := cL_below) (nL := 2) RL rfl (by decide) rfl (Nat.le_of_ble_eq_true rfl) (fun g C ret => ?_)
  refine vv_lv [0, 1] [(0, .int v), (1, .int n)] rfl ?_
  refine vv_iload_n C dL_below_0 rfl 0 rfl 1 rfl ?_
  refine vv_ldc C kwL_below_1 dL_below_1 3 rfl ?_
  refine vv_iand C dL_below_3 4 rfl ?_
  refine vv_iload_n C dL_below_4 rfl 1 rfl 5 rfl ?_
  refine vv_irem C dL_below_5 hn 6 rfl ?_
  exact ret () _ rfl _ _ dL_below_6
abbrev rmL_cell : Room := { frames := 0, cells := 0, slots := 0, locals := 0 }
theorem yd_L_cell : yL_cell.cls ≠ "java/lang/invoke/MethodHandle" ∧ yL_cell.cls ≠ "java/lang/invoke/VarHandle" ∧ (parseMethodDescriptor yL_cell.desc).map (fun d => d.parameters.length) = some 2 := by decide +kernel
theorem kwL_cell_1 : Cond.constant RL 8 (790386105) ∈ wsL_cell := List.mem_of_getElem? (i := 1) rfl
theorem in_of {L : Nat} {k : Int32} (h0 : ¬ k < 0) (hL : L < 2 ^ 31) (h : ¬ nI L ≤ k) : vp_in k L := by
  obtain ⟨j, hj, rfl⟩ := nI_of h0
  refine nI_in ?_ hL
  exact Nat.not_le.mp fun q => h (nI_le q hj)
theorem mt_L_cell (l : Launch) (hfl : l.stackTraces = false) (D : va_G) (c : Nat → ClassId) (b L : Nat) (hL : L < 2 ^ 31) (xs : Nat → Int32) (k : Int32) (hk : ¬ k < 0) : MLi l yL_cell wsL_cell rmL_cell D c (List.flatten []) [.ref b, .int k] b L xs (fun r (_ : Unit) => r = cellv L xs k) (fun _ => List.flatten []) 0 0 := by
  refine MLi_of hfl (cc := cL_cell) (nL := 2) RL rfl (by decide) rfl (Nat.le_of_ble_eq_true rfl) (fun g C X ret => ?_)
  refine vv_lv [0, 1] [(0, .ref b), (1, .int k)] rfl ?_
  refine vv_iload_n C dL_cell_0 rfl 1 rfl 1 rfl ?_
  refine vv_aload_n C dL_cell_1 rfl 0 rfl 2 rfl ?_
  refine vs_slen C X dL_cell_2 3 rfl ?_
  refine vv_icmp_ge C 12 6 dL_cell_3 (by decide) rfl (fun hc => ?_) (fun hc => ?_)
  · refine vv_ldc C kwL_cell_1 dL_cell_12 14 rfl ?_
    refine vv_iload_n C dL_cell_14 rfl 1 rfl 15 rfl ?_
    refine vv_iconst C (v := 3) dL_cell_15 (by decide) 16 rfl ?_
    refine vv_iadd C dL_cell_16 17 rfl ?_
    refine vv_imul C dL_cell_17 18 rfl ?_
    exact ret () _ (if_pos hc).symm _ _ dL_cell_18
  · refine vv_aload_n C dL_cell_6 rfl 0 rfl 7 rfl ?_
    refine vv_iload_n C dL_cell_7 rfl 1 rfl 8 rfl ?_
    refine vs_sld C X (in_of hk hL hc) dL_cell_8 9 rfl ?_
    refine vv_goto C 18 dL_cell_9 (by decide) ?_
    exact ret () _ (if_neg hc).symm _ _ dL_cell_18
