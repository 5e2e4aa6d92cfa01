/-! arrays of rows -/
abbrev aR (c : Nat → ClassId) (a n : Nat) (f : Nat → Option Nat) : Nat × va_E := (a, .inl (c 3, n, .inr (.inr (.inr (.inr f)))))
section VVRows2
variable {g : CtxT} {D : va_G} {c : Nat → ClassId} {cc : ByteArray} {own : String} {Ts : List Cond} {nL cells slots pc : Nat} {rm : Room} {ws : va_W} {lv : List (Nat × Value)} {st : List Value}
theorem vv_anewA (C : CX g D c cc own Ts nL rm) {n : Int32} {N index : Nat} (hw : Cond.classLink own index "[I" ∈ Ts) (hn : ¬ n < 0) (hN : n.toNatClampNeg = N) (hb8 : n.toNatClampNeg * 4 ≤ 536870912) (hcs : cells + 1 ≤ rm.cells ∧ slots + N ≤ rm.slots) (hd : decode cc pc = .ok (.anewarray index, 3)) (pc' cells' slots' : Nat) (hp : pc + 3 = pc') (he : cells + 1 = cells' ∧ slots + N = slots')
    (kk : ∀ q : Nat, VV g D nL cells' slots' (ws ++ [aR c q N (fun _ => none)]) lv pc' (.ref q :: st)) : VV g D nL cells slots ws lv pc (.int n :: st) := by
  obtain ⟨rfl, rfl⟩ := he
  obtain ⟨p, l, e, R, s, m, args, below, meth, c0, A, H0, Q⟩ := g
  obtain ⟨hx, hb, hml, hown, hts, hK, hA, hlk, rfl, hNW⟩ := C
  subst hp
  subst hN
  intro H locs ls hP hD hS hl
  refine W.anewA (t := .int) hx hb hown (hts _ hw) (NW.over hNW) rfl hd rfl hn hb8 hcs.1 hcs.2 fun cA kA comp f1 f2 f3 f4 => ?_
  have e3 : cA = c 3 := Option.some.inj (f1.symm.trans (hK.2 3 (c 3, .array .int) rfl).2)
  subst e3
  generalize hH1 : H.push ({ cls := c 3, slots := Array.replicate n.toNatClampNeg .null, vm := .none } : Cell) = H1
  have z1 : H1.size = H.size + 1 := by rw [← hH1, Array.size_push]
  have e1 : H1[H.size]? = some (arrV (c 3) n.toNatClampNeg (fun _ => .null)) := by rw [← hH1, Array.getElem?_push_size, ← arrV_new]
  have o1 : ∀ q : Nat, q < H.size → H1[q]? = H[q]? := fun q hq => by rw [← hH1, Array.getElem?_push, if_neg (Nat.ne_of_lt hq)]
  have hk : ∀ (k : Nat) (x : Nat × va_E), ws[k]? = some x → H1[x.1]? = H[x.1]? := fun k x hx => o1 x.1 ((hP k x hx).lt)
  refine kk H.size H1 locs ls ((hP.kept hk).app (fun k x hx => ?_)) (hD.push hP rfl (hA _ hS.1)) ⟨Nat.le_trans hS.1 (by omega), fun x h1 h2 => (o1 x (Nat.lt_of_lt_of_le h1 hS.1)).trans (hS.2.1 x h1 h2), hS.2.2⟩ hl
  have hz : k < 1 := (List.getElem?_eq_some_iff.mp hx).1
  rw [show k = 0 by omega] at hx
  cases hx
  exact e1
theorem vv_aastA (C : CX g D c cc own Ts nL rm) {a q0 qv n n1 v : Nat} {f : Nat → Option Nat} {f1 : Nat → Int32} {i : Int32} (ws' : va_W) (ha : ws[q0]? = some (aR c a n f)) (hv : ws[qv]? = some (aI c v n1 f1)) (hin : vp_in i n) (hws : ws.set q0 (aR c a n (va_up f i.toNatClampNeg (some v))) = ws') (hd : decode cc pc = .ok (.aastore, 1)) (pc' : Nat) (hp : pc + 1 = pc')
    (kk : VV g D nL cells slots ws' lv pc' st) : VV g D nL cells slots ws lv pc (.ref v :: .int i :: .ref a :: st) := by
  subst hws
  obtain ⟨p, l, e, R, s, m, args, below, meth, c0, A, H0, Q⟩ := g
  obtain ⟨hx, hb, hml, hown, hts, hK, hA, hlk, rfl, hNW⟩ := C
  subst hp
  intro H locs ls hP hD hS hl
  have hlt : i.toNatClampNeg < n := Nat.not_le.mp fun q => hin (Or.inr q)
  have h0 : ¬ i < 0 := fun q => hin (Or.inl q)
  obtain ⟨k3, k1, k2⟩ := NW.rows hNW
  obtain ⟨-, k0, j1, -⟩ := (hK.2 0 (c 0, .int) rfl).1 0 (fun _ => .null)
  refine W.aast hx hb (hP q0 _ ha) (fun q h => by cases h) (fun h => by cases h) k1 k2 rfl j1 ⟨h0, by show _ < (arrV _ _ _).slots.size; rw [arrV_size]; exact hlt⟩ (hP qv _ hv) (fun q h => by cases h) j1 (va_asg _ _) rfl rfl hd fun H1 e z oq => ?_
  refine kk H1 _ ls (hP.set hD ha ?_ oq) (hD.set ha) (hS.put z oq (hD.2 q0 _ ha)) hl
  show H1[a]? = some (vp_cell _ _)
  rw [e]
  rw [vp_cell_q, vp_cell_q, arrV_store]
  congr 2
  funext q
  by_cases hq : q = i.toNatClampNeg
  · subst hq
    simp [updV, va_up, va_rf]
  · simp [updV, va_up, hq]
theorem vv_aaldA (C : CX g D c cc own Ts nL rm) {a q0 n v : Nat} {f : Nat → Option Nat} {i : Int32} (ha : ws[q0]? = some (aR c a n f)) (hin : vp_in i n) (hf : f i.toNatClampNeg = some v) (hd : decode cc pc = .ok (.aaload, 1)) (pc' : Nat) (hp : pc + 1 = pc')
    (kk : VV g D nL cells slots ws lv pc' (.ref v :: st)) : VV g D nL cells slots ws lv pc (.int i :: .ref a :: st) := by
  obtain ⟨p, l, e, R, s, m, args, below, meth, c0, A, H0, Q⟩ := g
  obtain ⟨hx, hb, hml, hown, hts, hK, hA, hlk, rfl, hNW⟩ := C
  subst hp
  intro H locs ls hP hD hS hl
  have hlt : i.toNatClampNeg < n := Nat.not_le.mp fun q => hin (Or.inr q)
  exact W.aald (v := .ref v) (ty := .array .int) hx hb (hP q0 _ ha) ((hK.2 3 (c 3, .array .int) rfl).1 n (fun j => va_rf (f j))) rfl (fun q => by cases q) (by show ¬ (i < 0 ∨ (arrV _ _ _).slots.size ≤ _); rw [arrV_size]; exact hin) (by show (arrV _ _ _).slots[_]? = _; rw [arrV_read _ _ hlt, hf]; rfl) rfl rfl hd (kk H locs ls hP hD hS hl)
end VVRows2
/-! contracts whose world behind is one of many -/
def MJi {S : Type} (l : Launch) (y : MethodName) (wy : List Cond) (rm : Room) (D : va_G) (c : Nat → ClassId) (w : va_W) (av : List Value) (post : Int32 → S → Prop) (w' : S → va_W) (mc ms : Nat) : Prop :=
  ∀ sz, Met l y wy rm (va_Pc av (CPre D c w sz)) (va_Qi post (fun u t => CPost D c (w' u) (va_A w sz) t) (va_A w sz)) mc ms (va_A w sz)
def MJv {S : Type} (l : Launch) (y : MethodName) (wy : List Cond) (rm : Room) (D : va_G) (c : Nat → ClassId) (w : va_W) (av : List Value) (post : S → Prop) (w' : S → va_W) (mc ms : Nat) : Prop :=
  ∀ sz, Met l y wy rm (va_Pc av (CPre D c w sz)) (va_Qv post (fun u t => CPost D c (w' u) (va_A w sz) t) (va_A w sz)) mc ms (va_A w sz)
/-- an answer that is a row, or none -/
def vz_Qq {S : Type} (post : S → Prop) (ro : S → Option Nat) (B : S → State → Prop) (A : Nat → Prop) : Array Value → State → Outcome → State → Prop := fun _ st oc t => (∃ u : S, oc = .returned (some (va_rf (ro u))) ∧ post u ∧ B u t) ∧ va_F A st t
def MJq {S : Type} (l : Launch) (y : MethodName) (wy : List Cond) (rm : Room) (D : va_G) (c : Nat → ClassId) (w : va_W) (av : List Value) (post : S → Prop) (ro : S → Option Nat) (w' : S → va_W) (mc ms : Nat) : Prop :=
  ∀ sz, Met l y wy rm (va_Pc av (CPre D c w sz)) (vz_Qq post ro (fun u t => CPost D c (w' u) (va_A w sz) t) (va_A w sz)) mc ms (va_A w sz)
section OfJ
variable {S : Type} {l : Launch} {y : MethodName} {wy wy' : List Cond} {rm : Room} {D : va_G} {c : Nat → ClassId} {w : va_W} {av : List Value} {w' : S → va_W} {mc ms : Nat} {cc : ByteArray} {nL : Nat}
theorem MJi_of {post : Int32 → S → Prop} (own : String) (ho : y.cls = own) (hy : plainName y.cls = true) (hw : wy = Cond.code y cc nL (some .int) :: wy') (hlen : (lg_sl av).length ≤ nL)
    (body : ∀ (g : CtxT), CX g D c cc own wy nL rm → (∀ (u : S) (r : Int32), post r u → ∀ (lv : List (Nat × Value)) (pc : Nat), decode cc pc = .ok (.ireturn, 1) → VV g D nL mc ms (w' u) lv pc [.int r]) → VV g D nL 0 0 w (lv_args 0 av) 0 []) : MJi l y wy rm D c w av post w' mc ms := by
  intro sz
  refine Met.ofW (cc := cc) (maxL := nL) (ret := some .int) hy hw ?_
  intro p e s m args below meth c0 s₁ B hml hv
  obtain ⟨rfl, hsz, hP, hK, hD0, hNW⟩ := hv
  have hts := atoms_spec (ws := wy) B.pre
  have hown : s.vm.findClass own = some m.cls := ho ▸ findClass_of_methodNamed B.named
  subst hsz
  rw [lg_entry_eq]
  exact body (p, l, e, _, s, m, _, below, meth, c0, va_A w s.heap.size, s.heap, _) ⟨B.exec, B.bytes, hml, hown, hts, hK, fun q h => Or.inr h, B.notSynchronized, rfl, hNW⟩
    (fun u r hu lv pc hd H locs ls hP hD hS hl => W.iret B.exec B.bytes B.returns (fun t ht hW => ⟨⟨r, u, rfl, hu, by rw [ht]; exact hP, va_K.moved hW.alike hK, hD⟩, hS.F ht⟩) hS.2.2 hd B.notSynchronized)
    s.heap [] _ hP hD0.self va_S.rf (lv_entry av hlen)
theorem MJv_of {post : S → Prop} (own : String) (ho : y.cls = own) (hy : plainName y.cls = true) (hw : wy = Cond.code y cc nL none :: wy') (hlen : (lg_sl av).length ≤ nL)
    (body : ∀ (g : CtxT), CX g D c cc own wy nL rm → (∀ (u : S), post u → ∀ (lv : List (Nat × Value)) (pc : Nat), decode cc pc = .ok (.return_, 1) → VV g D nL mc ms (w' u) lv pc []) → VV g D nL 0 0 w (lv_args 0 av) 0 []) : MJv l y wy rm D c w av post w' mc ms := by
  intro sz
  refine Met.ofW (cc := cc) (maxL := nL) (ret := none) hy hw ?_
  intro p e s m args below meth c0 s₁ B hml hv
  obtain ⟨rfl, hsz, hP, hK, hD0, hNW⟩ := hv
  have hts := atoms_spec (ws := wy) B.pre
  have hown : s.vm.findClass own = some m.cls := ho ▸ findClass_of_methodNamed B.named
  subst hsz
  rw [lg_entry_eq]
  exact body (p, l, e, _, s, m, _, below, meth, c0, va_A w s.heap.size, s.heap, _) ⟨B.exec, B.bytes, hml, hown, hts, hK, fun q h => Or.inr h, B.notSynchronized, rfl, hNW⟩
    (fun u hu lv pc hd H locs ls hP hD hS hl => W.vret B.exec B.bytes B.returns (fun t ht hW => ⟨⟨u, rfl, hu, by rw [ht]; exact hP, va_K.moved hW.alike hK, hD⟩, hS.F ht⟩) hS.2.2 hd B.notSynchronized)
    s.heap [] _ hP hD0.self va_S.rf (lv_entry av hlen)
theorem MJq_of {post : S → Prop} {ro : S → Option Nat} {t0 : FieldType} {hrt : (∃ n, t0 = .object n) ∨ ∃ t, t0 = .array t} (own : String) (ho : y.cls = own) (hy : plainName y.cls = true) (hw : wy = Cond.code y cc nL (some t0) :: wy') (hlen : (lg_sl av).length ≤ nL)
    (body : ∀ (g : CtxT), CX g D c cc own wy nL rm → (∀ (u : S), post u → ∀ (lv : List (Nat × Value)) (pc : Nat), decode cc pc = .ok (.areturn, 1) → VV g D nL mc ms (w' u) lv pc [va_rf (ro u)]) → VV g D nL 0 0 w (lv_args 0 av) 0 []) : MJq l y wy rm D c w av post ro w' mc ms := by
  intro sz
  refine Met.ofW (cc := cc) (maxL := nL) (ret := some t0) hy hw ?_
  intro p e s m args below meth c0 s₁ B hml hv
  obtain ⟨rfl, hsz, hP, hK, hD0, hNW⟩ := hv
  have hts := atoms_spec (ws := wy) B.pre
  have hown : s.vm.findClass own = some m.cls := ho ▸ findClass_of_methodNamed B.named
  subst hsz
  rw [lg_entry_eq]
  exact body (p, l, e, _, s, m, _, below, meth, c0, va_A w s.heap.size, s.heap, _) ⟨B.exec, B.bytes, hml, hown, hts, hK, fun q h => Or.inr h, B.notSynchronized, rfl, hNW⟩
    (fun u hu lv pc hd H locs ls hP hD hS hl => W.aret B.exec B.bytes B.returns hrt (by cases ro u with | none => exact Or.inl rfl | some a => exact Or.inr ⟨a, rfl⟩) (fun t ht hW => ⟨⟨u, rfl, hu, by rw [ht]; exact hP, va_K.moved hW.alike hK, hD⟩, hS.F ht⟩) hS.2.2 hd B.notSynchronized)
    s.heap [] _ hP hD0.self va_S.rf (lv_entry av hlen)
theorem MJz_of {post : Int32 → S → Prop} (own : String) (ho : y.cls = own) (hy : plainName y.cls = true) (hw : wy = Cond.code y cc nL (some .boolean) :: wy') (hlen : (lg_sl av).length ≤ nL)
    (body : ∀ (g : CtxT), CX g D c cc own wy nL rm → (∀ (u : S) (r : Int32), post r u → (r = 0 ∨ r = 1) → ∀ (lv : List (Nat × Value)) (pc : Nat), decode cc pc = .ok (.ireturn, 1) → VV g D nL mc ms (w' u) lv pc [.int r]) → VV g D nL 0 0 w (lv_args 0 av) 0 []) : MJi l y wy rm D c w av post w' mc ms := by
  intro sz
  refine Met.ofW (cc := cc) (maxL := nL) (ret := some .boolean) hy hw ?_
  intro p e s m args below meth c0 s₁ B hml hv
  obtain ⟨rfl, hsz, hP, hK, hD0, hNW⟩ := hv
  have hts := atoms_spec (ws := wy) B.pre
  have hown : s.vm.findClass own = some m.cls := ho ▸ findClass_of_methodNamed B.named
  subst hsz
  rw [lg_entry_eq]
  exact body (p, l, e, _, s, m, _, below, meth, c0, va_A w s.heap.size, s.heap, _) ⟨B.exec, B.bytes, hml, hown, hts, hK, fun q h => Or.inr h, B.notSynchronized, rfl, hNW⟩
    (fun u r hu hz lv pc hd H locs ls hP hD hS hl => W.zret B.exec B.bytes B.returns (by rcases hz with h | h <;> subst h <;> rfl) (fun t ht hW => ⟨⟨r, u, rfl, hu, by rw [ht]; exact hP, va_K.moved hW.alike hK, hD⟩, hS.F ht⟩) hS.2.2 hd B.notSynchronized)
    s.heap [] _ hP hD0.self va_S.rf (lv_entry av hlen)
end OfJ
def uN (f : Nat → Nat) (k x : Nat) : Nat → Nat := fun j => if j = k then x else f j
def uF (F : Nat → Nat → Int32) (k : Nat) (f : Nat → Int32) : Nat → Nat → Int32 := fun j => if j = k then f else F j
theorem uN_a {f : Nat → Nat} {k x : Nat} : uN f k x k = x := if_pos rfl
theorem uN_b {f : Nat → Nat} {k x j : Nat} (h : j ≠ k) : uN f k x j = f j := if_neg h
theorem uF_a {F : Nat → Nat → Int32} {k : Nat} {f : Nat → Int32} : uF F k f k = f := if_pos rfl
theorem uF_b {F : Nat → Nat → Int32} {k j : Nat} {f : Nat → Int32} (h : j ≠ k) : uF F k f j = F j := if_neg h
/-- rows of one length, by a number -/
def rowsW (c : Nat → ClassId) (A : Nat → Nat) (N len : Nat) (F : Nat → Nat → Int32) : va_W := (List.range N).map (fun i => aI c (A i) len (F i))
theorem rows_congr {c : Nat → ClassId} {A A' : Nat → Nat} {N len : Nat} {F F' : Nat → Nat → Int32} (h : ∀ i, i < N → A i = A' i ∧ F i = F' i) : rowsW c A N len F = rowsW c A' N len F' := by
  unfold rowsW
  refine List.map_congr_left (fun i hi => ?_)
  obtain ⟨h1, h2⟩ := h i (List.mem_range.mp hi)
  show aI c (A i) len (F i) = aI c (A' i) len (F' i)
  rw [h1, h2]
theorem rows_grow {c : Nat → ClassId} {A : Nat → Nat} {N len q : Nat} {F : Nat → Nat → Int32} {f : Nat → Int32} : rowsW c (uN A N q) (N + 1) len (uF F N f) = rowsW c A N len F ++ [aI c q len f] := by
  have e : rowsW c (uN A N q) N len (uF F N f) = rowsW c A N len F := rows_congr (fun i hi => ⟨uN_b (by omega), uF_b (by omega)⟩)
  rw [← e]
  unfold rowsW
  rw [List.range_succ, List.map_append]
  simp only [List.map_cons, List.map_nil, uN_a, uF_a]
theorem sg_P_iff {D : va_G} {cl : List vw_C} {ws : va_W} {H : Heap} : va_P D cl ws H ↔ ∀ q, q ∈ ws → va_at D cl q H :=
  ⟨fun h q hq => by obtain ⟨k, hk⟩ := List.mem_iff_getElem?.mp hq; exact h k q hk, fun h k q hk => h q (List.mem_of_getElem? hk)⟩
theorem sg_D_iff {A : Nat → Prop} {ws : va_W} : va_D A ws ↔ (ws.map Prod.fst).Nodup ∧ ∀ q, q ∈ ws → A q.1 := by
  constructor
  · intro h
    refine ⟨List.pairwise_iff_getElem.mpr (fun i j hi hj hij e => ?_), fun q hq => ?_⟩
    · rw [List.getElem_map, List.getElem_map] at e
      rw [List.length_map] at hi hj
      have := h.1 i j _ _ (List.getElem?_eq_getElem hi) (List.getElem?_eq_getElem hj) e
      omega
    · obtain ⟨k, hk⟩ := List.mem_iff_getElem?.mp hq
      exact h.2 k q hk
  · intro h
    obtain ⟨h1, h2⟩ := h
    refine ⟨fun i j p q hi hj e => ?_, fun k q hk => h2 q (List.mem_of_getElem? hk)⟩
    obtain ⟨li, ei⟩ := List.getElem?_eq_some_iff.mp hi
    obtain ⟨lj, ej⟩ := List.getElem?_eq_some_iff.mp hj
    have hn := List.pairwise_iff_getElem.mp h1
    have li' : i < (ws.map Prod.fst).length := by rw [List.length_map]; exact li
    have lj' : j < (ws.map Prod.fst).length := by rw [List.length_map]; exact lj
    have e' : (ws.map Prod.fst)[i] = (ws.map Prod.fst)[j] := by rw [List.getElem_map, List.getElem_map, ei, ej]; exact e
    rcases Nat.lt_trichotomy i j with h | h | h
    · exact absurd e' (hn i j li' lj' h)
    · exact h
    · exact absurd e'.symm (hn j i lj' li' h)
theorem sg_P {D : va_G} {cl : List vw_C} {ws ws' junk : va_W} {H : Heap} (h : ws.Perm (ws' ++ junk)) (hP : va_P D cl ws H) : va_P D cl ws' H :=
  sg_P_iff.mpr (fun q hq => sg_P_iff.mp hP q (h.symm.subset (List.mem_append_left _ hq)))
theorem sg_D {A : Nat → Prop} {ws ws' junk : va_W} (h : ws.Perm (ws' ++ junk)) (hD : va_D A ws) : va_D A ws' := by
  obtain ⟨h1, h2⟩ := sg_D_iff.mp hD
  have h3 := (h.map Prod.fst).nodup_iff.mp h1
  rw [List.map_append] at h3
  exact sg_D_iff.mpr ⟨h3.sublist (List.sublist_append_left _ _), fun q hq => h2 q (h.symm.subset (List.mem_append_left _ hq))⟩
theorem vv_perm {g : CtxT} {D : va_G} {nL cells slots pc : Nat} {ws : va_W} {lv : List (Nat × Value)} {st : List Value} (ws' junk : va_W) (h : ws.Perm (ws' ++ junk)) (kk : VV g D nL cells slots ws' lv pc st) : VV g D nL cells slots ws lv pc st := by
  obtain ⟨p, l, e, R, s, m, args, below, meth, c0, A, H0, Q⟩ := g
  intro H locs ls hP hD hS hl
  exact kk H locs ls (sg_P h hP) (sg_D h hD) hS hl
theorem vv_perm0 {g : CtxT} {D : va_G} {nL cells slots pc : Nat} {ws ws' : va_W} {lv : List (Nat × Value)} {st : List Value} (h : ws.Perm ws') (kk : VV g D nL cells slots ws' lv pc st) : VV g D nL cells slots ws lv pc st :=
  vv_perm ws' [] (by rw [List.append_nil]; exact h) kk
theorem vv_eq {g : CtxT} {D : va_G} {nL cells slots pc : Nat} {ws ws' : va_W} {lv lv' : List (Nat × Value)} {st st' : List Value} (h : ws = ws') (h1 : lv = lv') (h2 : st = st') (kk : VV g D nL cells slots ws' lv' pc st') : VV g D nL cells slots ws lv pc st := by
  subst h; subst h1; subst h2; exact kk
theorem sg_range {α : Type} (l : List α) : (List.range l.length).map (fun i => l[i]?) = l.map some := by
  apply List.ext_getElem
  · simp
  · intro i h1 h2
    simp
/-- an order of N places, by the kernel -/
theorem pm_of {α : Type} {l : List α} {is : List Nat} {N : Nat} (hN : l.length = N) (h : is.isPerm (List.range N) = true) : is.isPerm (List.range l.length) = true := by
  rw [hN]
  exact h
theorem sg_pick {α : Type} {segs segs1 : List (List α)} (is isJ : List Nat) (h : is.map (fun i => segs[i]?) = segs1.map some) (hp : (is ++ isJ).isPerm (List.range segs.length) = true) :
    segs.flatten.Perm (segs1.flatten ++ (isJ.filterMap (fun i => segs[i]?)).flatten) := by
  have e := (List.isPerm_iff.mp hp).filterMap (fun i => segs[i]?)
  rw [fm_of_map (sg_range segs), List.filterMap_append, fm_of_map h] at e
  have := e.symm.flatten
  rwa [List.flatten_append] at this
/-- other places, and some cells forgotten -/
theorem vv_seg {g : CtxT} {D : va_G} {nL cells slots pc : Nat} {segs : List va_W} {lv : List (Nat × Value)} {st : List Value} (is isJ : List Nat) (segs1 : List va_W) (h : is.map (fun i => segs[i]?) = segs1.map some) (hp : (is ++ isJ).isPerm (List.range segs.length) = true)
    (kk : VV g D nL cells slots segs1.flatten lv pc st) : VV g D nL cells slots segs.flatten lv pc st := vv_perm _ _ (sg_pick is isJ h hp) kk
theorem sg_snoc {segs : List va_W} {x : Nat × va_E} : segs.flatten ++ [x] = (segs ++ [[x]]).flatten := by
  rw [List.flatten_append]
  simp
theorem va_nd_of {l : List Nat} (h : l.Nodup) : va_nd l = true := by
  induction l with
  | nil => rfl
  | cons a l ih =>
    obtain ⟨h1, h2⟩ := List.nodup_cons.mp h
    simp only [va_nd, Bool.and_eq_true, decide_eq_true_eq]
    exact ⟨h1, ih h2⟩
/-- behind a call: what the callee had not, and what it leaves -/
theorem vs_join {A0 : Nat → Prop} {D : va_G} {cl : List vw_C} {ws wr wc w1 : va_W} {H H1 : Heap} (hperm : ws.Perm (wr ++ wc)) (hP : va_P D cl ws H) (hD : va_D A0 ws)
    (hk : ∀ q : Nat, q < H.size → ¬ va_A wc H.size q → H1[q]? = H[q]?) (hF : ∀ q, va_A wc H.size q → A0 q) (hP1 : va_P D cl w1 H1) (hD1 : va_D (va_A wc H.size) w1) : va_P D cl (wr ++ w1) H1 ∧ va_D A0 (wr ++ w1) := by
  have hp' : ws.Perm ((wr ++ wc) ++ []) := by rw [List.append_nil]; exact hperm
  have e1 : (List.range wr.length).map (fun i => (wr ++ wc)[i]?) = wr.map some := by
    rw [← sg_range wr]
    exact List.map_congr_left (fun i hi => List.getElem?_append_left (List.mem_range.mp hi))
  have e2 : ((List.range wc.length).map (fun i => wr.length + i)).map (fun i => (wr ++ wc)[i]?) = wc.map some := by
    rw [List.map_map, ← sg_range wc]
    refine List.map_congr_left (fun i _ => ?_)
    show (wr ++ wc)[wr.length + i]? = wc[i]?
    rw [List.getElem?_append_right (by omega), Nat.add_sub_cancel_left]
  refine va_join (sg_P hp' hP) (sg_D hp' hD) ((List.range wc.length).map (fun i => wr.length + i)) (List.range wr.length) e2 e1 (va_nd_of List.nodup_range) (fun i hi hc => ?_) hk hF hP1 hD1
  obtain ⟨j, -, e⟩ := List.mem_map.mp hc
  have := List.mem_range.mp hi
  omega
theorem vs_free {A0 : Nat → Prop} {ws wr wc : va_W} {H0 H : Heap} {locs : List Loc} (hperm : ws.Perm (wr ++ wc)) (hD : va_D A0 ws) (hS : va_S A0 H0 H locs) (hA : ∀ q, H0.size ≤ q → A0 q) : ∀ q, va_A wc H.size q → A0 q := by
  intro q h
  rcases h with ⟨k, e, h⟩ | h
  · exact (sg_D_iff.mp hD).2 _ (hperm.symm.subset (List.mem_append_right _ (List.mem_of_getElem? h)))
  · exact hA q (Nat.le_trans hS.1 h)
theorem vs_sub {D : va_G} {cl : List vw_C} {A0 : Nat → Prop} {ws wr wc : va_W} {H : Heap} (hperm : ws.Perm (wr ++ wc)) (hP : va_P D cl ws H) (hD : va_D A0 ws) : va_P D cl wc H ∧ va_D (fun _ => True) wc := by
  have h := (hperm.trans List.perm_append_comm)
  exact ⟨sg_P h hP, (sg_D h hD).weaken (fun _ _ _ _ => trivial)⟩
/-- a row of a pool ahead of all else -/
theorem sg_front {c : Nat → ClassId} {A : Nat → Nat} {N len r : Nat} {F : Nat → Nat → Int32} (hr : r < N) (f : Nat → Int32) : (rowsW c A N len (uF F r f)).Perm (aI c (A r) len f :: ((List.range N).erase r).map (fun i => aI c (A i) len (F i))) := by
  unfold rowsW
  have h := (List.perm_cons_erase (List.mem_range.mpr hr)).map (fun i => aI c (A i) len (uF F r f i))
  rw [List.map_cons] at h
  have e1 : uF F r f r = f := if_pos rfl
  rw [e1] at h
  have e2 : ((List.range N).erase r).map (fun i => aI c (A i) len (uF F r f i)) = ((List.range N).erase r).map (fun i => aI c (A i) len (F i)) := by
    refine List.map_congr_left (fun i hi => ?_)
    have hne : i ≠ r := ((List.Nodup.mem_erase_iff List.nodup_range).mp hi).1
    show aI c (A i) len (uF F r f i) = aI c (A i) len (F i)
    rw [uF_b hne]
  rw [e2] at h
  exact h
theorem uF_self {F : Nat → Nat → Int32} {r : Nat} : uF F r (F r) = F := by
  funext j
  unfold uF
  by_cases h : j = r
  · rw [if_pos h, h]
  · rw [if_neg h]
theorem sg_flat {α : Type} {G rest : List α} {a : α} (h : G.Perm (a :: rest)) : ∀ {segs : List (List α)} {j : Nat}, segs[j]? = some G → segs.flatten.Perm (a :: (segs.set j rest).flatten)
  | [], j, hj => by simp at hj
  | s :: t, 0, hj => by
    rw [List.getElem?_cons_zero] at hj
    cases hj
    rw [List.set_cons_zero, List.flatten_cons, List.flatten_cons]
    exact h.append_right _
  | s :: t, j + 1, hj => by
    rw [List.getElem?_cons_succ] at hj
    rw [List.set_cons_succ, List.flatten_cons, List.flatten_cons]
    exact ((sg_flat h hj).append_left s).trans List.perm_middle
theorem sg_row {segs : List va_W} {c : Nat → ClassId} {A : Nat → Nat} {N len r : Nat} {F : Nat → Nat → Int32} (j : Nat) (hj : segs[j]? = some (rowsW c A N len F)) (hr : r < N) : aI c (A r) len (F r) ∈ segs.flatten := by
  have h := sg_flat (sg_front (c := c) (A := A) (len := len) (F := F) hr (F r)) (segs := segs) (j := j) (by rw [uF_self]; exact hj)
  exact h.symm.subset List.mem_cons_self
/-- rows of a pool lie apart -/
theorem sg_apart {A0 : Nat → Prop} {segs : List va_W} {c : Nat → ClassId} {A : Nat → Nat} {N len r r' : Nat} {F : Nat → Nat → Int32} (hD : va_D A0 segs.flatten) (j : Nat) (hj : segs[j]? = some (rowsW c A N len F)) (hr : r < N) (hr' : r' < N) (h : A r = A r') : r = r' := by
  have p := sg_flat (sg_front (c := c) (A := A) (len := len) (F := F) hr (F r)) (segs := segs) (j := j) (by rw [uF_self]; exact hj)
  have h1 := (p.map Prod.fst).nodup_iff.mp (sg_D_iff.mp hD).1
  rw [List.map_cons] at h1
  by_cases e : r = r'
  · exact e
  · refine absurd ?_ (List.nodup_cons.mp h1).1
    have hm : aI c (A r') len (F r') ∈ ((List.range N).erase r).map (fun i => aI c (A i) len (F i)) := List.mem_map.mpr ⟨r', (List.Nodup.mem_erase_iff List.nodup_range).mpr ⟨fun q => e q.symm, List.mem_range.mpr hr'⟩, rfl⟩
    have hlt : j < segs.length := (List.getElem?_eq_some_iff.mp hj).1
    refine List.mem_map.mpr ⟨aI c (A r') len (F r'), List.mem_flatten.mpr ⟨_, List.mem_of_getElem? (l := segs.set j _) (i := j) (by rw [List.getElem?_set_self hlt]), hm⟩, h.symm⟩
section VS
variable {g : CtxT} {D : va_G} {c : Nat → ClassId} {cc : ByteArray} {own : String} {Ts : List Cond} {nL cells slots pc : Nat} {rm : Room} {segs : List va_W} {ws : va_W} {lv : List (Nat × Value)} {st : List Value}
theorem vs_iald (C : CX g D c cc own Ts nL rm) {A : Nat → Nat} {N len r : Nat} {F : Nat → Nat → Int32} {i : Int32} (j : Nat) (hj : segs[j]? = some (rowsW c A N len F)) (hr : r < N) (hin : vp_in i len) (hd : decode cc pc = .ok (.iaload, 1)) (pc' : Nat) (hp : pc + 1 = pc') (kk : VV g D nL cells slots segs.flatten lv pc' (.int (rd (F r) i) :: st)) : VV g D nL cells slots segs.flatten lv pc (.int i :: .ref (A r) :: st) := by
  obtain ⟨k, hk⟩ := List.mem_iff_getElem?.mp (sg_row j hj hr)
  exact vv_iald C (q0 := k) hk hin hd pc' hp kk
theorem vs_iast (C : CX g D c cc own Ts nL rm) {A : Nat → Nat} {N len r : Nat} {F : Nat → Nat → Int32} {i x : Int32} (segs' : List va_W) (j : Nat) (hj : segs[j]? = some (rowsW c A N len F)) (hr : r < N) (hin : vp_in i len) (hs : segs.set j (rowsW c A N len (uF F r (wr (F r) i x))) = segs') (hd : decode cc pc = .ok (.iastore, 1)) (pc' : Nat) (hp : pc + 1 = pc') (kk : VV g D nL cells slots segs'.flatten lv pc' st) : VV g D nL cells slots segs.flatten lv pc (.int x :: .int i :: .ref (A r) :: st) := by
  subst hs
  have hlt : j < segs.length := (List.getElem?_eq_some_iff.mp hj).1
  have p1 := sg_flat (sg_front (c := c) (A := A) (len := len) (F := F) hr (F r)) (segs := segs) (j := j) (by rw [uF_self]; exact hj)
  have p2 := sg_flat (sg_front (c := c) (A := A) (len := len) (F := F) hr (wr (F r) i x)) (segs := segs.set j (rowsW c A N len (uF F r (wr (F r) i x)))) (j := j) (by rw [List.getElem?_set_self hlt])
  rw [List.set_set] at p2
  refine vv_perm0 p1 ?_
  refine vv_iast C (q0 := 0) _ rfl hin rfl hd pc' hp ?_
  exact vv_perm0 p2.symm kk
theorem vs_alenR (C : CX g D c cc own Ts nL rm) {a q0 n : Nat} {f : Nat → Option Nat} (ha : ws[q0]? = some (aR c a n f)) (hd : decode cc pc = .ok (.arraylength, 1)) (pc' : Nat) (hp : pc + 1 = pc') (kk : VV g D nL cells slots ws lv pc' (.int (nI n) :: st)) : VV g D nL cells slots ws lv pc (.ref a :: st) := by
  obtain ⟨p, l, e, R, s, m, args, below, meth, c0, A, H0, Q⟩ := g
  obtain ⟨hx, hb, hml, hown, hts, hK, hA, hlk, rfl, hNW⟩ := C
  subst hp
  intro H locs ls hP hD hS hl
  exact va_alen hx hb hK hP q0 3 ha rfl rfl hd (kk H locs ls hP hD hS hl)
theorem vs_alenZ (C : CX g D c cc own Ts nL rm) {a q0 n : Nat} {f : Nat → Int32} (ha : ws[q0]? = some (aZ c a n f)) (hd : decode cc pc = .ok (.arraylength, 1)) (pc' : Nat) (hp : pc + 1 = pc') (kk : VV g D nL cells slots ws lv pc' (.int (nI n) :: st)) : VV g D nL cells slots ws lv pc (.ref a :: st) := by
  obtain ⟨p, l, e, R, s, m, args, below, meth, c0, A, H0, Q⟩ := g
  obtain ⟨hx, hb, hml, hown, hts, hK, hA, hlk, rfl, hNW⟩ := C
  subst hp
  intro H locs ls hP hD hS hl
  exact va_alen hx hb hK hP q0 1 ha rfl rfl hd (kk H locs ls hP hD hS hl)
theorem vv_null (C : CX g D c cc own Ts nL rm) (hd : decode cc pc = .ok (.aconst_null, 1)) (pc' : Nat) (hp : pc + 1 = pc') (kk : VV g D nL cells slots ws lv pc' (.null :: st)) : VV g D nL cells slots ws lv pc st := by
  obtain ⟨p, l, e, R, s, m, args, below, meth, c0, A, H0, Q⟩ := g
  obtain ⟨hx, hb, hml, hown, hts, hK, hA, hlk, rfl, hNW⟩ := C
  subst hp
  intro H locs ls hP hD hS hl
  exact lv_null hx hb hd (kk H locs ls hP hD hS hl)
theorem vv_ishr (C : CX g D c cc own Ts nL rm) {x y : Int32} (hd : decode cc pc = .ok (.ishr, 1)) (pc' : Nat) (hp : pc + 1 = pc') (kk : VV g D nL cells slots ws lv pc' (.int (x >>> (y &&& 31)) :: st)) : VV g D nL cells slots ws lv pc (.int y :: .int x :: st) := by
  obtain ⟨p, l, e, R, s, m, args, below, meth, c0, A, H0, Q⟩ := g
  obtain ⟨hx, hb, hml, hown, hts, hK, hA, hlk, rfl, hNW⟩ := C
  subst hp
  intro H locs ls hP hD hS hl
  exact lv_ishr hx hb hd (kk H locs ls hP hD hS hl)
theorem vv_ldc (C : CX g D c cc own Ts nL rm) {index : Nat} {v : Int32} (hw : Cond.constant own index v ∈ Ts) (hd : decode cc pc = .ok (.ldc index, 2)) (pc' : Nat) (hp : pc + 2 = pc') (kk : VV g D nL cells slots ws lv pc' (.int v :: st)) : VV g D nL cells slots ws lv pc st := by
  obtain ⟨p, l, e, R, s, m, args, below, meth, c0, A, H0, Q⟩ := g
  obtain ⟨hx, hb, hml, hown, hts, hK, hA, hlk, rfl, hNW⟩ := C
  subst hp
  intro H locs ls hP hD hS hl
  exact lv_ldc hx hb hown (hts _ hw) hd (kk H locs ls hP hD hS hl)
/-- whether an answer is a row or none -/
theorem vv_ifnull (C : CX g D c cc own Ts nL rm) {o : Option Nat} {off : Int} (tgt pc' : Nat) (hd : decode cc pc = .ok (.ifnull off, 3)) (ht : (pc : Int) + off = (tgt : Int)) (hp : pc + 3 = pc') (kt : o = none → VV g D nL cells slots ws lv tgt st) (kf : ∀ a, o = some a → VV g D nL cells slots ws lv pc' st) : VV g D nL cells slots ws lv pc (va_rf o :: st) := by
  obtain ⟨p, l, e, R, s, m, args, below, meth, c0, A, H0, Q⟩ := g
  obtain ⟨hx, hb, hml, hown, hts, hK, hA, hlk, rfl, hNW⟩ := C
  subst hp
  intro H locs ls hP hD hS hl
  cases o with
  | none => exact lv_ifnullN hx hb hd ht (kt rfl H locs ls hP hD hS hl)
  | some a => exact lv_ifnull hx hb hd (kf a rfl H locs ls hP hD hS hl)
theorem vv_ifnonnull (C : CX g D c cc own Ts nL rm) {o : Option Nat} {off : Int} (tgt pc' : Nat) (hd : decode cc pc = .ok (.ifnonnull off, 3)) (ht : (pc : Int) + off = (tgt : Int)) (hp : pc + 3 = pc') (kt : ∀ a, o = some a → VV g D nL cells slots ws lv tgt st) (kf : o = none → VV g D nL cells slots ws lv pc' st) : VV g D nL cells slots ws lv pc (va_rf o :: st) := by
  obtain ⟨p, l, e, R, s, m, args, below, meth, c0, A, H0, Q⟩ := g
  obtain ⟨hx, hb, hml, hown, hts, hK, hA, hlk, rfl, hNW⟩ := C
  subst hp
  intro H locs ls hP hD hS hl
  cases o with
  | none => exact lv_ifnonnullN hx hb hd (kf rfl H locs ls hP hD hS hl)
  | some a => exact lv_ifnonnull hx hb hd ht (kt a rfl H locs ls hP hD hS hl)
/-- two rows of one pool, the same or not -/
theorem vs_acmp_eq (C : CX g D c cc own Ts nL rm) {A : Nat → Nat} {N len r r' : Nat} {F : Nat → Nat → Int32} {off : Int} (j : Nat) (hj : segs[j]? = some (rowsW c A N len F)) (hr : r < N) (hr' : r' < N) (tgt pc' : Nat) (hd : decode cc pc = .ok (.if_acmp .eq off, 3)) (ht : (pc : Int) + off = (tgt : Int)) (hp : pc + 3 = pc') (kt : r = r' → VV g D nL cells slots segs.flatten lv tgt st) (kf : ¬ r = r' → VV g D nL cells slots segs.flatten lv pc' st) : VV g D nL cells slots segs.flatten lv pc (.ref (A r') :: .ref (A r) :: st) := by
  obtain ⟨p, l, e, R, s, m, args, below, meth, c0, A1, H0, Q⟩ := g
  obtain ⟨hx, hb, hml, hown, hts, hK, hA, hlk, rfl, hNW⟩ := C
  subst hp
  intro H locs ls hP hD hS hl
  refine lv_acmp_eq (rx := some (A r)) (ry := some (A r')) hx hb hd ht (fun q => ?_) (fun q => ?_)
  · exact kt (sg_apart hD j hj hr hr' (Option.some.inj q)) H locs ls hP hD hS hl
  · exact kf (fun z => q (by rw [z])) H locs ls hP hD hS hl
theorem vv_acmp_null (C : CX g D c cc own Ts nL rm) {a : Nat} {off : Int} (tgt pc' : Nat) (hd : decode cc pc = .ok (.if_acmp .eq off, 3)) (ht : (pc : Int) + off = (tgt : Int)) (hp : pc + 3 = pc') (kf : VV g D nL cells slots ws lv pc' st) : VV g D nL cells slots ws lv pc (.null :: .ref a :: st) := by
  obtain ⟨p, l, e, R, s, m, args, below, meth, c0, A1, H0, Q⟩ := g
  obtain ⟨hx, hb, hml, hown, hts, hK, hA, hlk, rfl, hNW⟩ := C
  subst hp
  intro H locs ls hP hD hS hl
  exact lv_acmp_eq (rx := some a) (ry := none) hx hb hd ht (fun q => by cases q) (fun _ => kf H locs ls hP hD hS hl)
/-- an array of references read, where an entry may be none -/
theorem vs_aald (C : CX g D c cc own Ts nL rm) {a q0 n k : Nat} {f : Nat → Option Nat} {i : Int32} (ha : ws[q0]? = some (aR c a n f)) (hin : vp_in i n) (hk : i.toNatClampNeg = k) (hd : decode cc pc = .ok (.aaload, 1)) (pc' : Nat) (hp : pc + 1 = pc')
    (kk : VV g D nL cells slots ws lv pc' (va_rf (f k) :: st)) : VV g D nL cells slots ws lv pc (.int i :: .ref a :: st) := by
  subst hk
  obtain ⟨p, l, e, R, s, m, args, below, meth, c0, A, H0, Q⟩ := g
  obtain ⟨hx, hb, hml, hown, hts, hK, hA, hlk, rfl, hNW⟩ := C
  subst hp
  intro H locs ls hP hD hS hl
  have hlt : i.toNatClampNeg < n := Nat.not_le.mp fun q => hin (Or.inr q)
  exact W.aald (v := va_rf (f i.toNatClampNeg)) (ty := .array .int) hx hb (hP q0 _ ha) ((hK.2 3 (c 3, .array .int) rfl).1 n (fun j => va_rf (f j))) rfl (fun q => by cases q) (by show ¬ (i < 0 ∨ (arrV _ _ _).slots.size ≤ _); rw [arrV_size]; exact hin) (by show (arrV _ _ _).slots[_]? = _; rw [arrV_read _ _ hlt]) rfl rfl hd (kk H locs ls hP hD hS hl)
/-- a row put into an array of references -/
theorem vs_aast (C : CX g D c cc own Ts nL rm) {a q0 n n1 v : Nat} {f : Nat → Option Nat} {f1 : Nat → Int32} {i : Int32} (ws' : va_W) (ha : ws[q0]? = some (aR c a n f)) (hv : aI c v n1 f1 ∈ ws) (hin : vp_in i n) (hws : ws.set q0 (aR c a n (va_up f i.toNatClampNeg (some v))) = ws') (hd : decode cc pc = .ok (.aastore, 1)) (pc' : Nat) (hp : pc + 1 = pc')
    (kk : VV g D nL cells slots ws' lv pc' st) : VV g D nL cells slots ws lv pc (.ref v :: .int i :: .ref a :: st) := by
  obtain ⟨k, hk⟩ := List.mem_iff_getElem?.mp hv
  exact vv_aastA C ws' ha hk hin hws hd pc' hp kk
/-- the same contents, told otherwise -/
theorem vs_out {segs' : List va_W} {a n : Nat} {f h : Nat → Option Nat} (j : Nat) (hj : segs[j]? = some [aR c a n f]) (he : ∀ i, i < n → f i = h i) (hs : segs.set j [aR c a n h] = segs') (kk : VV g D nL cells slots segs'.flatten lv pc st) : VV g D nL cells slots segs.flatten lv pc st := by
  subst hs
  have hlt : j < segs.length := (List.getElem?_eq_some_iff.mp hj).1
  have p1 := sg_flat (List.Perm.refl [aR c a n f]) (segs := segs) (j := j) hj
  have p2 := sg_flat (List.Perm.refl [aR c a n h]) (segs := segs.set j [aR c a n h]) (j := j) (by rw [List.getElem?_set_self hlt])
  rw [List.set_set] at p2
  refine vv_perm0 p1 ?_
  have ec : ∀ cA : ClassId, vp_cell cA (n, .inr (.inr (.inr (.inr f)))) = vp_cell cA (n, .inr (.inr (.inr (.inr h)))) := fun cA => by
    rw [vp_cell_q, vp_cell_q]
    unfold arrV
    congr 2
    funext i
    show va_rf (f i.1) = va_rf (h i.1)
    rw [he i.1 i.2]
  have kk' := vv_perm0 (g := g) (D := D) (nL := nL) (cells := cells) (slots := slots) (pc := pc) (lv := lv) (st := st) p2.symm kk
  obtain ⟨p, l, e, R, s, m, args, below, meth, c0, A, H0, Q⟩ := g
  intro H locs ls hP hD hS hl
  refine kk' H locs ls (sg_P_iff.mpr (fun q hq => ?_)) ?_ hS hl
  · rcases List.mem_cons.mp hq with rfl | hq
    · have := sg_P_iff.mp hP (aR c a n f) List.mem_cons_self
      show H[a]? = some (vp_cell (c 3) _)
      rw [← ec]
      exact this
    · exact sg_P_iff.mp hP q (List.mem_cons_of_mem _ hq)
  · exact va_D_fst (by rw [List.map_cons, List.map_cons]) hD
theorem vs_snoc {x : Nat × va_E} (kk : VV g D nL cells slots (segs ++ [[x]]).flatten lv pc st) : VV g D nL cells slots (segs.flatten ++ [x]) lv pc st := by rw [sg_snoc]; exact kk
/-- a cell joins a pool: it moves to the end -/
theorem vs_grow {A : Nat → Nat} {N len q : Nat} {F : Nat → Nat → Int32} {f : Nat → Int32} (is : List Nat) (j jc : Nat) (segs1 : List va_W) (hj : segs[j]? = some (rowsW c A N len F)) (hc : segs[jc]? = some [aI c q len f]) (h : is.map (fun i => segs[i]?) = segs1.map some) (hp : (is ++ [j, jc]).isPerm (List.range segs.length) = true)
    (kk : VV g D nL cells slots (segs1 ++ [rowsW c (uN A N q) (N + 1) len (uF F N f)]).flatten lv pc st) : VV g D nL cells slots segs.flatten lv pc st := by
  have e := sg_pick (segs1 := segs1) is [j, jc] h hp
  rw [rows_grow] at kk
  have e2 : ([j, jc].filterMap (fun i => segs[i]?)) = [rowsW c A N len F, [aI c q len f]] := by
    simp only [List.filterMap_cons, hj, hc, List.filterMap_nil]
  rw [e2] at e
  refine vv_perm0 e ?_
  rw [List.flatten_append] at kk
  have e3 : ([rowsW c A N len F, [aI c q len f]] : List va_W).flatten = ([rowsW c A N len F ++ [aI c q len f]] : List va_W).flatten := by simp
  rw [e3]
  exact kk
end VS
theorem vz_callq {p : Program} {l : Launch} {e : Env} {R : Room} {s : State} {m : MethodId} {args : Array Value} {below : List Frame} {meth : Method} {c : Code} {H : Heap} {locs : List Loc} {cells slots : Nat} {Q : State → Prop}
    {pc : Nat} {ls : Array Slot} {rest st0 : List Value} {a : Array Value} {A0 A1 : Nat → Prop} {H0 : Heap} {mc ms : Nat} {free : Addr → Prop} {S : Type} {post : S → Prop} {ro : S → Option Nat} {B : S → State → Prop} (hr : va_Run p l e R s m args below meth c H locs cells slots mc ms (F0 m pc ls st0) rest (vz_Qq post ro B A1 a) free) (hS : va_S A0 H0 H locs) (hA : ∀ q, q < H.size → A1 q → A0 q) (hf : ∀ q, free q → A0 q)
    (kk : ∀ (u : S) (t : State) (H1 : Heap) (locs1 : List Loc), t.heap = H1 → s.vm.Alike t.vm → post u → B u t → H.size ≤ H1.size → (∀ q : Nat, q < H.size → ¬ A1 q → H1[q]? = H[q]?) → va_S A0 H0 H1 locs1 → W p l e R s m args below meth c H1 locs1 (cells + mc) (slots + ms) Q (F0 m (pc + 3) ls (va_rf (ro u) :: rest))) : W p l e R s m args below meth c H locs cells slots Q (F0 m pc ls st0) := by
  intro T hT X
  obtain ⟨v, st₀, t, T', L, h0, X', hL, e1, e2, ⟨⟨u, hv, hp, hb⟩, hz, hk⟩, st⟩ := hr T hT X
  cases hv
  rw [h0] at hz hk
  obtain ⟨t2, a1, b1⟩ := kk u t T'.heap (locs ++ L) e1.symm (by rw [← e2]; exact X'.warmed.alike) hp hb (by rw [e1]; exact hz) (fun q h1 h2 => by rw [e1]; exact hk q h1 h2)
    ⟨Nat.le_trans hS.1 (by rw [e1]; exact hz), fun q h1 h2 => by rw [e1, hk q (Nat.lt_of_lt_of_le h1 hS.1) (fun z => h2 (hA q (Nat.lt_of_lt_of_le h1 hS.1) z))]; exact hS.2.1 q h1 h2, fun q hq => by
      rcases List.mem_append.mp hq with h | h
      · exact hS.2.2 q h
      · exact hf _ (hL q h)⟩ T' rfl X'
  exact ⟨t2, st t2 a1, b1⟩
section VSCalls
variable {S : Type} {g : CtxT} {D : va_G} {c : Nat → ClassId} {cc : ByteArray} {own : String} {Ts : List Cond} {nL cells slots pc : Nat} {rm : Room} {ws : va_W} {lv : List (Nat × Value)} {st : List Value}
variable {y : MethodName} {wy wy' : List Cond} {rmy : Room} {wc : va_W} {w' : S → va_W} {mc ms maxL n index b ci N : Nat} {ret : Option FieldType} {bytes : ByteArray} {Cn host : String} {T : u_T} {As : List Value} {fs : List Value}
theorem vs_callVi (C : CX g D c cc own Ts nL rm) {post : Int32 → S → Prop} (M : ∀ l, MJi l y wy rmy D c wc (.ref b :: As) post w' mc ms) (hG : GoodIn Ts (wsV own index Cn y wy)) (hwy : wy = Cond.code y bytes maxL ret :: wy') (hrc : rmy.cells = mc) (hrs : rmy.slots = ms)
    (hyd : y.cls = Cn ∧ y.cls ≠ "java/lang/invoke/MethodHandle" ∧ y.cls ≠ "java/lang/invoke/VarHandle" ∧ (parseMethodDescriptor y.desc).map (fun d => d.parameters.length) = some n) (hR : rmy.frames + 1 ≤ rm.frames ∧ 8 + (maxL + 11) + rmy.locals ≤ rm.locals)
    (wr : va_W) (hperm : ws.Perm (wr ++ wc)) (k0 : Nat) (hk0 : wc[k0]? = some (b, .inr (ci, fs))) (hci : vwCl[ci]? = some (Cn, T, N)) (hAs : As.length = n) (rest : List Value) (hst : st = As.reverse ++ .ref b :: rest) (hcat : (rest.map fun v => v.category).sum ≤ 8)
    (hf : cells + mc ≤ rm.cells ∧ slots + ms ≤ rm.slots) (hd : decode cc pc = .ok (.invokevirtual index, 3)) (pc' cells' slots' : Nat) (hp : pc + 3 = pc') (hcs : cells + mc = cells' ∧ slots + ms = slots') (kk : ∀ (r : Int32) (u : S), post r u → VV g D nL cells' slots' (wr ++ w' u) lv pc' (.int r :: rest)) : VV g D nL cells slots ws lv pc st := by
  obtain ⟨p, l, e, R, s, m, args, below, meth, c0, A, H0, Q⟩ := g
  obtain ⟨hx, hb, hml, hown, hts, hK, hA, hlk, rfl, hNW⟩ := C
  obtain ⟨rfl, rfl⟩ := hcs
  subst hp; subst hst
  intro H locs ls hP hD hS hl
  have hF := vs_free hperm hD hS hA
  obtain ⟨hPc, hDc⟩ := vs_sub hperm hP hD
  refine va_calli (va_runV (As := As) (rest := rest) ⟨hx, hb, hml, hown, hts⟩ (M l H.size) (cwV n hts hG hwy hrc hrs hyd hR) ⟨CPre_blind, va_recv hK hPc hci hk0, fun U hU hW => ⟨rfl, by rw [hU], by rw [hU]; exact hPc, va_K.moved hW.alike hK, hDc, hNW.warm hW⟩⟩ rfl hAs hl.1 rfl (lv_room hcat) hd hf) hS (fun q _ h => hF q h) hF (fun r_ u t H1 locs1 ht hvm hw hB hz1 hk1 hS1 => ?_)
  obtain ⟨hP1, hK1, hD1⟩ := hB
  rw [ht] at hP1
  obtain ⟨hP2, hD2⟩ := vs_join hperm hP hD hk1 hF hP1 hD1
  exact kk r_ u hw H1 locs1 ls hP2 hD2 hS1 hl
theorem vs_callVv (C : CX g D c cc own Ts nL rm) {post : S → Prop} (M : ∀ l, MJv l y wy rmy D c wc (.ref b :: As) post w' mc ms) (hG : GoodIn Ts (wsV own index Cn y wy)) (hwy : wy = Cond.code y bytes maxL ret :: wy') (hrc : rmy.cells = mc) (hrs : rmy.slots = ms)
    (hyd : y.cls = Cn ∧ y.cls ≠ "java/lang/invoke/MethodHandle" ∧ y.cls ≠ "java/lang/invoke/VarHandle" ∧ (parseMethodDescriptor y.desc).map (fun d => d.parameters.length) = some n) (hR : rmy.frames + 1 ≤ rm.frames ∧ 8 + (maxL + 11) + rmy.locals ≤ rm.locals)
    (wr : va_W) (hperm : ws.Perm (wr ++ wc)) (k0 : Nat) (hk0 : wc[k0]? = some (b, .inr (ci, fs))) (hci : vwCl[ci]? = some (Cn, T, N)) (hAs : As.length = n) (rest : List Value) (hst : st = As.reverse ++ .ref b :: rest) (hcat : (rest.map fun v => v.category).sum ≤ 8)
    (hf : cells + mc ≤ rm.cells ∧ slots + ms ≤ rm.slots) (hd : decode cc pc = .ok (.invokevirtual index, 3)) (pc' cells' slots' : Nat) (hp : pc + 3 = pc') (hcs : cells + mc = cells' ∧ slots + ms = slots') (kk : ∀ (u : S), post u → VV g D nL cells' slots' (wr ++ w' u) lv pc' (rest)) : VV g D nL cells slots ws lv pc st := by
  obtain ⟨p, l, e, R, s, m, args, below, meth, c0, A, H0, Q⟩ := g
  obtain ⟨hx, hb, hml, hown, hts, hK, hA, hlk, rfl, hNW⟩ := C
  obtain ⟨rfl, rfl⟩ := hcs
  subst hp; subst hst
  intro H locs ls hP hD hS hl
  have hF := vs_free hperm hD hS hA
  obtain ⟨hPc, hDc⟩ := vs_sub hperm hP hD
  refine va_callv (va_runV (As := As) (rest := rest) ⟨hx, hb, hml, hown, hts⟩ (M l H.size) (cwV n hts hG hwy hrc hrs hyd hR) ⟨CPre_blind, va_recv hK hPc hci hk0, fun U hU hW => ⟨rfl, by rw [hU], by rw [hU]; exact hPc, va_K.moved hW.alike hK, hDc, hNW.warm hW⟩⟩ rfl hAs hl.1 rfl (lv_room hcat) hd hf) hS (fun q _ h => hF q h) hF (fun u t H1 locs1 ht hvm hw hB hz1 hk1 hS1 => ?_)
  obtain ⟨hP1, hK1, hD1⟩ := hB
  rw [ht] at hP1
  obtain ⟨hP2, hD2⟩ := vs_join hperm hP hD hk1 hF hP1 hD1
  exact kk u hw H1 locs1 ls hP2 hD2 hS1 hl
theorem vs_callVq (C : CX g D c cc own Ts nL rm) {post : S → Prop} {ro : S → Option Nat} (M : ∀ l, MJq l y wy rmy D c wc (.ref b :: As) post ro w' mc ms) (hG : GoodIn Ts (wsV own index Cn y wy)) (hwy : wy = Cond.code y bytes maxL ret :: wy') (hrc : rmy.cells = mc) (hrs : rmy.slots = ms)
    (hyd : y.cls = Cn ∧ y.cls ≠ "java/lang/invoke/MethodHandle" ∧ y.cls ≠ "java/lang/invoke/VarHandle" ∧ (parseMethodDescriptor y.desc).map (fun d => d.parameters.length) = some n) (hR : rmy.frames + 1 ≤ rm.frames ∧ 8 + (maxL + 11) + rmy.locals ≤ rm.locals)
    (wr : va_W) (hperm : ws.Perm (wr ++ wc)) (k0 : Nat) (hk0 : wc[k0]? = some (b, .inr (ci, fs))) (hci : vwCl[ci]? = some (Cn, T, N)) (hAs : As.length = n) (rest : List Value) (hst : st = As.reverse ++ .ref b :: rest) (hcat : (rest.map fun v => v.category).sum ≤ 8)
    (hf : cells + mc ≤ rm.cells ∧ slots + ms ≤ rm.slots) (hd : decode cc pc = .ok (.invokevirtual index, 3)) (pc' cells' slots' : Nat) (hp : pc + 3 = pc') (hcs : cells + mc = cells' ∧ slots + ms = slots') (kk : ∀ (u : S), post u → VV g D nL cells' slots' (wr ++ w' u) lv pc' (va_rf (ro u) :: rest)) : VV g D nL cells slots ws lv pc st := by
  obtain ⟨p, l, e, R, s, m, args, below, meth, c0, A, H0, Q⟩ := g
  obtain ⟨hx, hb, hml, hown, hts, hK, hA, hlk, rfl, hNW⟩ := C
  obtain ⟨rfl, rfl⟩ := hcs
  subst hp; subst hst
  intro H locs ls hP hD hS hl
  have hF := vs_free hperm hD hS hA
  obtain ⟨hPc, hDc⟩ := vs_sub hperm hP hD
  refine vz_callq (va_runV (As := As) (rest := rest) ⟨hx, hb, hml, hown, hts⟩ (M l H.size) (cwV n hts hG hwy hrc hrs hyd hR) ⟨CPre_blind, va_recv hK hPc hci hk0, fun U hU hW => ⟨rfl, by rw [hU], by rw [hU]; exact hPc, va_K.moved hW.alike hK, hDc, hNW.warm hW⟩⟩ rfl hAs hl.1 rfl (lv_room hcat) hd hf) hS (fun q _ h => hF q h) hF (fun u t H1 locs1 ht hvm hw hB hz1 hk1 hS1 => ?_)
  obtain ⟨hP1, hK1, hD1⟩ := hB
  rw [ht] at hP1
  obtain ⟨hP2, hD2⟩ := vs_join hperm hP hD hk1 hF hP1 hD1
  exact kk u hw H1 locs1 ls hP2 hD2 hS1 hl
theorem vs_callSi (C : CX g D c cc own Ts nL rm) {post : Int32 → S → Prop} (M : ∀ l, MJi l y wy rmy D c wc As post w' mc ms) (hG : GoodIn Ts (va_wsS own index y wy)) (hwy : wy = Cond.code y bytes maxL ret :: wy') (hrc : rmy.cells = mc) (hrs : rmy.slots = ms)
    (hyd : y.cls ≠ "java/lang/invoke/MethodHandle" ∧ y.cls ≠ "java/lang/invoke/VarHandle" ∧ (parseMethodDescriptor y.desc).map (fun d => d.parameters.length) = some n) (hR : rmy.frames + 1 ≤ rm.frames ∧ 8 + (maxL + 11) + rmy.locals ≤ rm.locals)
    (wr : va_W) (hperm : ws.Perm (wr ++ wc)) (hAs : As.length = n) (rest : List Value) (hst : st = As.reverse ++ rest) (hcat : (rest.map fun v => v.category).sum ≤ 8)
    (hf : cells + mc ≤ rm.cells ∧ slots + ms ≤ rm.slots) (hd : decode cc pc = .ok (.invokestatic index, 3)) (pc' cells' slots' : Nat) (hp : pc + 3 = pc') (hcs : cells + mc = cells' ∧ slots + ms = slots') (kk : ∀ (r : Int32) (u : S), post r u → VV g D nL cells' slots' (wr ++ w' u) lv pc' (.int r :: rest)) : VV g D nL cells slots ws lv pc st := by
  obtain ⟨p, l, e, R, s, m, args, below, meth, c0, A, H0, Q⟩ := g
  obtain ⟨hx, hb, hml, hown, hts, hK, hA, hlk, rfl, hNW⟩ := C
  obtain ⟨rfl, rfl⟩ := hcs
  subst hp; subst hst
  intro H locs ls hP hD hS hl
  have hF := vs_free hperm hD hS hA
  obtain ⟨hPc, hDc⟩ := vs_sub hperm hP hD
  refine va_calli (va_runS (As := As) (rest := rest) ⟨hx, hb, hml, hown, hts⟩ (M l H.size) (va_cwS n hts hG hwy hrc hrs hyd hR) ⟨CPre_blind, fun U hU hW => ⟨rfl, by rw [hU], by rw [hU]; exact hPc, va_K.moved hW.alike hK, hDc, hNW.warm hW⟩⟩ rfl hAs hl.1 rfl (lv_room hcat) hd hf) hS (fun q _ h => hF q h) hF (fun r_ u t H1 locs1 ht hvm hw hB hz1 hk1 hS1 => ?_)
  obtain ⟨hP1, hK1, hD1⟩ := hB
  rw [ht] at hP1
  obtain ⟨hP2, hD2⟩ := vs_join hperm hP hD hk1 hF hP1 hD1
  exact kk r_ u hw H1 locs1 ls hP2 hD2 hS1 hl
theorem vs_callSv (C : CX g D c cc own Ts nL rm) {post : S → Prop} (M : ∀ l, MJv l y wy rmy D c wc As post w' mc ms) (hG : GoodIn Ts (va_wsS own index y wy)) (hwy : wy = Cond.code y bytes maxL ret :: wy') (hrc : rmy.cells = mc) (hrs : rmy.slots = ms)
    (hyd : y.cls ≠ "java/lang/invoke/MethodHandle" ∧ y.cls ≠ "java/lang/invoke/VarHandle" ∧ (parseMethodDescriptor y.desc).map (fun d => d.parameters.length) = some n) (hR : rmy.frames + 1 ≤ rm.frames ∧ 8 + (maxL + 11) + rmy.locals ≤ rm.locals)
    (wr : va_W) (hperm : ws.Perm (wr ++ wc)) (hAs : As.length = n) (rest : List Value) (hst : st = As.reverse ++ rest) (hcat : (rest.map fun v => v.category).sum ≤ 8)
    (hf : cells + mc ≤ rm.cells ∧ slots + ms ≤ rm.slots) (hd : decode cc pc = .ok (.invokestatic index, 3)) (pc' cells' slots' : Nat) (hp : pc + 3 = pc') (hcs : cells + mc = cells' ∧ slots + ms = slots') (kk : ∀ (u : S), post u → VV g D nL cells' slots' (wr ++ w' u) lv pc' (rest)) : VV g D nL cells slots ws lv pc st := by
  obtain ⟨p, l, e, R, s, m, args, below, meth, c0, A, H0, Q⟩ := g
  obtain ⟨hx, hb, hml, hown, hts, hK, hA, hlk, rfl, hNW⟩ := C
  obtain ⟨rfl, rfl⟩ := hcs
  subst hp; subst hst
  intro H locs ls hP hD hS hl
  have hF := vs_free hperm hD hS hA
  obtain ⟨hPc, hDc⟩ := vs_sub hperm hP hD
  refine va_callv (va_runS (As := As) (rest := rest) ⟨hx, hb, hml, hown, hts⟩ (M l H.size) (va_cwS n hts hG hwy hrc hrs hyd hR) ⟨CPre_blind, fun U hU hW => ⟨rfl, by rw [hU], by rw [hU]; exact hPc, va_K.moved hW.alike hK, hDc, hNW.warm hW⟩⟩ rfl hAs hl.1 rfl (lv_room hcat) hd hf) hS (fun q _ h => hF q h) hF (fun u t H1 locs1 ht hvm hw hB hz1 hk1 hS1 => ?_)
  obtain ⟨hP1, hK1, hD1⟩ := hB
  rw [ht] at hP1
  obtain ⟨hP2, hD2⟩ := vs_join hperm hP hD hk1 hF hP1 hD1
  exact kk u hw H1 locs1 ls hP2 hD2 hS1 hl
theorem vs_callSq (C : CX g D c cc own Ts nL rm) {post : S → Prop} {ro : S → Option Nat} (M : ∀ l, MJq l y wy rmy D c wc As post ro w' mc ms) (hG : GoodIn Ts (va_wsS own index y wy)) (hwy : wy = Cond.code y bytes maxL ret :: wy') (hrc : rmy.cells = mc) (hrs : rmy.slots = ms)
    (hyd : y.cls ≠ "java/lang/invoke/MethodHandle" ∧ y.cls ≠ "java/lang/invoke/VarHandle" ∧ (parseMethodDescriptor y.desc).map (fun d => d.parameters.length) = some n) (hR : rmy.frames + 1 ≤ rm.frames ∧ 8 + (maxL + 11) + rmy.locals ≤ rm.locals)
    (wr : va_W) (hperm : ws.Perm (wr ++ wc)) (hAs : As.length = n) (rest : List Value) (hst : st = As.reverse ++ rest) (hcat : (rest.map fun v => v.category).sum ≤ 8)
    (hf : cells + mc ≤ rm.cells ∧ slots + ms ≤ rm.slots) (hd : decode cc pc = .ok (.invokestatic index, 3)) (pc' cells' slots' : Nat) (hp : pc + 3 = pc') (hcs : cells + mc = cells' ∧ slots + ms = slots') (kk : ∀ (u : S), post u → VV g D nL cells' slots' (wr ++ w' u) lv pc' (va_rf (ro u) :: rest)) : VV g D nL cells slots ws lv pc st := by
  obtain ⟨p, l, e, R, s, m, args, below, meth, c0, A, H0, Q⟩ := g
  obtain ⟨hx, hb, hml, hown, hts, hK, hA, hlk, rfl, hNW⟩ := C
  obtain ⟨rfl, rfl⟩ := hcs
  subst hp; subst hst
  intro H locs ls hP hD hS hl
  have hF := vs_free hperm hD hS hA
  obtain ⟨hPc, hDc⟩ := vs_sub hperm hP hD
  refine vz_callq (va_runS (As := As) (rest := rest) ⟨hx, hb, hml, hown, hts⟩ (M l H.size) (va_cwS n hts hG hwy hrc hrs hyd hR) ⟨CPre_blind, fun U hU hW => ⟨rfl, by rw [hU], by rw [hU]; exact hPc, va_K.moved hW.alike hK, hDc, hNW.warm hW⟩⟩ rfl hAs hl.1 rfl (lv_room hcat) hd hf) hS (fun q _ h => hF q h) hF (fun u t H1 locs1 ht hvm hw hB hz1 hk1 hS1 => ?_)
  obtain ⟨hP1, hK1, hD1⟩ := hB
  rw [ht] at hP1
  obtain ⟨hP2, hD2⟩ := vs_join hperm hP hD hk1 hF hP1 hD1
  exact kk u hw H1 locs1 ls hP2 hD2 hS1 hl
end VSCalls
theorem vv_cs {g : CtxT} {D : va_G} {nL cells slots pc k n : Nat} {ws : va_W} {lv : List (Nat × Value)} {st : List Value} (h1 : cells = k) (h2 : slots = n) (kk : VV g D nL k n ws lv pc st) : VV g D nL cells slots ws lv pc st := by
  subst h1; subst h2; exact kk
