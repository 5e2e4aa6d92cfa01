abbrev vwCl : List vw_C := [(RX0, TX0, 12), (RX1, TX1, 3), (RX2, TX2, 5), (RX3, TX3, 7), (RX4, TX4, 7), (RX5, TX5, 4), (RX6, TX6, 5), (RX7, TX7, 9)]
/-! the bundled judgement: a frame over a world of cells, with its locals by a list -/
abbrev tyL (c : Nat → ClassId) : List (ClassId × FieldType) := [(c 0, .int), (c 1, .boolean), (c 2, .byte), (c 3, .array .int)]
abbrev CtxT : Type := Program × Launch × Env × Room × State × MethodId × Array Value × List Frame × Method × Code × (Nat → Prop) × Heap × (State → Prop)
/-- what the tables say beside the good words: nest mates, arrays' clones -/
def NW (c : Nat → ClassId) (U : State) : Prop := va_Nw (.methodLinkNest RX4 30 yX6_isSea RX6) U ∧ va_Nw (.methodLinkNest RX6 18 yX3_init RX6) U ∧ va_Nw (.methodLinkNest RX6 28 yX5_init RX6) U ∧ va_Nw (.methodLinkNest RX3 11 yX0_init RX6) U ∧ va_Nw (.methodLinkNest RX3 20 yX1_init RX6) U ∧ va_Nw (.methodLinkNest RX3 27 yX2_init RX6) U ∧ va_Nw (.methodLinkNest RL 11 yX7_init RL) U ∧ (Cond.arrayOver (.array .int)).before #[] U = true ∧ ∃ k : Class, U.vm.classes[c 3]? = some k ∧ k.kind = .array (c 0) (.array .int)
theorem NW.moved3 {c : Nat → ClassId} {u U : State} (hvm : u.vm.Alike U.vm) (h : ∃ k : Class, u.vm.classes[c 3]? = some k ∧ k.kind = .array (c 0) (.array .int)) : ∃ k : Class, U.vm.classes[c 3]? = some k ∧ k.kind = .array (c 0) (.array .int) := by
  obtain ⟨k, h1, h2⟩ := h
  obtain ⟨k', hk', he⟩ := hvm.2.2 _ _ h1
  exact ⟨k', hk', by rw [he]; exact h2⟩
theorem NW.warm {c : Nat → ClassId} {s U : State} (hW : s.WarmedH U.vm) (h : NW c s) : NW c U := ⟨h.1.warmM hW, h.2.1.warmM hW, h.2.2.1.warmM hW, h.2.2.2.1.warmM hW, h.2.2.2.2.1.warmM hW, h.2.2.2.2.2.1.warmM hW, h.2.2.2.2.2.2.1.warmM hW, over_moved hW.alike h.2.2.2.2.2.2.2.1, NW.moved3 hW.alike h.2.2.2.2.2.2.2.2⟩
theorem NW.same {c : Nat → ClassId} {u U : State} (h : u.vm = U.vm) (hZ : NW c u) : NW c U := ⟨hZ.1.same rfl h, hZ.2.1.same rfl h, hZ.2.2.1.same rfl h, hZ.2.2.2.1.same rfl h, hZ.2.2.2.2.1.same rfl h, hZ.2.2.2.2.2.1.same rfl h, hZ.2.2.2.2.2.2.1.same rfl h, over_moved (by rw [h]; exact Vm.Alike.refl _) hZ.2.2.2.2.2.2.2.1, by rw [← h]; exact hZ.2.2.2.2.2.2.2.2⟩
theorem NW.over {c : Nat → ClassId} {U : State} {a : Array Value} (h : NW c U) : (Cond.arrayOver (.array .int)).before a U = true := over_moved (Vm.Alike.refl _) h.2.2.2.2.2.2.2.1
theorem NW.rows {c : Nat → ClassId} {U : State} (h : NW c U) : ∃ k : Class, U.vm.classes[c 3]? = some k ∧ k.kind = .array (c 0) (.array .int) := h.2.2.2.2.2.2.2.2
theorem NW.sim {c : Nat → ClassId} {U : State} (h : NW c U) : va_Nw (.methodLinkNest RL 11 yX7_init RL) U := h.2.2.2.2.2.2.1
def VV : CtxT → va_G → Nat → Nat → Nat → va_W → List (Nat × Value) → Nat → List Value → Prop
  | (p, l, e, R, s, m, args, below, meth, c0, A, H0, Q), D, nL, cells, slots, ws, lv, pc, st =>
    ∀ (H : Heap) (locs : List Loc) (ls : Array Slot), va_P D vwCl ws H → va_D A ws → va_S A H0 H locs → lv_has ls nL lv → W p l e R s m args below meth c0 H locs cells slots Q (F0 m pc ls st)
def CX : CtxT → va_G → (Nat → ClassId) → ByteArray → String → List Cond → Nat → Room → Prop
  | (p, _, _, R, s, m, args, _, meth, c0, A, H0, _), D, c, cc, own, Ts, nL, rm =>
    p.tables.exec = Jvm.exec ∧ c0.code = cc ∧ c0.maxLocals = nL ∧ s.vm.findClass own = some m.cls ∧ (∀ w ∈ Ts, w.before args s = true) ∧ va_K D vwCl (tyL c) s ∧ (∀ q, H0.size ≤ q → A q) ∧ meth.locks = false ∧ R = rm ∧ NW c s
/-! reads and writes of a row, by an index as the machine has it -/
def rd (f : Nat → Int32) (i : Int32) : Int32 := f i.toNatClampNeg
def wr (f : Nat → Int32) (i x : Int32) : Nat → Int32 := upd f i.toNatClampNeg x
def inB (i : Int32) (n : Nat) : Bool := decide (0 ≤ i.toInt ∧ i.toInt < n)
theorem inB_t {i : Int32} {n : Nat} (h : inB i n = true) : vp_in i n := vp_in_iff.mpr (of_decide_eq_true h)
def chk {α : Type} (n : Nat) (i : Int32) (k : Option α) : Option α := if inB i n = true then k else none
theorem chk_s {α : Type} {n : Nat} {i : Int32} {k : Option α} {r : α} (h : chk n i k = some r) : vp_in i n ∧ k = some r := by
  unfold chk at h
  by_cases hc : inB i n = true
  · rw [if_pos hc] at h; exact ⟨inB_t hc, h⟩
  · rw [if_neg hc] at h; cases h
def chkP {α : Type} (P : Prop) [Decidable P] (k : Option α) : Option α := if P then k else none
theorem chkP_s {α : Type} {P : Prop} [Decidable P] {k : Option α} {r : α} (h : chkP P k = some r) : P ∧ k = some r := by
  unfold chkP at h
  by_cases hc : P
  · rw [if_pos hc] at h; exact ⟨hc, h⟩
  · rw [if_neg hc] at h; cases h
def bnd {α β : Type} (o : Option α) (k : α → Option β) : Option β := o.bind k
theorem bnd_s {α β : Type} {o : Option α} {k : α → Option β} {r : β} (h : bnd o k = some r) : ∃ q, o = some q ∧ k q = some r := by
  cases o with
  | none => cases h
  | some q => exact ⟨q, rfl, h⟩
def chkZ {α : Type} (v : Int32) (k : Option α) : Option α := if v = 0 ∨ v = 1 then k else none
theorem chkZ_s {α : Type} {v : Int32} {k : Option α} {r : α} (h : chkZ v k = some r) : (v = 0 ∨ v = 1) ∧ k = some r := by
  unfold chkZ at h
  by_cases hc : v = 0 ∨ v = 1
  · rw [if_pos hc] at h; exact ⟨hc, h⟩
  · rw [if_neg hc] at h; cases h
def jn {α β : Type} (F : α → Option β) (B : (α → Option β) → Option β) : Option β := B F
theorem jn_s {α β : Type} {F : α → Option β} {B : (α → Option β) → Option β} {r : β} (h : jn F B = some r) : ∃ k, k = F ∧ B k = some r := ⟨F, rfl, h⟩
theorem jn_u {α β : Type} {k F : α → Option β} {a : α} {r : β} (hk : k = F) (h : k a = some r) : F a = some r := hk ▸ h
def FU : Nat := 1000
abbrev aI (c : Nat → ClassId) (a n : Nat) (f : Nat → Int32) : Nat × va_E := (a, .inl (c 0, n, .inl f))
abbrev aZ (c : Nat → ClassId) (a n : Nat) (f : Nat → Int32) : Nat × va_E := (a, .inl (c 1, n, .inl f))
def sel {α β γ : Type} (q : α ⊕ β) (f : α → γ) (g : β → γ) : γ := match q with
  | .inl a => f a
  | .inr b => g b
theorem sel_l {α β γ : Type} {a : α} {f : α → Option γ} {k : β → Option γ} {r : γ} (h : sel (.inl a) f k = some r) : f a = some r := h
theorem sel_r {α β γ : Type} {b : β} {f : α → Option γ} {k : β → Option γ} {r : γ} (h : sel (.inr b) f k = some r) : k b = some r := h
theorem ite_t {α : Type} {P : Prop} [Decidable P] {a b : Option α} {r : α} (c : P) (h : (if P then a else b) = some r) : a = some r := by rw [if_pos c] at h; exact h
theorem ite_f {α : Type} {P : Prop} [Decidable P] {a b : Option α} {r : α} (c : ¬ P) (h : (if P then a else b) = some r) : b = some r := by rw [if_neg c] at h; exact h

abbrev CPOK (n0 n1 : Nat) (sp dp n : Int32) : Prop := ¬ sp < 0 ∧ ¬ dp < 0 ∧ ¬ n < 0 ∧ sp.toNatClampNeg + n.toNatClampNeg ≤ n0 ∧ dp.toNatClampNeg + n.toNatClampNeg ≤ n1
def cpy (f f1 : Nat → Int32) (sp dp n : Int32) : Nat → Int32 := va_cpy f f1 sp.toNatClampNeg dp.toNatClampNeg n.toNatClampNeg
def mmin (x y : Int32) : Int32 := if y < x then y else x
def mmax (x y : Int32) : Int32 := if x < y then y else x
def mabs (x : Int32) : Int32 := if 0 ≤ x then x else 0 - x
theorem fm_of_map {α : Type} {l : List α} : ∀ {is : List Nat} {w : List α}, is.map (fun i => l[i]?) = w.map some → is.filterMap (fun i => l[i]?) = w
  | [], [], _ => rfl
  | [], _ :: _, h => by cases h
  | _ :: _, [], h => by cases h
  | i :: is, a :: w, h => by
    rw [List.map_cons, List.map_cons] at h
    obtain ⟨h1, h2⟩ := List.cons.inj h
    rw [List.filterMap_cons, h1, fm_of_map h2]
section VVRows
variable {g : CtxT} {D : va_G} {c : Nat → ClassId} {cc : ByteArray} {own : String} {Ts : List Cond} {nL cells slots pc : Nat} {rm : Room} {ws : va_W} {lv : List (Nat × Value)} {st : List Value}
theorem vv_iconst (C : CX g D c cc own Ts nL rm) {n : Int} {v : Int32} (hd : decode cc pc = .ok (.iconst n, 1)) (hv : Int32.ofInt n = v) (pc' : Nat) (hp : pc + 1 = pc') (kk : VV g D nL cells slots ws lv pc' (.int v :: st)) : VV g D nL cells slots ws lv pc st := by
  obtain ⟨p, l, e, R, s, m, args, below, meth, c0, A, H0, Q⟩ := g
  obtain ⟨hx, hb, hml, hown, hts, hK, hA, hlk, rfl, hNW⟩ := C
  subst hp
  intro H locs ls hP hD hS hl
  exact lv_iconst hx hb hd hv (kk H locs ls hP hD hS hl)
theorem vv_bipush (C : CX g D c cc own Ts nL rm) {n : Int} {v : Int32} (hd : decode cc pc = .ok (.bipush n, 2)) (hv : (Int8.ofInt n).toInt32 = v) (pc' : Nat) (hp : pc + 2 = pc') (kk : VV g D nL cells slots ws lv pc' (.int v :: st)) : VV g D nL cells slots ws lv pc st := by
  obtain ⟨p, l, e, R, s, m, args, below, meth, c0, A, H0, Q⟩ := g
  obtain ⟨hx, hb, hml, hown, hts, hK, hA, hlk, rfl, hNW⟩ := C
  subst hp
  intro H locs ls hP hD hS hl
  exact lv_bipush hx hb hd hv (kk H locs ls hP hD hS hl)
theorem vv_sipush (C : CX g D c cc own Ts nL rm) {n : Int} {v : Int32} (hd : decode cc pc = .ok (.sipush n, 3)) (hv : (Int16.ofInt n).toInt32 = v) (pc' : Nat) (hp : pc + 3 = pc') (kk : VV g D nL cells slots ws lv pc' (.int v :: st)) : VV g D nL cells slots ws lv pc st := by
  obtain ⟨p, l, e, R, s, m, args, below, meth, c0, A, H0, Q⟩ := g
  obtain ⟨hx, hb, hml, hown, hts, hK, hA, hlk, rfl, hNW⟩ := C
  subst hp
  intro H locs ls hP hD hS hl
  exact lv_sipush hx hb hd hv (kk H locs ls hP hD hS hl)
theorem vv_iload_n (C : CX g D c cc own Ts nL rm) {k : Fin 4} {i : Nat} {x : Int32} (hd : decode cc pc = .ok (.iload_n k, 1)) (hi : (k : Nat) = i) (j : Nat) (hj : lv[j]? = some (i, .int x)) (pc' : Nat) (hp : pc + 1 = pc') (kk : VV g D nL cells slots ws lv pc' (.int x :: st)) : VV g D nL cells slots ws lv pc st := by
  obtain ⟨p, l, e, R, s, m, args, below, meth, c0, A, H0, Q⟩ := g
  obtain ⟨hx, hb, hml, hown, hts, hK, hA, hlk, rfl, hNW⟩ := C
  subst hp
  intro H locs ls hP hD hS hl
  exact lv_iload_n hx hb hd hi (lv_at hl j hj) (kk H locs ls hP hD hS hl)
theorem vv_iload (C : CX g D c cc own Ts nL rm) {i : Nat} {x : Int32} (hd : decode cc pc = .ok (.iload i, 2)) (j : Nat) (hj : lv[j]? = some (i, .int x)) (pc' : Nat) (hp : pc + 2 = pc') (kk : VV g D nL cells slots ws lv pc' (.int x :: st)) : VV g D nL cells slots ws lv pc st := by
  obtain ⟨p, l, e, R, s, m, args, below, meth, c0, A, H0, Q⟩ := g
  obtain ⟨hx, hb, hml, hown, hts, hK, hA, hlk, rfl, hNW⟩ := C
  subst hp
  intro H locs ls hP hD hS hl
  exact lv_iload hx hb hd (lv_at hl j hj) (kk H locs ls hP hD hS hl)
theorem vv_istore_n (C : CX g D c cc own Ts nL rm) {k : Fin 4} {i : Nat} {x : Int32} (lv' : List (Nat × Value)) (hd : decode cc pc = .ok (.istore_n k, 1)) (hi : (k : Nat) = i) (hn : i < nL) (hl' : (i, Value.int x) :: lv.filter (fun q => !(q.1 == i) && !(q.1 + 1 == i && q.2.category == 2)) = lv') (pc' : Nat) (hp : pc + 1 = pc') (kk : VV g D nL cells slots ws lv' pc' st) : VV g D nL cells slots ws lv pc (.int x :: st) := by
  obtain ⟨p, l, e, R, s, m, args, below, meth, c0, A, H0, Q⟩ := g
  obtain ⟨hx, hb, hml, hown, hts, hK, hA, hlk, rfl, hNW⟩ := C
  subst hp
  intro H locs ls hP hD hS hl
  exact lv_istore_n hx hb hd hi hl hn hl' (fun ls hl => (kk H locs ls hP hD hS hl))
theorem vv_istore (C : CX g D c cc own Ts nL rm) {i : Nat} {x : Int32} (lv' : List (Nat × Value)) (hd : decode cc pc = .ok (.istore i, 2)) (hn : i < nL) (hl' : (i, Value.int x) :: lv.filter (fun q => !(q.1 == i) && !(q.1 + 1 == i && q.2.category == 2)) = lv') (pc' : Nat) (hp : pc + 2 = pc') (kk : VV g D nL cells slots ws lv' pc' st) : VV g D nL cells slots ws lv pc (.int x :: st) := by
  obtain ⟨p, l, e, R, s, m, args, below, meth, c0, A, H0, Q⟩ := g
  obtain ⟨hx, hb, hml, hown, hts, hK, hA, hlk, rfl, hNW⟩ := C
  subst hp
  intro H locs ls hP hD hS hl
  exact lv_istore hx hb hd hl hn hl' (fun ls hl => (kk H locs ls hP hD hS hl))
theorem vv_lload_n (C : CX g D c cc own Ts nL rm) {k : Fin 4} {i : Nat} {x : Int64} (hd : decode cc pc = .ok (.lload_n k, 1)) (hi : (k : Nat) = i) (j : Nat) (hj : lv[j]? = some (i, .long x)) (pc' : Nat) (hp : pc + 1 = pc') (kk : VV g D nL cells slots ws lv pc' (.long x :: st)) : VV g D nL cells slots ws lv pc st := by
  obtain ⟨p, l, e, R, s, m, args, below, meth, c0, A, H0, Q⟩ := g
  obtain ⟨hx, hb, hml, hown, hts, hK, hA, hlk, rfl, hNW⟩ := C
  subst hp
  intro H locs ls hP hD hS hl
  exact lv_lload_n hx hb hd hi (lv_at hl j hj) (kk H locs ls hP hD hS hl)
theorem vv_lload (C : CX g D c cc own Ts nL rm) {i : Nat} {x : Int64} (hd : decode cc pc = .ok (.lload i, 2)) (j : Nat) (hj : lv[j]? = some (i, .long x)) (pc' : Nat) (hp : pc + 2 = pc') (kk : VV g D nL cells slots ws lv pc' (.long x :: st)) : VV g D nL cells slots ws lv pc st := by
  obtain ⟨p, l, e, R, s, m, args, below, meth, c0, A, H0, Q⟩ := g
  obtain ⟨hx, hb, hml, hown, hts, hK, hA, hlk, rfl, hNW⟩ := C
  subst hp
  intro H locs ls hP hD hS hl
  exact lv_lload hx hb hd (lv_at hl j hj) (kk H locs ls hP hD hS hl)
theorem vv_lstore_n (C : CX g D c cc own Ts nL rm) {k : Fin 4} {i : Nat} {x : Int64} (lv' : List (Nat × Value)) (hd : decode cc pc = .ok (.lstore_n k, 1)) (hi : (k : Nat) = i) (hn : i + 1 < nL) (hl' : (i, Value.long x) :: lv.filter (fun q => !(q.1 == i) && (!(q.1 == i + 1) && !(q.1 + 1 == i && q.2.category == 2))) = lv') (pc' : Nat) (hp : pc + 1 = pc') (kk : VV g D nL cells slots ws lv' pc' st) : VV g D nL cells slots ws lv pc (.long x :: st) := by
  obtain ⟨p, l, e, R, s, m, args, below, meth, c0, A, H0, Q⟩ := g
  obtain ⟨hx, hb, hml, hown, hts, hK, hA, hlk, rfl, hNW⟩ := C
  subst hp
  intro H locs ls hP hD hS hl
  exact lv_lstore_n hx hb hd hi hl hn hl' (fun ls hl => (kk H locs ls hP hD hS hl))
theorem vv_lstore (C : CX g D c cc own Ts nL rm) {i : Nat} {x : Int64} (lv' : List (Nat × Value)) (hd : decode cc pc = .ok (.lstore i, 2)) (hn : i + 1 < nL) (hl' : (i, Value.long x) :: lv.filter (fun q => !(q.1 == i) && (!(q.1 == i + 1) && !(q.1 + 1 == i && q.2.category == 2))) = lv') (pc' : Nat) (hp : pc + 2 = pc') (kk : VV g D nL cells slots ws lv' pc' st) : VV g D nL cells slots ws lv pc (.long x :: st) := by
  obtain ⟨p, l, e, R, s, m, args, below, meth, c0, A, H0, Q⟩ := g
  obtain ⟨hx, hb, hml, hown, hts, hK, hA, hlk, rfl, hNW⟩ := C
  subst hp
  intro H locs ls hP hD hS hl
  exact lv_lstore hx hb hd hl hn hl' (fun ls hl => (kk H locs ls hP hD hS hl))
theorem vv_aload_n (C : CX g D c cc own Ts nL rm) {k : Fin 4} {i : Nat} {x : Nat} (hd : decode cc pc = .ok (.aload_n k, 1)) (hi : (k : Nat) = i) (j : Nat) (hj : lv[j]? = some (i, .ref x)) (pc' : Nat) (hp : pc + 1 = pc') (kk : VV g D nL cells slots ws lv pc' (.ref x :: st)) : VV g D nL cells slots ws lv pc st := by
  obtain ⟨p, l, e, R, s, m, args, below, meth, c0, A, H0, Q⟩ := g
  obtain ⟨hx, hb, hml, hown, hts, hK, hA, hlk, rfl, hNW⟩ := C
  subst hp
  intro H locs ls hP hD hS hl
  exact lv_aload_n hx hb hd hi (lv_at hl j hj) (kk H locs ls hP hD hS hl)
theorem vv_aload (C : CX g D c cc own Ts nL rm) {i : Nat} {x : Nat} (hd : decode cc pc = .ok (.aload i, 2)) (j : Nat) (hj : lv[j]? = some (i, .ref x)) (pc' : Nat) (hp : pc + 2 = pc') (kk : VV g D nL cells slots ws lv pc' (.ref x :: st)) : VV g D nL cells slots ws lv pc st := by
  obtain ⟨p, l, e, R, s, m, args, below, meth, c0, A, H0, Q⟩ := g
  obtain ⟨hx, hb, hml, hown, hts, hK, hA, hlk, rfl, hNW⟩ := C
  subst hp
  intro H locs ls hP hD hS hl
  exact lv_aload hx hb hd (lv_at hl j hj) (kk H locs ls hP hD hS hl)
theorem vv_astore_n (C : CX g D c cc own Ts nL rm) {k : Fin 4} {i : Nat} {x : Nat} (lv' : List (Nat × Value)) (hd : decode cc pc = .ok (.astore_n k, 1)) (hi : (k : Nat) = i) (hn : i < nL) (hl' : (i, Value.ref x) :: lv.filter (fun q => !(q.1 == i) && !(q.1 + 1 == i && q.2.category == 2)) = lv') (pc' : Nat) (hp : pc + 1 = pc') (kk : VV g D nL cells slots ws lv' pc' st) : VV g D nL cells slots ws lv pc (.ref x :: st) := by
  obtain ⟨p, l, e, R, s, m, args, below, meth, c0, A, H0, Q⟩ := g
  obtain ⟨hx, hb, hml, hown, hts, hK, hA, hlk, rfl, hNW⟩ := C
  subst hp
  intro H locs ls hP hD hS hl
  exact lv_astore_n hx hb hd hi hl hn hl' (fun ls hl => (kk H locs ls hP hD hS hl))
theorem vv_astore (C : CX g D c cc own Ts nL rm) {i : Nat} {x : Nat} (lv' : List (Nat × Value)) (hd : decode cc pc = .ok (.astore i, 2)) (hn : i < nL) (hl' : (i, Value.ref x) :: lv.filter (fun q => !(q.1 == i) && !(q.1 + 1 == i && q.2.category == 2)) = lv') (pc' : Nat) (hp : pc + 2 = pc') (kk : VV g D nL cells slots ws lv' pc' st) : VV g D nL cells slots ws lv pc (.ref x :: st) := by
  obtain ⟨p, l, e, R, s, m, args, below, meth, c0, A, H0, Q⟩ := g
  obtain ⟨hx, hb, hml, hown, hts, hK, hA, hlk, rfl, hNW⟩ := C
  subst hp
  intro H locs ls hP hD hS hl
  exact lv_astore hx hb hd hl hn hl' (fun ls hl => (kk H locs ls hP hD hS hl))
theorem vv_dload_n (C : CX g D c cc own Ts nL rm) {k : Fin 4} {i : Nat} {x : UInt64} (hd : decode cc pc = .ok (.dload_n k, 1)) (hi : (k : Nat) = i) (j : Nat) (hj : lv[j]? = some (i, .double x)) (pc' : Nat) (hp : pc + 1 = pc') (kk : VV g D nL cells slots ws lv pc' (.double x :: st)) : VV g D nL cells slots ws lv pc st := by
  obtain ⟨p, l, e, R, s, m, args, below, meth, c0, A, H0, Q⟩ := g
  obtain ⟨hx, hb, hml, hown, hts, hK, hA, hlk, rfl, hNW⟩ := C
  subst hp
  intro H locs ls hP hD hS hl
  exact lv_dload_n hx hb hd hi (lv_at hl j hj) (kk H locs ls hP hD hS hl)
theorem vv_dload (C : CX g D c cc own Ts nL rm) {i : Nat} {x : UInt64} (hd : decode cc pc = .ok (.dload i, 2)) (j : Nat) (hj : lv[j]? = some (i, .double x)) (pc' : Nat) (hp : pc + 2 = pc') (kk : VV g D nL cells slots ws lv pc' (.double x :: st)) : VV g D nL cells slots ws lv pc st := by
  obtain ⟨p, l, e, R, s, m, args, below, meth, c0, A, H0, Q⟩ := g
  obtain ⟨hx, hb, hml, hown, hts, hK, hA, hlk, rfl, hNW⟩ := C
  subst hp
  intro H locs ls hP hD hS hl
  exact lv_dload hx hb hd (lv_at hl j hj) (kk H locs ls hP hD hS hl)
theorem vv_dstore_n (C : CX g D c cc own Ts nL rm) {k : Fin 4} {i : Nat} {x : UInt64} (lv' : List (Nat × Value)) (hd : decode cc pc = .ok (.dstore_n k, 1)) (hi : (k : Nat) = i) (hn : i + 1 < nL) (hl' : (i, Value.double x) :: lv.filter (fun q => !(q.1 == i) && (!(q.1 == i + 1) && !(q.1 + 1 == i && q.2.category == 2))) = lv') (pc' : Nat) (hp : pc + 1 = pc') (kk : VV g D nL cells slots ws lv' pc' st) : VV g D nL cells slots ws lv pc (.double x :: st) := by
  obtain ⟨p, l, e, R, s, m, args, below, meth, c0, A, H0, Q⟩ := g
  obtain ⟨hx, hb, hml, hown, hts, hK, hA, hlk, rfl, hNW⟩ := C
  subst hp
  intro H locs ls hP hD hS hl
  exact lv_dstore_n hx hb hd hi hl hn hl' (fun ls hl => (kk H locs ls hP hD hS hl))
theorem vv_dstore (C : CX g D c cc own Ts nL rm) {i : Nat} {x : UInt64} (lv' : List (Nat × Value)) (hd : decode cc pc = .ok (.dstore i, 2)) (hn : i + 1 < nL) (hl' : (i, Value.double x) :: lv.filter (fun q => !(q.1 == i) && (!(q.1 == i + 1) && !(q.1 + 1 == i && q.2.category == 2))) = lv') (pc' : Nat) (hp : pc + 2 = pc') (kk : VV g D nL cells slots ws lv' pc' st) : VV g D nL cells slots ws lv pc (.double x :: st) := by
  obtain ⟨p, l, e, R, s, m, args, below, meth, c0, A, H0, Q⟩ := g
  obtain ⟨hx, hb, hml, hown, hts, hK, hA, hlk, rfl, hNW⟩ := C
  subst hp
  intro H locs ls hP hD hS hl
  exact lv_dstore hx hb hd hl hn hl' (fun ls hl => (kk H locs ls hP hD hS hl))
theorem vv_iinc (C : CX g D c cc own Ts nL rm) {i k : Nat} {n : Int} {x v : Int32} (lv' : List (Nat × Value)) (hd : decode cc pc = .ok (.iinc i n, 3)) (hk : lv[k]? = some (i, .int x)) (hv : x + Int32.ofInt n = v) (hn : i < nL) (hl' : (i, Value.int v) :: lv.filter (fun q => !(q.1 == i) && !(q.1 + 1 == i && q.2.category == 2)) = lv') (pc' : Nat) (hp : pc + 3 = pc') (kk : VV g D nL cells slots ws lv' pc' st) : VV g D nL cells slots ws lv pc st := by
  obtain ⟨p, l, e, R, s, m, args, below, meth, c0, A, H0, Q⟩ := g
  obtain ⟨hx, hb, hml, hown, hts, hK, hA, hlk, rfl, hNW⟩ := C
  subst hp
  intro H locs ls hP hD hS hl
  exact lv_iinc hx hb hd hl hk hv hn hl' (fun ls hl => (kk H locs ls hP hD hS hl))
theorem vv_dup (C : CX g D c cc own Ts nL rm) {va : Value} (hd : decode cc pc = .ok (.dup, 1)) (hva : va.category = 1) (pc' : Nat) (hp : pc + 1 = pc') (kk : VV g D nL cells slots ws lv pc' (va :: va :: st)) : VV g D nL cells slots ws lv pc (va :: st) := by
  obtain ⟨p, l, e, R, s, m, args, below, meth, c0, A, H0, Q⟩ := g
  obtain ⟨hx, hb, hml, hown, hts, hK, hA, hlk, rfl, hNW⟩ := C
  subst hp
  intro H locs ls hP hD hS hl
  exact lv_dup hx hb hd hva (kk H locs ls hP hD hS hl)
theorem vv_dup2 (C : CX g D c cc own Ts nL rm) {va vb : Value} (hd : decode cc pc = .ok (.dup2, 1)) (hva : va.category = 1) (hvb : vb.category = 1) (pc' : Nat) (hp : pc + 1 = pc') (kk : VV g D nL cells slots ws lv pc' (va :: vb :: va :: vb :: st)) : VV g D nL cells slots ws lv pc (va :: vb :: st) := by
  obtain ⟨p, l, e, R, s, m, args, below, meth, c0, A, H0, Q⟩ := g
  obtain ⟨hx, hb, hml, hown, hts, hK, hA, hlk, rfl, hNW⟩ := C
  subst hp
  intro H locs ls hP hD hS hl
  exact lv_dup2_11 hx hb hd hva hvb (kk H locs ls hP hD hS hl)
theorem vv_pop (C : CX g D c cc own Ts nL rm) {va : Value} (hd : decode cc pc = .ok (.pop, 1)) (hva : va.category = 1) (pc' : Nat) (hp : pc + 1 = pc') (kk : VV g D nL cells slots ws lv pc' st) : VV g D nL cells slots ws lv pc (va :: st) := by
  obtain ⟨p, l, e, R, s, m, args, below, meth, c0, A, H0, Q⟩ := g
  obtain ⟨hx, hb, hml, hown, hts, hK, hA, hlk, rfl, hNW⟩ := C
  subst hp
  intro H locs ls hP hD hS hl
  exact lv_pop hx hb hd hva (kk H locs ls hP hD hS hl)
theorem vv_iadd (C : CX g D c cc own Ts nL rm) {x y : Int32} (hd : decode cc pc = .ok (.iadd, 1)) (pc' : Nat) (hp : pc + 1 = pc') (kk : VV g D nL cells slots ws lv pc' (.int (x + y) :: st)) : VV g D nL cells slots ws lv pc (.int y :: .int x :: st) := by
  obtain ⟨p, l, e, R, s, m, args, below, meth, c0, A, H0, Q⟩ := g
  obtain ⟨hx, hb, hml, hown, hts, hK, hA, hlk, rfl, hNW⟩ := C
  subst hp
  intro H locs ls hP hD hS hl
  exact lv_iadd hx hb hd (kk H locs ls hP hD hS hl)
theorem vv_isub (C : CX g D c cc own Ts nL rm) {x y : Int32} (hd : decode cc pc = .ok (.isub, 1)) (pc' : Nat) (hp : pc + 1 = pc') (kk : VV g D nL cells slots ws lv pc' (.int (x - y) :: st)) : VV g D nL cells slots ws lv pc (.int y :: .int x :: st) := by
  obtain ⟨p, l, e, R, s, m, args, below, meth, c0, A, H0, Q⟩ := g
  obtain ⟨hx, hb, hml, hown, hts, hK, hA, hlk, rfl, hNW⟩ := C
  subst hp
  intro H locs ls hP hD hS hl
  exact lv_isub hx hb hd (kk H locs ls hP hD hS hl)
theorem vv_imul (C : CX g D c cc own Ts nL rm) {x y : Int32} (hd : decode cc pc = .ok (.imul, 1)) (pc' : Nat) (hp : pc + 1 = pc') (kk : VV g D nL cells slots ws lv pc' (.int (x * y) :: st)) : VV g D nL cells slots ws lv pc (.int y :: .int x :: st) := by
  obtain ⟨p, l, e, R, s, m, args, below, meth, c0, A, H0, Q⟩ := g
  obtain ⟨hx, hb, hml, hown, hts, hK, hA, hlk, rfl, hNW⟩ := C
  subst hp
  intro H locs ls hP hD hS hl
  exact lv_imul hx hb hd (kk H locs ls hP hD hS hl)
theorem vv_iand (C : CX g D c cc own Ts nL rm) {x y : Int32} (hd : decode cc pc = .ok (.iand, 1)) (pc' : Nat) (hp : pc + 1 = pc') (kk : VV g D nL cells slots ws lv pc' (.int (x &&& y) :: st)) : VV g D nL cells slots ws lv pc (.int y :: .int x :: st) := by
  obtain ⟨p, l, e, R, s, m, args, below, meth, c0, A, H0, Q⟩ := g
  obtain ⟨hx, hb, hml, hown, hts, hK, hA, hlk, rfl, hNW⟩ := C
  subst hp
  intro H locs ls hP hD hS hl
  exact lv_iand hx hb hd (kk H locs ls hP hD hS hl)
theorem vv_idiv (C : CX g D c cc own Ts nL rm) {x y : Int32} (hd : decode cc pc = .ok (.idiv, 1)) (hne : ¬ y = 0) (pc' : Nat) (hp : pc + 1 = pc') (kk : VV g D nL cells slots ws lv pc' (.int (x / y) :: st)) : VV g D nL cells slots ws lv pc (.int y :: .int x :: st) := by
  obtain ⟨p, l, e, R, s, m, args, below, meth, c0, A, H0, Q⟩ := g
  obtain ⟨hx, hb, hml, hown, hts, hK, hA, hlk, rfl, hNW⟩ := C
  subst hp
  intro H locs ls hP hD hS hl
  exact lv_idiv hx hb hd hne (kk H locs ls hP hD hS hl)
theorem vv_irem (C : CX g D c cc own Ts nL rm) {x y : Int32} (hd : decode cc pc = .ok (.irem, 1)) (hne : ¬ y = 0) (pc' : Nat) (hp : pc + 1 = pc') (kk : VV g D nL cells slots ws lv pc' (.int (x - x / y * y) :: st)) : VV g D nL cells slots ws lv pc (.int y :: .int x :: st) := by
  obtain ⟨p, l, e, R, s, m, args, below, meth, c0, A, H0, Q⟩ := g
  obtain ⟨hx, hb, hml, hown, hts, hK, hA, hlk, rfl, hNW⟩ := C
  subst hp
  intro H locs ls hP hD hS hl
  exact lv_irem hx hb hd hne (kk H locs ls hP hD hS hl)
theorem vv_ineg (C : CX g D c cc own Ts nL rm) {x : Int32} (hd : decode cc pc = .ok (.ineg, 1)) (pc' : Nat) (hp : pc + 1 = pc') (kk : VV g D nL cells slots ws lv pc' (.int (-x) :: st)) : VV g D nL cells slots ws lv pc (.int x :: st) := by
  obtain ⟨p, l, e, R, s, m, args, below, meth, c0, A, H0, Q⟩ := g
  obtain ⟨hx, hb, hml, hown, hts, hK, hA, hlk, rfl, hNW⟩ := C
  subst hp
  intro H locs ls hP hD hS hl
  exact lv_ineg hx hb hd (kk H locs ls hP hD hS hl)
theorem vv_i2l (C : CX g D c cc own Ts nL rm) {x : Int32} (hd : decode cc pc = .ok (.i2l, 1)) (pc' : Nat) (hp : pc + 1 = pc') (kk : VV g D nL cells slots ws lv pc' (.long x.toInt64 :: st)) : VV g D nL cells slots ws lv pc (.int x :: st) := by
  obtain ⟨p, l, e, R, s, m, args, below, meth, c0, A, H0, Q⟩ := g
  obtain ⟨hx, hb, hml, hown, hts, hK, hA, hlk, rfl, hNW⟩ := C
  subst hp
  intro H locs ls hP hD hS hl
  exact lv_i2l hx hb hd rfl (kk H locs ls hP hD hS hl)
theorem vv_lmul (C : CX g D c cc own Ts nL rm) {x y : Int64} (hd : decode cc pc = .ok (.lmul, 1)) (pc' : Nat) (hp : pc + 1 = pc') (kk : VV g D nL cells slots ws lv pc' (.long (x * y) :: st)) : VV g D nL cells slots ws lv pc (.long y :: .long x :: st) := by
  obtain ⟨p, l, e, R, s, m, args, below, meth, c0, A, H0, Q⟩ := g
  obtain ⟨hx, hb, hml, hown, hts, hK, hA, hlk, rfl, hNW⟩ := C
  subst hp
  intro H locs ls hP hD hS hl
  exact lv_lmul hx hb hd (kk H locs ls hP hD hS hl)
theorem vv_ladd (C : CX g D c cc own Ts nL rm) {x y : Int64} (hd : decode cc pc = .ok (.ladd, 1)) (pc' : Nat) (hp : pc + 1 = pc') (kk : VV g D nL cells slots ws lv pc' (.long (x + y) :: st)) : VV g D nL cells slots ws lv pc (.long y :: .long x :: st) := by
  obtain ⟨p, l, e, R, s, m, args, below, meth, c0, A, H0, Q⟩ := g
  obtain ⟨hx, hb, hml, hown, hts, hK, hA, hlk, rfl, hNW⟩ := C
  subst hp
  intro H locs ls hP hD hS hl
  exact lv_ladd hx hb hd (kk H locs ls hP hD hS hl)
theorem vv_ldc2 (C : CX g D c cc own Ts nL rm) {index : Nat} {v : Int64} (hd : decode cc pc = .ok (.ldc2_w index, 3)) (hw : Cond.constantLong own index v ∈ Ts) (pc' : Nat) (hp : pc + 3 = pc') (kk : VV g D nL cells slots ws lv pc' (.long v :: st)) : VV g D nL cells slots ws lv pc st := by
  obtain ⟨p, l, e, R, s, m, args, below, meth, c0, A, H0, Q⟩ := g
  obtain ⟨hx, hb, hml, hown, hts, hK, hA, hlk, rfl, hNW⟩ := C
  subst hp
  intro H locs ls hP hD hS hl
  exact lv_ldc2 hx hb hown (hts _ hw) hd (kk H locs ls hP hD hS hl)
theorem vv_lcmp (C : CX g D c cc own Ts nL rm) {x y : Int64} (hd : decode cc pc = .ok (.lcmp, 1)) (pc' : Nat) (hp : pc + 1 = pc') (kk : VV g D nL cells slots ws lv pc' (.int (lg_cmp x y) :: st)) : VV g D nL cells slots ws lv pc (.long y :: .long x :: st) := by
  obtain ⟨p, l, e, R, s, m, args, below, meth, c0, A, H0, Q⟩ := g
  obtain ⟨hx, hb, hml, hown, hts, hK, hA, hlk, rfl, hNW⟩ := C
  subst hp
  intro H locs ls hP hD hS hl
  exact W.lcmp hx hb hd (kk H locs ls hP hD hS hl)
theorem vv_i2d (C : CX g D c cc own Ts nL rm) {x : Int32} (hd : decode cc pc = .ok (.i2d, 1)) (pc' : Nat) (hp : pc + 1 = pc') (kk : VV g D nL cells slots ws lv pc' (.double (FP.i2d x) :: st)) : VV g D nL cells slots ws lv pc (.int x :: st) := by
  obtain ⟨p, l, e, R, s, m, args, below, meth, c0, A, H0, Q⟩ := g
  obtain ⟨hx, hb, hml, hown, hts, hK, hA, hlk, rfl, hNW⟩ := C
  subst hp
  intro H locs ls hP hD hS hl
  exact lv_i2d hx hb hd (kk H locs ls hP hD hS hl)
theorem vv_dcmp (C : CX g D c cc own Ts nL rm) {x y : UInt64} {op : CmpOp} (hd : decode cc pc = .ok (.dcmp op, 1)) (pc' : Nat) (hp : pc + 1 = pc') (kk : VV g D nL cells slots ws lv pc' (.int (Op.cmpValue (FP.dcmp x y) op) :: st)) : VV g D nL cells slots ws lv pc (.double y :: .double x :: st) := by
  obtain ⟨p, l, e, R, s, m, args, below, meth, c0, A, H0, Q⟩ := g
  obtain ⟨hx, hb, hml, hown, hts, hK, hA, hlk, rfl, hNW⟩ := C
  subst hp
  intro H locs ls hP hD hS hl
  exact lv_dcmp hx hb hd (kk H locs ls hP hD hS hl)
theorem vv_get (C : CX g D c cc own Ts nL rm) {a q0 ci N k index : Nat} {ref Cn : String} {T : u_T} {fs : List Value} {v : Value} (hin : ∀ w ∈ u_ws Cn T N, w ∈ Ts) (he : ws[q0]? = some (a, .inr (ci, fs))) (hc : vwCl[ci]? = some (Cn, T, N)) (hk : k < N) (hw : Cond.fieldLink own index ref (T k).2.1 (T k).2.2.1 ∈ Ts) (href : (T k).1 = ref) (hv : fs[k]? = some v) (hd : decode cc pc = .ok (.getfield index, 3)) (pc' : Nat) (hp : pc + 3 = pc') (kk : VV g D nL cells slots ws lv pc' (v :: st)) : VV g D nL cells slots ws lv pc (.ref a :: st) := by
  obtain ⟨p, l, e, R, s, m, args, below, meth, c0, A, H0, Q⟩ := g
  obtain ⟨hx, hb, hml, hown, hts, hK, hA, hlk, rfl, hNW⟩ := C
  subst hp
  intro H locs ls hP hD hS hl
  exact va_get hx hb hts hin hown hK hP q0 he hc k hk (hts _ hw) (fun _ h => by rw [← href]; exact h) hv hd (kk H locs ls hP hD hS hl)
theorem vv_put (C : CX g D c cc own Ts nL rm) {a q0 ci N k index : Nat} {ref Cn : String} {T : u_T} {fs : List Value} {v : Value} {ty : FieldType} (ws' : va_W) (ty0 : Nat → FieldType) (hty : ∀ k, k < N → parseFieldDescriptor (T k).2.2.1 = some (ty0 k)) (hnm : ∀ a, a < N → ∀ b, b < N → a ≠ b → (T a).2.1 ≠ (T b).2.1) (hin : ∀ w ∈ u_ws Cn T N, w ∈ Ts) (he : ws[q0]? = some (a, .inr (ci, fs))) (hc : vwCl[ci]? = some (Cn, T, N)) (hk : k < N) (hw : Cond.fieldLink own index ref (T k).2.1 (T k).2.2.1 ∈ Ts) (href : (T k).1 = ref) (hfin : (T k).2.2.2 = false) (hdd : parseFieldDescriptor (T k).2.2.1 = some ty) (hn : narrow ty v = v) (hfit : fits ty v = true) (hll : k < fs.length) (hws : ws.set q0 (a, .inr (ci, fs.set k v)) = ws') (hd : decode cc pc = .ok (.putfield index, 3)) (pc' : Nat) (hp : pc + 3 = pc') (kk : VV g D nL cells slots ws' lv pc' st) : VV g D nL cells slots ws lv pc (v :: .ref a :: st) := by
  obtain ⟨p, l, e, R, s, m, args, below, meth, c0, A, H0, Q⟩ := g
  obtain ⟨hx, hb, hml, hown, hts, hK, hA, hlk, rfl, hNW⟩ := C
  subst hp
  intro H locs ls hP hD hS hl
  subst hws; exact va_put hx hb hts hin ty0 hty hnm hown hK hP hD hS q0 he hc k hk (hts _ hw) (fun _ h => by rw [← href]; exact h) hfin hdd hn hfit hll hd (fun H locs hP hD hS => (kk H locs ls hP hD hS hl))
theorem vv_iald (C : CX g D c cc own Ts nL rm) {a q0 n : Nat} {f : Nat → Int32} {i : Int32} (ha : ws[q0]? = some (a, .inl (c 0, n, .inl f))) (hin : vp_in i n) (hd : decode cc pc = .ok (.iaload, 1)) (pc' : Nat) (hp : pc + 1 = pc') (kk : VV g D nL cells slots ws lv pc' (.int (rd f i) :: st)) : VV g D nL cells slots ws lv pc (.int i :: .ref a :: st) := by
  obtain ⟨p, l, e, R, s, m, args, below, meth, c0, A, H0, Q⟩ := g
  obtain ⟨hx, hb, hml, hown, hts, hK, hA, hlk, rfl, hNW⟩ := C
  subst hp
  intro H locs ls hP hD hS hl
  exact va_iald hx hb hK hP q0 0 ha rfl hin hd (kk H locs ls hP hD hS hl)
theorem vv_zald (C : CX g D c cc own Ts nL rm) {a q0 n : Nat} {f : Nat → Int32} {i : Int32} (ha : ws[q0]? = some (a, .inl (c 1, n, .inl f))) (hin : vp_in i n) (hd : decode cc pc = .ok (.baload, 1)) (pc' : Nat) (hp : pc + 1 = pc') (kk : VV g D nL cells slots ws lv pc' (.int (rd f i) :: st)) : VV g D nL cells slots ws lv pc (.int i :: .ref a :: st) := by
  obtain ⟨p, l, e, R, s, m, args, below, meth, c0, A, H0, Q⟩ := g
  obtain ⟨hx, hb, hml, hown, hts, hK, hA, hlk, rfl, hNW⟩ := C
  subst hp
  intro H locs ls hP hD hS hl
  exact va_zald hx hb hK hP q0 1 ha rfl hin hd (kk H locs ls hP hD hS hl)
theorem vv_iast (C : CX g D c cc own Ts nL rm) {a q0 n : Nat} {f : Nat → Int32} {i x : Int32} (ws' : va_W) (ha : ws[q0]? = some (a, .inl (c 0, n, .inl f))) (hin : vp_in i n) (hws : ws.set q0 (a, .inl (c 0, n, .inl (wr f i x))) = ws') (hd : decode cc pc = .ok (.iastore, 1)) (pc' : Nat) (hp : pc + 1 = pc') (kk : VV g D nL cells slots ws' lv pc' st) : VV g D nL cells slots ws lv pc (.int x :: .int i :: .ref a :: st) := by
  obtain ⟨p, l, e, R, s, m, args, below, meth, c0, A, H0, Q⟩ := g
  obtain ⟨hx, hb, hml, hown, hts, hK, hA, hlk, rfl, hNW⟩ := C
  subst hp
  intro H locs ls hP hD hS hl
  subst hws; exact va_iast hx hb hK hP hD hS q0 0 ha rfl hin hd (fun H locs hP hD hS => (kk H locs ls hP hD hS hl))
theorem vv_zast (C : CX g D c cc own Ts nL rm) {a q0 n : Nat} {f : Nat → Int32} {i x : Int32} (ws' : va_W) (ha : ws[q0]? = some (a, .inl (c 1, n, .inl f))) (hin : vp_in i n) (hz : x = 0 ∨ x = 1) (hws : ws.set q0 (a, .inl (c 1, n, .inl (wr f i x))) = ws') (hd : decode cc pc = .ok (.bastore, 1)) (pc' : Nat) (hp : pc + 1 = pc') (kk : VV g D nL cells slots ws' lv pc' st) : VV g D nL cells slots ws lv pc (.int x :: .int i :: .ref a :: st) := by
  obtain ⟨p, l, e, R, s, m, args, below, meth, c0, A, H0, Q⟩ := g
  obtain ⟨hx, hb, hml, hown, hts, hK, hA, hlk, rfl, hNW⟩ := C
  subst hp
  intro H locs ls hP hD hS hl
  subst hws
  refine va_zast hx hb hK hP hD hS q0 1 ha rfl hin hd (fun H locs hP hD hS => ?_)
  have e : vp_nar .boolean x = x := by rcases hz with rfl | rfl <;> rfl
  rw [e] at hP hD
  exact (kk H locs ls hP hD hS hl)
theorem vv_alen (C : CX g D c cc own Ts nL rm) {a q0 : Nat} {n : Nat} {f : Nat → Int32} (ha : ws[q0]? = some (a, .inl (c 0, n, .inl f))) (hd : decode cc pc = .ok (.arraylength, 1)) (pc' : Nat) (hp : pc + 1 = pc') (kk : VV g D nL cells slots ws lv pc' (.int (nI n) :: st)) : VV g D nL cells slots ws lv pc (.ref a :: st) := by
  obtain ⟨p, l, e, R, s, m, args, below, meth, c0, A, H0, Q⟩ := g
  obtain ⟨hx, hb, hml, hown, hts, hK, hA, hlk, rfl, hNW⟩ := C
  subst hp
  intro H locs ls hP hD hS hl
  exact va_alen hx hb hK hP q0 0 ha rfl rfl hd (kk H locs ls hP hD hS hl)
theorem vv_if_eq (C : CX g D c cc own Ts nL rm) {x : Int32} {off : Int} (tgt pc' : Nat) (hd : decode cc pc = .ok (.ifCond .eq off, 3)) (ht : (pc : Int) + off = (tgt : Int)) (hp : pc + 3 = pc') (kt : x = 0 → VV g D nL cells slots ws lv tgt st) (kf : ¬ x = 0 → VV g D nL cells slots ws lv pc' st) : VV g D nL cells slots ws lv pc (.int x :: st) := by
  obtain ⟨p, l, e, R, s, m, args, below, meth, c0, A, H0, Q⟩ := g
  obtain ⟨hx, hb, hml, hown, hts, hK, hA, hlk, rfl, hNW⟩ := C
  subst hp
  intro H locs ls hP hD hS hl
  exact lv_if_eq hx hb hd ht (fun q => kt q H locs ls hP hD hS hl) (fun q => kf q H locs ls hP hD hS hl)
theorem vv_icmp_eq (C : CX g D c cc own Ts nL rm) {x y : Int32} {off : Int} (tgt pc' : Nat) (hd : decode cc pc = .ok (.if_icmp .eq off, 3)) (ht : (pc : Int) + off = (tgt : Int)) (hp : pc + 3 = pc') (kt : x = y → VV g D nL cells slots ws lv tgt st) (kf : ¬ x = y → VV g D nL cells slots ws lv pc' st) : VV g D nL cells slots ws lv pc (.int y :: .int x :: st) := by
  obtain ⟨p, l, e, R, s, m, args, below, meth, c0, A, H0, Q⟩ := g
  obtain ⟨hx, hb, hml, hown, hts, hK, hA, hlk, rfl, hNW⟩ := C
  subst hp
  intro H locs ls hP hD hS hl
  exact lv_icmp_eq hx hb hd ht (fun q => kt q H locs ls hP hD hS hl) (fun q => kf q H locs ls hP hD hS hl)
theorem vv_if_lt (C : CX g D c cc own Ts nL rm) {x : Int32} {off : Int} (tgt pc' : Nat) (hd : decode cc pc = .ok (.ifCond .lt off, 3)) (ht : (pc : Int) + off = (tgt : Int)) (hp : pc + 3 = pc') (kt : x < 0 → VV g D nL cells slots ws lv tgt st) (kf : ¬ x < 0 → VV g D nL cells slots ws lv pc' st) : VV g D nL cells slots ws lv pc (.int x :: st) := by
  obtain ⟨p, l, e, R, s, m, args, below, meth, c0, A, H0, Q⟩ := g
  obtain ⟨hx, hb, hml, hown, hts, hK, hA, hlk, rfl, hNW⟩ := C
  subst hp
  intro H locs ls hP hD hS hl
  exact lv_if_lt hx hb hd ht (fun q => kt q H locs ls hP hD hS hl) (fun q => kf q H locs ls hP hD hS hl)
theorem vv_icmp_lt (C : CX g D c cc own Ts nL rm) {x y : Int32} {off : Int} (tgt pc' : Nat) (hd : decode cc pc = .ok (.if_icmp .lt off, 3)) (ht : (pc : Int) + off = (tgt : Int)) (hp : pc + 3 = pc') (kt : x < y → VV g D nL cells slots ws lv tgt st) (kf : ¬ x < y → VV g D nL cells slots ws lv pc' st) : VV g D nL cells slots ws lv pc (.int y :: .int x :: st) := by
  obtain ⟨p, l, e, R, s, m, args, below, meth, c0, A, H0, Q⟩ := g
  obtain ⟨hx, hb, hml, hown, hts, hK, hA, hlk, rfl, hNW⟩ := C
  subst hp
  intro H locs ls hP hD hS hl
  exact lv_icmp_lt hx hb hd ht (fun q => kt q H locs ls hP hD hS hl) (fun q => kf q H locs ls hP hD hS hl)
theorem vv_if_ge (C : CX g D c cc own Ts nL rm) {x : Int32} {off : Int} (tgt pc' : Nat) (hd : decode cc pc = .ok (.ifCond .ge off, 3)) (ht : (pc : Int) + off = (tgt : Int)) (hp : pc + 3 = pc') (kt : 0 ≤ x → VV g D nL cells slots ws lv tgt st) (kf : ¬ 0 ≤ x → VV g D nL cells slots ws lv pc' st) : VV g D nL cells slots ws lv pc (.int x :: st) := by
  obtain ⟨p, l, e, R, s, m, args, below, meth, c0, A, H0, Q⟩ := g
  obtain ⟨hx, hb, hml, hown, hts, hK, hA, hlk, rfl, hNW⟩ := C
  subst hp
  intro H locs ls hP hD hS hl
  exact lv_if_ge hx hb hd ht (fun q => kt q H locs ls hP hD hS hl) (fun q => kf q H locs ls hP hD hS hl)
theorem vv_icmp_ge (C : CX g D c cc own Ts nL rm) {x y : Int32} {off : Int} (tgt pc' : Nat) (hd : decode cc pc = .ok (.if_icmp .ge off, 3)) (ht : (pc : Int) + off = (tgt : Int)) (hp : pc + 3 = pc') (kt : y ≤ x → VV g D nL cells slots ws lv tgt st) (kf : ¬ y ≤ x → VV g D nL cells slots ws lv pc' st) : VV g D nL cells slots ws lv pc (.int y :: .int x :: st) := by
  obtain ⟨p, l, e, R, s, m, args, below, meth, c0, A, H0, Q⟩ := g
  obtain ⟨hx, hb, hml, hown, hts, hK, hA, hlk, rfl, hNW⟩ := C
  subst hp
  intro H locs ls hP hD hS hl
  exact lv_icmp_ge hx hb hd ht (fun q => kt q H locs ls hP hD hS hl) (fun q => kf q H locs ls hP hD hS hl)
theorem vv_if_gt (C : CX g D c cc own Ts nL rm) {x : Int32} {off : Int} (tgt pc' : Nat) (hd : decode cc pc = .ok (.ifCond .gt off, 3)) (ht : (pc : Int) + off = (tgt : Int)) (hp : pc + 3 = pc') (kt : 0 < x → VV g D nL cells slots ws lv tgt st) (kf : ¬ 0 < x → VV g D nL cells slots ws lv pc' st) : VV g D nL cells slots ws lv pc (.int x :: st) := by
  obtain ⟨p, l, e, R, s, m, args, below, meth, c0, A, H0, Q⟩ := g
  obtain ⟨hx, hb, hml, hown, hts, hK, hA, hlk, rfl, hNW⟩ := C
  subst hp
  intro H locs ls hP hD hS hl
  exact lv_if_gt hx hb hd ht (fun q => kt q H locs ls hP hD hS hl) (fun q => kf q H locs ls hP hD hS hl)
theorem vv_icmp_gt (C : CX g D c cc own Ts nL rm) {x y : Int32} {off : Int} (tgt pc' : Nat) (hd : decode cc pc = .ok (.if_icmp .gt off, 3)) (ht : (pc : Int) + off = (tgt : Int)) (hp : pc + 3 = pc') (kt : y < x → VV g D nL cells slots ws lv tgt st) (kf : ¬ y < x → VV g D nL cells slots ws lv pc' st) : VV g D nL cells slots ws lv pc (.int y :: .int x :: st) := by
  obtain ⟨p, l, e, R, s, m, args, below, meth, c0, A, H0, Q⟩ := g
  obtain ⟨hx, hb, hml, hown, hts, hK, hA, hlk, rfl, hNW⟩ := C
  subst hp
  intro H locs ls hP hD hS hl
  exact lv_icmp_gt hx hb hd ht (fun q => kt q H locs ls hP hD hS hl) (fun q => kf q H locs ls hP hD hS hl)
theorem vv_if_le (C : CX g D c cc own Ts nL rm) {x : Int32} {off : Int} (tgt pc' : Nat) (hd : decode cc pc = .ok (.ifCond .le off, 3)) (ht : (pc : Int) + off = (tgt : Int)) (hp : pc + 3 = pc') (kt : x ≤ 0 → VV g D nL cells slots ws lv tgt st) (kf : ¬ x ≤ 0 → VV g D nL cells slots ws lv pc' st) : VV g D nL cells slots ws lv pc (.int x :: st) := by
  obtain ⟨p, l, e, R, s, m, args, below, meth, c0, A, H0, Q⟩ := g
  obtain ⟨hx, hb, hml, hown, hts, hK, hA, hlk, rfl, hNW⟩ := C
  subst hp
  intro H locs ls hP hD hS hl
  exact lv_if_le hx hb hd ht (fun q => kt q H locs ls hP hD hS hl) (fun q => kf q H locs ls hP hD hS hl)
theorem vv_icmp_le (C : CX g D c cc own Ts nL rm) {x y : Int32} {off : Int} (tgt pc' : Nat) (hd : decode cc pc = .ok (.if_icmp .le off, 3)) (ht : (pc : Int) + off = (tgt : Int)) (hp : pc + 3 = pc') (kt : x ≤ y → VV g D nL cells slots ws lv tgt st) (kf : ¬ x ≤ y → VV g D nL cells slots ws lv pc' st) : VV g D nL cells slots ws lv pc (.int y :: .int x :: st) := by
  obtain ⟨p, l, e, R, s, m, args, below, meth, c0, A, H0, Q⟩ := g
  obtain ⟨hx, hb, hml, hown, hts, hK, hA, hlk, rfl, hNW⟩ := C
  subst hp
  intro H locs ls hP hD hS hl
  exact lv_icmp_le hx hb hd ht (fun q => kt q H locs ls hP hD hS hl) (fun q => kf q H locs ls hP hD hS hl)
theorem vv_if_ne (C : CX g D c cc own Ts nL rm) {x : Int32} {off : Int} (tgt pc' : Nat) (hd : decode cc pc = .ok (.ifCond .ne off, 3)) (ht : (pc : Int) + off = (tgt : Int)) (hp : pc + 3 = pc') (kt : ¬ x = 0 → VV g D nL cells slots ws lv tgt st) (kf : x = 0 → VV g D nL cells slots ws lv pc' st) : VV g D nL cells slots ws lv pc (.int x :: st) := by
  obtain ⟨p, l, e, R, s, m, args, below, meth, c0, A, H0, Q⟩ := g
  obtain ⟨hx, hb, hml, hown, hts, hK, hA, hlk, rfl, hNW⟩ := C
  subst hp
  intro H locs ls hP hD hS hl
  exact lv_if_ne hx hb hd ht (fun q => kt q H locs ls hP hD hS hl) (fun q => kf q H locs ls hP hD hS hl)
theorem vv_icmp_ne (C : CX g D c cc own Ts nL rm) {x y : Int32} {off : Int} (tgt pc' : Nat) (hd : decode cc pc = .ok (.if_icmp .ne off, 3)) (ht : (pc : Int) + off = (tgt : Int)) (hp : pc + 3 = pc') (kt : ¬ x = y → VV g D nL cells slots ws lv tgt st) (kf : x = y → VV g D nL cells slots ws lv pc' st) : VV g D nL cells slots ws lv pc (.int y :: .int x :: st) := by
  obtain ⟨p, l, e, R, s, m, args, below, meth, c0, A, H0, Q⟩ := g
  obtain ⟨hx, hb, hml, hown, hts, hK, hA, hlk, rfl, hNW⟩ := C
  subst hp
  intro H locs ls hP hD hS hl
  exact lv_icmp_ne hx hb hd ht (fun q => kt q H locs ls hP hD hS hl) (fun q => kf q H locs ls hP hD hS hl)
theorem vv_goto (C : CX g D c cc own Ts nL rm) {off : Int} (tgt : Nat) (hd : decode cc pc = .ok (.goto off, 3)) (ht : (pc : Int) + off = (tgt : Int)) (kk : VV g D nL cells slots ws lv tgt st) : VV g D nL cells slots ws lv pc st := by
  obtain ⟨p, l, e, R, s, m, args, below, meth, c0, A, H0, Q⟩ := g
  obtain ⟨hx, hb, hml, hown, hts, hK, hA, hlk, rfl, hNW⟩ := C
  intro H locs ls hP hD hS hl
  exact lv_goto hx hb hd ht (kk H locs ls hP hD hS hl)
theorem vv_swIn (C : CX g D c cc own Ts nL rm) {dflt lo hi : Int} {offs : Array Int} {len : Nat} {x : Int32} {off : Int} (tgt : Nat) (hd : decode cc pc = .ok (.tableswitch dflt lo hi offs, len)) (h1 : ¬ x.toInt < lo) (h2 : ¬ hi < x.toInt) (ho : offs[(x.toInt - lo).toNat]? = some off) (ht : (pc : Int) + off = (tgt : Int)) (kk : VV g D nL cells slots ws lv tgt st) : VV g D nL cells slots ws lv pc (.int x :: st) := by
  obtain ⟨p, l, e, R, s, m, args, below, meth, c0, A, H0, Q⟩ := g
  obtain ⟨hx, hb, hml, hown, hts, hK, hA, hlk, rfl, hNW⟩ := C
  intro H locs ls hP hD hS hl
  exact lv_tableIn hx hb hd h1 h2 ho ht (kk H locs ls hP hD hS hl)
theorem vv_swOut (C : CX g D c cc own Ts nL rm) {dflt lo hi : Int} {offs : Array Int} {len : Nat} {x : Int32} (tgt : Nat) (hd : decode cc pc = .ok (.tableswitch dflt lo hi offs, len)) (h : x.toInt < lo ∨ hi < x.toInt) (ht : (pc : Int) + dflt = (tgt : Int)) (kk : VV g D nL cells slots ws lv tgt st) : VV g D nL cells slots ws lv pc (.int x :: st) := by
  obtain ⟨p, l, e, R, s, m, args, below, meth, c0, A, H0, Q⟩ := g
  obtain ⟨hx, hb, hml, hown, hts, hK, hA, hlk, rfl, hNW⟩ := C
  intro H locs ls hP hD hS hl
  exact lv_tableOut hx hb hd h ht (kk H locs ls hP hD hS hl)
theorem sw_out {x : Int32} {lo hi : Int} (h : ∀ j : Nat, (j : Int) ≤ hi - lo → ¬ x = Int32.ofInt (lo + j)) : x.toInt < lo ∨ hi < x.toInt := by
  by_cases h1 : x.toInt < lo
  · exact Or.inl h1
  · by_cases h2 : hi < x.toInt
    · exact Or.inr h2
    · refine absurd ?_ (h (x.toInt - lo).toNat (by omega))
      rw [show lo + ((x.toInt - lo).toNat : Int) = x.toInt by omega, Int32.ofInt_toInt]
theorem lk_ne {x v : Int32} {k : Int} (hv : v.toInt = k) (hn : ¬ x = v) : ¬ k = x.toInt := fun e => hn (Int32.toInt_inj.mp (e.symm.trans hv.symm))
theorem vv_lk (C : CX g D c cc own Ts nL rm) {dflt : Int} {ps : Array (Int × Int)} {len : Nat} {x : Int32} {off : Int} (tgt : Nat) (hd : decode cc pc = .ok (.lookupswitch dflt ps, len)) (hpp : (ps.toList.zip (ps.toList.drop 1)).all (fun (a, next) => a.1 < next.1) = true) (ho : Op.lookupswitch.offset ps.toList dflt x.toInt = off) (ht : (pc : Int) + off = (tgt : Int)) (kk : VV g D nL cells slots ws lv tgt st) : VV g D nL cells slots ws lv pc (.int x :: st) := by
  obtain ⟨p, l, e, R, s, m, args, below, meth, c0, A, H0, Q⟩ := g
  obtain ⟨hx, hb, hml, hown, hts, hK, hA, hlk, rfl, hNW⟩ := C
  intro H locs ls hP hD hS hl
  exact lv_lookup hx hb hd hpp ho ht (kk H locs ls hP hD hS hl)
theorem vv_mmin (C : CX g D c cc own Ts nL rm) {x y : Int32} {index : Nat} (h1 : Cond.methodLink own index Lib.Math.min.name ∈ Ts) (h2 : Cond.static Lib.Math.min.name ∈ Ts) (h3 : Cond.initialized "java/lang/Math" ∈ Ts) (h4 : Cond.code Lib.Math.min.name Lib.Math.min.code 2 (some .int) ∈ Ts) (hr : 1 ≤ rm.frames ∧ (st.map fun v => v.category).sum + 13 ≤ rm.locals) (hc : cells ≤ rm.cells ∧ slots ≤ rm.slots) (hd : decode cc pc = .ok (.invokestatic index, 3)) (pc' : Nat) (hp : pc + 3 = pc') (kk : VV g D nL cells slots ws lv pc' (.int (mmin x y) :: st)) : VV g D nL cells slots ws lv pc (.int y :: .int x :: st) := by
  obtain ⟨p, l, e, R, s, m, args, below, meth, c0, A, H0, Q⟩ := g
  obtain ⟨hx, hb, hml, hown, hts, hK, hA, hlk, rfl, hNW⟩ := C
  subst hp
  intro H locs ls hP hD hS hl
  exact va_mmin hx hb (hml.trans hl.1.symm) hown (hts _ h1) (hts _ h2) (hts _ h3) (hts _ h4) hr.1 hr.2 hc.1 hc.2 hd (kk H locs ls hP hD hS hl)
theorem vv_mmax (C : CX g D c cc own Ts nL rm) {x y : Int32} {index : Nat} (h1 : Cond.methodLink own index Lib.Math.max.name ∈ Ts) (h2 : Cond.static Lib.Math.max.name ∈ Ts) (h3 : Cond.initialized "java/lang/Math" ∈ Ts) (h4 : Cond.code Lib.Math.max.name Lib.Math.max.code 2 (some .int) ∈ Ts) (hr : 1 ≤ rm.frames ∧ (st.map fun v => v.category).sum + 13 ≤ rm.locals) (hc : cells ≤ rm.cells ∧ slots ≤ rm.slots) (hd : decode cc pc = .ok (.invokestatic index, 3)) (pc' : Nat) (hp : pc + 3 = pc') (kk : VV g D nL cells slots ws lv pc' (.int (mmax x y) :: st)) : VV g D nL cells slots ws lv pc (.int y :: .int x :: st) := by
  obtain ⟨p, l, e, R, s, m, args, below, meth, c0, A, H0, Q⟩ := g
  obtain ⟨hx, hb, hml, hown, hts, hK, hA, hlk, rfl, hNW⟩ := C
  subst hp
  intro H locs ls hP hD hS hl
  exact va_mmax hx hb (hml.trans hl.1.symm) hown (hts _ h1) (hts _ h2) (hts _ h3) (hts _ h4) hr.1 hr.2 hc.1 hc.2 hd (kk H locs ls hP hD hS hl)
theorem vv_mabs (C : CX g D c cc own Ts nL rm) {x : Int32} {index : Nat} (h1 : Cond.methodLink own index Lib.Math.abs.name ∈ Ts) (h2 : Cond.static Lib.Math.abs.name ∈ Ts) (h3 : Cond.initialized "java/lang/Math" ∈ Ts) (h4 : Cond.code Lib.Math.abs.name Lib.Math.abs.code 1 (some .int) ∈ Ts) (hr : 1 ≤ rm.frames ∧ (st.map fun v => v.category).sum + 13 ≤ rm.locals) (hc : cells ≤ rm.cells ∧ slots ≤ rm.slots) (hd : decode cc pc = .ok (.invokestatic index, 3)) (pc' : Nat) (hp : pc + 3 = pc') (kk : VV g D nL cells slots ws lv pc' (.int (mabs x) :: st)) : VV g D nL cells slots ws lv pc (.int x :: st) := by
  obtain ⟨p, l, e, R, s, m, args, below, meth, c0, A, H0, Q⟩ := g
  obtain ⟨hx, hb, hml, hown, hts, hK, hA, hlk, rfl, hNW⟩ := C
  subst hp
  intro H locs ls hP hD hS hl
  exact va_mabs hx hb (hml.trans hl.1.symm) hown (hts _ h1) (hts _ h2) (hts _ h3) (hts _ h4) hr.1 hr.2 hc.1 hc.2 hd (kk H locs ls hP hD hS hl)
theorem vv_copy (C : CX g D c cc own Ts nL rm) {a0 a1 q0 q1 n0 n1 index : Nat} {f f1 : Nat → Int32} {sp dp n : Int32} (ws' : va_W) (h1 : Cond.methodLink own index arraycopyName ∈ Ts) (h2 : Cond.native arraycopyName ∈ Ts) (h3 : Cond.static arraycopyName ∈ Ts) (h4 : Cond.initialized "java/lang/System" ∈ Ts) (ha0 : ws[q0]? = some (a0, .inl (c 0, n0, .inl f))) (ha1 : ws[q1]? = some (a1, .inl (c 0, n1, .inl f1))) (hcp : CPOK n0 n1 sp dp n) (hr : 1 ≤ rm.frames ∧ (st.map fun v => v.category).sum + (nativeFrameWords "java/lang/System" "arraycopy" 5 + 11) ≤ rm.locals) (hws : ws.set q1 (a1, .inl (c 0, n1, .inl (cpy f f1 sp dp n))) = ws') (hd : decode cc pc = .ok (.invokestatic index, 3)) (pc' : Nat) (hp : pc + 3 = pc') (kk : VV g D nL cells slots ws' lv pc' st) : VV g D nL cells slots ws lv pc (.int n :: .int dp :: .ref a1 :: .int sp :: .ref a0 :: st) := by
  obtain ⟨p, l, e, R, s, m, args, below, meth, c0, A, H0, Q⟩ := g
  obtain ⟨hx, hb, hml, hown, hts, hK, hA, hlk, rfl, hNW⟩ := C
  subst hp
  intro H locs ls hP hD hS hl
  subst hws; exact va_copyi hx hb (hml.trans hl.1.symm) hown (hts _ h1) (hts _ h2) (hts _ h3) (hts _ h4) hK hP hD hS q0 q1 0 0 ha0 ha1 rfl rfl rfl hcp.1 hcp.2.1 hcp.2.2.1 hcp.2.2.2.1 hcp.2.2.2.2 (fun _ _ => rfl) hr.1 hr.2 hd (fun H locs hP hD hS => (kk H locs ls hP hD hS hl))
theorem vv_newa (C : CX g D c cc own Ts nL rm) {n : Int32} {N : Nat} (hw : Cond.arrayClass .int ∈ Ts) (hn : ¬ n < 0) (hN : n.toNatClampNeg = N) (hb8 : N * componentBytes .int ≤ 536870912) (hcs : cells + 1 ≤ rm.cells ∧ slots + N ≤ rm.slots) (hd : decode cc pc = .ok (.newarray .int, 2)) (pc' cells' slots' : Nat) (hp : pc + 2 = pc') (he : cells + 1 = cells' ∧ slots + N = slots')
    (kk : ∀ q : Nat, VV g D nL cells' slots' (ws ++ [(q, .inl (c 0, N, .inl (fun _ => 0)))]) lv pc' (.ref q :: st)) : VV g D nL cells slots ws lv pc (.int n :: st) := by
  obtain ⟨rfl, rfl⟩ := he
  obtain ⟨p, l, e, R, s, m, args, below, meth, c0, A, H0, Q⟩ := g
  obtain ⟨hx, hb, hml, hown, hts, hK, hA, hlk, rfl, hNW⟩ := C
  subst hp
  intro H locs ls hP hD hS hl
  refine va_newa (atype := .int) (ty := .int) (a0 := (N, .inl (fun _ => 0))) hx hb (hts _ hw) rfl hK hP hD hS hA (fun cA => rfl) hn hN hb8 hcs.1 hcs.2 hd (fun q cA H1 hK1 hP1 hD1 hS1 => ?_)
  have e1 := (hK1.2 4 (cA, .int) rfl).2
  have e2 := (hK.2 0 (c 0, .int) rfl).2
  have e3 : cA = c 0 := Option.some.inj (Eq.trans (Eq.symm e1) e2)
  subst e3
  exact kk q H1 locs ls hP1 hD1 hS1 hl
theorem vv_sub (wis lis : List Nat) (ws' : va_W) (lv' : List (Nat × Value)) (hw : wis.map (fun i => ws[i]?) = ws'.map some) (hn : va_nd wis = true) (hl' : lv_pick lv lis = lv') (kk : VV g D nL cells slots ws' lv' pc st) : VV g D nL cells slots ws lv pc st := by
  obtain ⟨p, l, e, R, s, m, args, below, meth, c0, A, H0, Q⟩ := g
  intro H locs ls hP hD hS hl
  exact kk H locs ls (hP.sub wis (fm_of_map hw)) (hD.sub wis hn hw) hS (lv_sub hl lis hl')
theorem vv_lv (lis : List Nat) (lv' : List (Nat × Value)) (hl' : lv_pick lv lis = lv') (kk : VV g D nL cells slots ws lv' pc st) : VV g D nL cells slots ws lv pc st := by
  obtain ⟨p, l, e, R, s, m, args, below, meth, c0, A, H0, Q⟩ := g
  intro H locs ls hP hD hS hl
  exact kk H locs ls hP hD hS (lv_sub hl lis hl')
theorem vv_widen {k n : Nat} (h1 : cells ≤ k) (h2 : slots ≤ n) (kk : VV g D nL k n ws lv pc st) : VV g D nL cells slots ws lv pc st := by
  obtain ⟨p, l, e, R, s, m, args, below, meth, c0, A, H0, Q⟩ := g
  intro H locs ls hP hD hS hl
  exact W.widen h1 h2 (kk H locs ls hP hD hS hl)
end VVRows
/-! contracts: a method over a world of cells, its answer and its world behind it named -/
def CPre (D : va_G) (c : Nat → ClassId) (w : va_W) (sz : Nat) (U : State) : Prop := U.heap.size = sz ∧ va_P D vwCl w U.heap ∧ va_K D vwCl (tyL c) U ∧ va_D (fun _ => True) w ∧ NW c U
def CPost (D : va_G) (c : Nat → ClassId) (w : va_W) (A : Nat → Prop) (t : State) : Prop := va_P D vwCl w t.heap ∧ va_K D vwCl (tyL c) t ∧ va_D A w
theorem CPre_blind {D : va_G} {c : Nat → ClassId} {w : va_W} {sz : Nat} {av : List Value} : FrameBlind (va_Pc av (CPre D c w sz)) := fun a U g mk q => by
  obtain ⟨q0, q1, qP, qK, qD, qN⟩ := q
  exact ⟨q0, q1, qP, va_K.moved (u := U) (U := U.calling g mk a) (Vm.Alike.refl U.vm) qK, qD, qN.same rfl⟩
def DTi (l : Launch) (y : MethodName) (wy : List Cond) (rm : Room) (D : va_G) (c : Nat → ClassId) (w : va_W) (av : List Value) (r : Int32) (w' : va_W) (mc ms : Nat) : Prop :=
  ∀ sz, Met l y wy rm (va_Pc av (CPre D c w sz)) (va_Qi (fun (r' : Int32) (_ : Unit) => r' = r) (fun _ t => CPost D c w' (va_A w sz) t) (va_A w sz)) mc ms (va_A w sz)
def DTl (l : Launch) (y : MethodName) (wy : List Cond) (rm : Room) (D : va_G) (c : Nat → ClassId) (w : va_W) (av : List Value) (r : Int64) (w' : va_W) (mc ms : Nat) : Prop :=
  ∀ sz, Met l y wy rm (va_Pc av (CPre D c w sz)) (va_Ql (fun (r' : Int64) (_ : Unit) => r' = r) (fun _ t => CPost D c w' (va_A w sz) t) (va_A w sz)) mc ms (va_A w sz)
def DTv (l : Launch) (y : MethodName) (wy : List Cond) (rm : Room) (D : va_G) (c : Nat → ClassId) (w : va_W) (av : List Value) (w' : va_W) (mc ms : Nat) : Prop :=
  ∀ sz, Met l y wy rm (va_Pc av (CPre D c w sz)) (va_Qv (fun (_ : Unit) => True) (fun _ t => CPost D c w' (va_A w sz) t) (va_A w sz)) mc ms (va_A w sz)
section OfW
variable {l : Launch} {y : MethodName} {wy wy' : List Cond} {rm : Room} {D : va_G} {c : Nat → ClassId} {w : va_W} {av : List Value} {w' : va_W} {mc ms : Nat} {cc : ByteArray} {nL : Nat}
theorem DTi_of {r : Int32} (own : String) (ho : y.cls = own) (hy : plainName y.cls = true) (hw : wy = Cond.code y cc nL (some .int) :: wy') (hlen : (lg_sl av).length ≤ nL)
    (body : ∀ (g : CtxT), CX g D c cc own wy nL rm → (∀ (lv : List (Nat × Value)) (pc : Nat), decode cc pc = .ok (.ireturn, 1) → VV g D nL mc ms w' lv pc [.int r]) → VV g D nL 0 0 w (lv_args 0 av) 0 []) : DTi l y wy rm D c w av r w' mc ms := by
  intro sz
  refine Met.ofW (cc := cc) (maxL := nL) (ret := some .int) hy hw ?_
  intro p e s m args below meth c0 s₁ B hml hv
  obtain ⟨rfl, hsz, hP, hK, hD0, hNW⟩ := hv
  have hts := atoms_spec (ws := wy) B.pre
  have hown : s.vm.findClass own = some m.cls := ho ▸ findClass_of_methodNamed B.named
  subst hsz
  rw [lg_entry_eq]
  exact body (p, l, e, _, s, m, _, below, meth, c0, va_A w s.heap.size, s.heap, _) ⟨B.exec, B.bytes, hml, hown, hts, hK, fun q h => Or.inr h, B.notSynchronized, rfl, hNW⟩
    (fun lv pc hd H locs ls hP hD hS hl => W.iret B.exec B.bytes B.returns (fun t ht hW => ⟨⟨r, (), rfl, rfl, by rw [ht]; exact hP, va_K.moved hW.alike hK, hD⟩, hS.F ht⟩) hS.2.2 hd B.notSynchronized)
    s.heap [] _ hP hD0.self va_S.rf (lv_entry av hlen)
theorem DTz_of {r : Int32} (own : String) (ho : y.cls = own) (hy : plainName y.cls = true) (hw : wy = Cond.code y cc nL (some .boolean) :: wy') (hlen : (lg_sl av).length ≤ nL)
    (body : ∀ (g : CtxT), CX g D c cc own wy nL rm → (∀ (lv : List (Nat × Value)) (pc : Nat), (r = 0 ∨ r = 1) → decode cc pc = .ok (.ireturn, 1) → VV g D nL mc ms w' lv pc [.int r]) → VV g D nL 0 0 w (lv_args 0 av) 0 []) : DTi l y wy rm D c w av r w' mc ms := by
  intro sz
  refine Met.ofW (cc := cc) (maxL := nL) (ret := some .boolean) hy hw ?_
  intro p e s m args below meth c0 s₁ B hml hv
  obtain ⟨rfl, hsz, hP, hK, hD0, hNW⟩ := hv
  have hts := atoms_spec (ws := wy) B.pre
  have hown : s.vm.findClass own = some m.cls := ho ▸ findClass_of_methodNamed B.named
  subst hsz
  rw [lg_entry_eq]
  exact body (p, l, e, _, s, m, _, below, meth, c0, va_A w s.heap.size, s.heap, _) ⟨B.exec, B.bytes, hml, hown, hts, hK, fun q h => Or.inr h, B.notSynchronized, rfl, hNW⟩
    (fun lv pc hz hd H locs ls hP hD hS hl => W.zret B.exec B.bytes B.returns (by rcases hz with h | h <;> subst h <;> rfl) (fun t ht hW => ⟨⟨r, (), rfl, rfl, by rw [ht]; exact hP, va_K.moved hW.alike hK, hD⟩, hS.F ht⟩) hS.2.2 hd B.notSynchronized)
    s.heap [] _ hP hD0.self va_S.rf (lv_entry av hlen)
theorem DTl_of {r : Int64} (own : String) (ho : y.cls = own) (hy : plainName y.cls = true) (hw : wy = Cond.code y cc nL (some .long) :: wy') (hlen : (lg_sl av).length ≤ nL)
    (body : ∀ (g : CtxT), CX g D c cc own wy nL rm → (∀ (lv : List (Nat × Value)) (pc : Nat), decode cc pc = .ok (.lreturn, 1) → VV g D nL mc ms w' lv pc [.long r]) → VV g D nL 0 0 w (lv_args 0 av) 0 []) : DTl l y wy rm D c w av r w' mc ms := by
  intro sz
  refine Met.ofW (cc := cc) (maxL := nL) (ret := some .long) hy hw ?_
  intro p e s m args below meth c0 s₁ B hml hv
  obtain ⟨rfl, hsz, hP, hK, hD0, hNW⟩ := hv
  have hts := atoms_spec (ws := wy) B.pre
  have hown : s.vm.findClass own = some m.cls := ho ▸ findClass_of_methodNamed B.named
  subst hsz
  rw [lg_entry_eq]
  exact body (p, l, e, _, s, m, _, below, meth, c0, va_A w s.heap.size, s.heap, _) ⟨B.exec, B.bytes, hml, hown, hts, hK, fun q h => Or.inr h, B.notSynchronized, rfl, hNW⟩
    (fun lv pc hd H locs ls hP hD hS hl => W.lret B.exec B.bytes B.returns (fun t ht hW => ⟨⟨r, (), rfl, rfl, by rw [ht]; exact hP, va_K.moved hW.alike hK, hD⟩, hS.F ht⟩) hS.2.2 hd B.notSynchronized)
    s.heap [] _ hP hD0.self va_S.rf (lv_entry av hlen)
theorem DTv_of (own : String) (ho : y.cls = own) (hy : plainName y.cls = true) (hw : wy = Cond.code y cc nL none :: wy') (hlen : (lg_sl av).length ≤ nL)
    (body : ∀ (g : CtxT), CX g D c cc own wy nL rm → (∀ (lv : List (Nat × Value)) (pc : Nat), decode cc pc = .ok (.return_, 1) → VV g D nL mc ms w' lv pc []) → VV g D nL 0 0 w (lv_args 0 av) 0 []) : DTv l y wy rm D c w av w' mc ms := by
  intro sz
  refine Met.ofW (cc := cc) (maxL := nL) (ret := none) hy hw ?_
  intro p e s m args below meth c0 s₁ B hml hv
  obtain ⟨rfl, hsz, hP, hK, hD0, hNW⟩ := hv
  have hts := atoms_spec (ws := wy) B.pre
  have hown : s.vm.findClass own = some m.cls := ho ▸ findClass_of_methodNamed B.named
  subst hsz
  rw [lg_entry_eq]
  exact body (p, l, e, _, s, m, _, below, meth, c0, va_A w s.heap.size, s.heap, _) ⟨B.exec, B.bytes, hml, hown, hts, hK, fun q h => Or.inr h, B.notSynchronized, rfl, hNW⟩
    (fun lv pc hd H locs ls hP hD hS hl => W.vret B.exec B.bytes B.returns (fun t ht hW => ⟨⟨(), rfl, trivial, by rw [ht]; exact hP, va_K.moved hW.alike hK, hD⟩, hS.F ht⟩) hS.2.2 hd B.notSynchronized)
    s.heap [] _ hP hD0.self va_S.rf (lv_entry av hlen)
end OfW
/-! a part of a world put anew: each cell is the callee's, or an old one that the callee hadn't -/
def srcf (ws w : va_W) : Bool × Nat → Option (Nat × va_E)
  | (true, j) => w[j]?
  | (false, i) => ws[i]?
theorem va_D_fst {A : Nat → Prop} {ws ws' : va_W} (h : ws'.map Prod.fst = ws.map Prod.fst) (hD : va_D A ws) : va_D A ws' := by
  have key : ∀ (k : Nat) (q : Nat × va_E), ws'[k]? = some q → ∃ q', ws[k]? = some q' ∧ q'.1 = q.1 := by
    intro k q hk
    have h1 : (ws'.map Prod.fst)[k]? = some q.1 := by rw [List.getElem?_map, hk]; rfl
    rw [h, List.getElem?_map] at h1
    cases hq : ws[k]? with
    | none => rw [hq] at h1; cases h1
    | some q' => rw [hq] at h1; exact ⟨q', rfl, Option.some.inj h1⟩
  refine ⟨fun i j p q hi hj e => ?_, fun k q hk => ?_⟩
  · obtain ⟨p', h1, e1⟩ := key i p hi
    obtain ⟨q', h2, e2⟩ := key j q hj
    exact hD.1 i j p' q' h1 h2 (by rw [e1, e2, e])
  · obtain ⟨q', h1, e1⟩ := key k q hk
    rw [← e1]
    exact hD.2 k q' h1
/-- behind a call that keeps the addresses of its world -/
theorem va_put_back {A0 : Nat → Prop} {D : va_G} {cl : List vw_C} {ws wc w1 ws1 : va_W} {H H1 : Heap} (hP : va_P D cl ws H) (hD : va_D A0 ws) (isC : List Nat) (hC : isC.map (fun i => ws[i]?) = wc.map some)
    (hk : ∀ q : Nat, q < H.size → ¬ va_A wc H.size q → H1[q]? = H[q]?) (src : List (Bool × Nat)) (hsrc : src.map (srcf ws w1) = ws1.map some) (hok : src.all (fun o => o.1 || !(isC.contains o.2)) = true) (hadr : ws1.map Prod.fst = ws.map Prod.fst) (hP1 : va_P D cl w1 H1) : va_P D cl ws1 H1 ∧ va_D A0 ws1 := by
  have at' : ∀ (k : Nat) (q : Nat × va_E), wc[k]? = some q → ∃ i, isC[k]? = some i ∧ ws[i]? = some q := by
    intro k q hq
    have h1 : (isC.map (fun i => ws[i]?))[k]? = some (some q) := by rw [hC, List.getElem?_map, hq]; rfl
    rw [List.getElem?_map] at h1
    cases hi : isC[k]? with
    | none => rw [hi] at h1; cases h1
    | some i => rw [hi] at h1; exact ⟨i, rfl, Option.some.inj h1⟩
  refine ⟨fun k q hq => ?_, va_D_fst hadr hD⟩
  have h1 : (src.map (srcf ws w1))[k]? = some (some q) := by rw [hsrc, List.getElem?_map, hq]; rfl
  rw [List.getElem?_map] at h1
  cases ho : src[k]? with
  | none => rw [ho] at h1; cases h1
  | some o =>
    rw [ho] at h1
    have h2 : srcf ws w1 o = some q := Option.some.inj h1
    have h3 := List.all_eq_true.mp hok o (List.mem_of_getElem? ho)
    obtain ⟨b, i⟩ := o
    cases b with
    | true => exact hP1 i q h2
    | false =>
      have h4 : ws[i]? = some q := h2
      have hn : i ∉ isC := by
        intro hm
        have h5 : isC.contains i = true := List.contains_iff_mem.mpr hm
        have h6 : (false || !(isC.contains i)) = true := h3
        rw [h5] at h6
        cases h6
      have hl := (hP i q h4).lt
      refine (hP i q h4).kept (hk q.1 hl (fun h9 => ?_))
      rcases h9 with ⟨k2, e, h9⟩ | h9
      · obtain ⟨j, h5, h6⟩ := at' k2 (q.1, e) h9
        have hij := hD.1 i j q (q.1, e) h4 h6 rfl
        subst hij
        exact hn (List.mem_of_getElem? h5)
      · omega
section VVCalls
variable {g : CtxT} {D : va_G} {c : Nat → ClassId} {cc : ByteArray} {own : String} {Ts : List Cond} {nL cells slots pc : Nat} {rm : Room} {ws : va_W} {lv : List (Nat × Value)} {st : List Value}
variable {y : MethodName} {wy wy' : List Cond} {rmy : Room} {wc w' : va_W} {mc ms maxL n index b ci N : Nat} {ret : Option FieldType} {bytes : ByteArray} {Cn host : String} {T : u_T} {As : List Value} {fs : List Value}
theorem vv_callVi (C : CX g D c cc own Ts nL rm) {r : Int32} (M : ∀ l, DTi l y wy rmy D c wc (.ref b :: As) r w' mc ms) (hG : GoodIn Ts (wsV own index Cn y wy)) (hwy : wy = Cond.code y bytes maxL ret :: wy') (hrc : rmy.cells = mc) (hrs : rmy.slots = ms)
    (hyd : y.cls = Cn ∧ y.cls ≠ "java/lang/invoke/MethodHandle" ∧ y.cls ≠ "java/lang/invoke/VarHandle" ∧ (parseMethodDescriptor y.desc).map (fun d => d.parameters.length) = some n) (hR : rmy.frames + 1 ≤ rm.frames ∧ 8 + (maxL + 11) + rmy.locals ≤ rm.locals)
    (isC : List Nat) (hC : isC.map (fun i => ws[i]?) = wc.map some) (hnd : va_nd isC = true) (k0 : Nat) (hk0 : wc[k0]? = some (b, .inr (ci, fs))) (hci : vwCl[ci]? = some (Cn, T, N)) (ws1 : va_W) (src : List (Bool × Nat)) (hsrc : src.map (srcf ws w') = ws1.map some) (hok : src.all (fun o => o.1 || !(isC.contains o.2)) = true) (hadr : ws1.map Prod.fst = ws.map Prod.fst) (hAs : As.length = n) (rest : List Value) (hst : st = As.reverse ++ .ref b :: rest) (hcat : (rest.map fun v => v.category).sum ≤ 8)
    (hf : cells + mc ≤ rm.cells ∧ slots + ms ≤ rm.slots) (hd : decode cc pc = .ok (.invokevirtual index, 3)) (pc' cells' slots' : Nat) (hp : pc + 3 = pc') (hcs : cells + mc = cells' ∧ slots + ms = slots') (kk : VV g D nL cells' slots' ws1 lv pc' (.int r :: rest)) : VV g D nL cells slots ws lv pc st := by
  obtain ⟨p, l, e, R, s, m, args, below, meth, c0, A, H0, Q⟩ := g
  obtain ⟨hx, hb, hml, hown, hts, hK, hA, hlk, rfl, hNW⟩ := C
  obtain ⟨rfl, rfl⟩ := hcs
  subst hp; subst hst
  intro H locs ls hP hD hS hl
  have hF := va_free hD hS hA isC hC
  refine va_calli (va_runV (As := As) (rest := rest) ⟨hx, hb, hml, hown, hts⟩ (M l H.size) (cwV n hts hG hwy hrc hrs hyd hR) ⟨CPre_blind, va_recv hK (hP.sub isC (fm_of_map hC)) hci hk0, fun U hU hW => ⟨rfl, by rw [hU], by rw [hU]; exact hP.sub isC (fm_of_map hC), va_K.moved hW.alike hK, (hD.sub isC hnd hC).weaken (fun _ _ _ _ => trivial), hNW.warm hW⟩⟩ rfl hAs hl.1 rfl (lv_room hcat) hd hf) hS (fun q _ h => hF q h) hF (fun r_ u t H1 locs1 ht hvm hw hB hz1 hk1 hS1 => ?_)
  subst hw; obtain ⟨hP1, hK1, hD1⟩ := hB
  rw [ht] at hP1
  obtain ⟨hP2, hD2⟩ := va_put_back hP hD isC hC hk1 src hsrc hok hadr hP1
  exact kk H1 locs1 ls hP2 hD2 hS1 hl
theorem vv_callVv (C : CX g D c cc own Ts nL rm) (M : ∀ l, DTv l y wy rmy D c wc (.ref b :: As) w' mc ms) (hG : GoodIn Ts (wsV own index Cn y wy)) (hwy : wy = Cond.code y bytes maxL ret :: wy') (hrc : rmy.cells = mc) (hrs : rmy.slots = ms)
    (hyd : y.cls = Cn ∧ y.cls ≠ "java/lang/invoke/MethodHandle" ∧ y.cls ≠ "java/lang/invoke/VarHandle" ∧ (parseMethodDescriptor y.desc).map (fun d => d.parameters.length) = some n) (hR : rmy.frames + 1 ≤ rm.frames ∧ 8 + (maxL + 11) + rmy.locals ≤ rm.locals)
    (isC : List Nat) (hC : isC.map (fun i => ws[i]?) = wc.map some) (hnd : va_nd isC = true) (k0 : Nat) (hk0 : wc[k0]? = some (b, .inr (ci, fs))) (hci : vwCl[ci]? = some (Cn, T, N)) (ws1 : va_W) (src : List (Bool × Nat)) (hsrc : src.map (srcf ws w') = ws1.map some) (hok : src.all (fun o => o.1 || !(isC.contains o.2)) = true) (hadr : ws1.map Prod.fst = ws.map Prod.fst) (hAs : As.length = n) (rest : List Value) (hst : st = As.reverse ++ .ref b :: rest) (hcat : (rest.map fun v => v.category).sum ≤ 8)
    (hf : cells + mc ≤ rm.cells ∧ slots + ms ≤ rm.slots) (hd : decode cc pc = .ok (.invokevirtual index, 3)) (pc' cells' slots' : Nat) (hp : pc + 3 = pc') (hcs : cells + mc = cells' ∧ slots + ms = slots') (kk : VV g D nL cells' slots' ws1 lv pc' (rest)) : VV g D nL cells slots ws lv pc st := by
  obtain ⟨p, l, e, R, s, m, args, below, meth, c0, A, H0, Q⟩ := g
  obtain ⟨hx, hb, hml, hown, hts, hK, hA, hlk, rfl, hNW⟩ := C
  obtain ⟨rfl, rfl⟩ := hcs
  subst hp; subst hst
  intro H locs ls hP hD hS hl
  have hF := va_free hD hS hA isC hC
  refine va_callv (va_runV (As := As) (rest := rest) ⟨hx, hb, hml, hown, hts⟩ (M l H.size) (cwV n hts hG hwy hrc hrs hyd hR) ⟨CPre_blind, va_recv hK (hP.sub isC (fm_of_map hC)) hci hk0, fun U hU hW => ⟨rfl, by rw [hU], by rw [hU]; exact hP.sub isC (fm_of_map hC), va_K.moved hW.alike hK, (hD.sub isC hnd hC).weaken (fun _ _ _ _ => trivial), hNW.warm hW⟩⟩ rfl hAs hl.1 rfl (lv_room hcat) hd hf) hS (fun q _ h => hF q h) hF (fun u t H1 locs1 ht hvm hw hB hz1 hk1 hS1 => ?_)
  obtain ⟨hP1, hK1, hD1⟩ := hB
  rw [ht] at hP1
  obtain ⟨hP2, hD2⟩ := va_put_back hP hD isC hC hk1 src hsrc hok hadr hP1
  exact kk H1 locs1 ls hP2 hD2 hS1 hl
theorem vv_callVl (C : CX g D c cc own Ts nL rm) {r : Int64} (M : ∀ l, DTl l y wy rmy D c wc (.ref b :: As) r w' mc ms) (hG : GoodIn Ts (wsV own index Cn y wy)) (hwy : wy = Cond.code y bytes maxL ret :: wy') (hrc : rmy.cells = mc) (hrs : rmy.slots = ms)
    (hyd : y.cls = Cn ∧ y.cls ≠ "java/lang/invoke/MethodHandle" ∧ y.cls ≠ "java/lang/invoke/VarHandle" ∧ (parseMethodDescriptor y.desc).map (fun d => d.parameters.length) = some n) (hR : rmy.frames + 1 ≤ rm.frames ∧ 8 + (maxL + 11) + rmy.locals ≤ rm.locals)
    (isC : List Nat) (hC : isC.map (fun i => ws[i]?) = wc.map some) (hnd : va_nd isC = true) (k0 : Nat) (hk0 : wc[k0]? = some (b, .inr (ci, fs))) (hci : vwCl[ci]? = some (Cn, T, N)) (ws1 : va_W) (src : List (Bool × Nat)) (hsrc : src.map (srcf ws w') = ws1.map some) (hok : src.all (fun o => o.1 || !(isC.contains o.2)) = true) (hadr : ws1.map Prod.fst = ws.map Prod.fst) (hAs : As.length = n) (rest : List Value) (hst : st = As.reverse ++ .ref b :: rest) (hcat : (rest.map fun v => v.category).sum ≤ 8)
    (hf : cells + mc ≤ rm.cells ∧ slots + ms ≤ rm.slots) (hd : decode cc pc = .ok (.invokevirtual index, 3)) (pc' cells' slots' : Nat) (hp : pc + 3 = pc') (hcs : cells + mc = cells' ∧ slots + ms = slots') (kk : VV g D nL cells' slots' ws1 lv pc' (.long r :: rest)) : VV g D nL cells slots ws lv pc st := by
  obtain ⟨p, l, e, R, s, m, args, below, meth, c0, A, H0, Q⟩ := g
  obtain ⟨hx, hb, hml, hown, hts, hK, hA, hlk, rfl, hNW⟩ := C
  obtain ⟨rfl, rfl⟩ := hcs
  subst hp; subst hst
  intro H locs ls hP hD hS hl
  have hF := va_free hD hS hA isC hC
  refine va_calll (va_runV (As := As) (rest := rest) ⟨hx, hb, hml, hown, hts⟩ (M l H.size) (cwV n hts hG hwy hrc hrs hyd hR) ⟨CPre_blind, va_recv hK (hP.sub isC (fm_of_map hC)) hci hk0, fun U hU hW => ⟨rfl, by rw [hU], by rw [hU]; exact hP.sub isC (fm_of_map hC), va_K.moved hW.alike hK, (hD.sub isC hnd hC).weaken (fun _ _ _ _ => trivial), hNW.warm hW⟩⟩ rfl hAs hl.1 rfl (lv_room hcat) hd hf) hS (fun q _ h => hF q h) hF (fun r_ u t H1 locs1 ht hvm hw hB hz1 hk1 hS1 => ?_)
  subst hw; obtain ⟨hP1, hK1, hD1⟩ := hB
  rw [ht] at hP1
  obtain ⟨hP2, hD2⟩ := va_put_back hP hD isC hC hk1 src hsrc hok hadr hP1
  exact kk H1 locs1 ls hP2 hD2 hS1 hl
theorem vv_callSi (C : CX g D c cc own Ts nL rm) {r : Int32} (M : ∀ l, DTi l y wy rmy D c wc As r w' mc ms) (hG : GoodIn Ts (va_wsS own index y wy)) (hwy : wy = Cond.code y bytes maxL ret :: wy') (hrc : rmy.cells = mc) (hrs : rmy.slots = ms)
    (hyd : y.cls ≠ "java/lang/invoke/MethodHandle" ∧ y.cls ≠ "java/lang/invoke/VarHandle" ∧ (parseMethodDescriptor y.desc).map (fun d => d.parameters.length) = some n) (hR : rmy.frames + 1 ≤ rm.frames ∧ 8 + (maxL + 11) + rmy.locals ≤ rm.locals)
    (isC : List Nat) (hC : isC.map (fun i => ws[i]?) = wc.map some) (hnd : va_nd isC = true) (ws1 : va_W) (src : List (Bool × Nat)) (hsrc : src.map (srcf ws w') = ws1.map some) (hok : src.all (fun o => o.1 || !(isC.contains o.2)) = true) (hadr : ws1.map Prod.fst = ws.map Prod.fst) (hAs : As.length = n) (rest : List Value) (hst : st = As.reverse ++ rest) (hcat : (rest.map fun v => v.category).sum ≤ 8)
    (hf : cells + mc ≤ rm.cells ∧ slots + ms ≤ rm.slots) (hd : decode cc pc = .ok (.invokestatic index, 3)) (pc' cells' slots' : Nat) (hp : pc + 3 = pc') (hcs : cells + mc = cells' ∧ slots + ms = slots') (kk : VV g D nL cells' slots' ws1 lv pc' (.int r :: rest)) : VV g D nL cells slots ws lv pc st := by
  obtain ⟨p, l, e, R, s, m, args, below, meth, c0, A, H0, Q⟩ := g
  obtain ⟨hx, hb, hml, hown, hts, hK, hA, hlk, rfl, hNW⟩ := C
  obtain ⟨rfl, rfl⟩ := hcs
  subst hp; subst hst
  intro H locs ls hP hD hS hl
  have hF := va_free hD hS hA isC hC
  refine va_calli (va_runS (As := As) (rest := rest) ⟨hx, hb, hml, hown, hts⟩ (M l H.size) (va_cwS n hts hG hwy hrc hrs hyd hR) ⟨CPre_blind, fun U hU hW => ⟨rfl, by rw [hU], by rw [hU]; exact hP.sub isC (fm_of_map hC), va_K.moved hW.alike hK, (hD.sub isC hnd hC).weaken (fun _ _ _ _ => trivial), hNW.warm hW⟩⟩ rfl hAs hl.1 rfl (lv_room hcat) hd hf) hS (fun q _ h => hF q h) hF (fun r_ u t H1 locs1 ht hvm hw hB hz1 hk1 hS1 => ?_)
  subst hw; obtain ⟨hP1, hK1, hD1⟩ := hB
  rw [ht] at hP1
  obtain ⟨hP2, hD2⟩ := va_put_back hP hD isC hC hk1 src hsrc hok hadr hP1
  exact kk H1 locs1 ls hP2 hD2 hS1 hl
theorem vv_callSv (C : CX g D c cc own Ts nL rm) (M : ∀ l, DTv l y wy rmy D c wc As w' mc ms) (hG : GoodIn Ts (va_wsS own index y wy)) (hwy : wy = Cond.code y bytes maxL ret :: wy') (hrc : rmy.cells = mc) (hrs : rmy.slots = ms)
    (hyd : y.cls ≠ "java/lang/invoke/MethodHandle" ∧ y.cls ≠ "java/lang/invoke/VarHandle" ∧ (parseMethodDescriptor y.desc).map (fun d => d.parameters.length) = some n) (hR : rmy.frames + 1 ≤ rm.frames ∧ 8 + (maxL + 11) + rmy.locals ≤ rm.locals)
    (isC : List Nat) (hC : isC.map (fun i => ws[i]?) = wc.map some) (hnd : va_nd isC = true) (ws1 : va_W) (src : List (Bool × Nat)) (hsrc : src.map (srcf ws w') = ws1.map some) (hok : src.all (fun o => o.1 || !(isC.contains o.2)) = true) (hadr : ws1.map Prod.fst = ws.map Prod.fst) (hAs : As.length = n) (rest : List Value) (hst : st = As.reverse ++ rest) (hcat : (rest.map fun v => v.category).sum ≤ 8)
    (hf : cells + mc ≤ rm.cells ∧ slots + ms ≤ rm.slots) (hd : decode cc pc = .ok (.invokestatic index, 3)) (pc' cells' slots' : Nat) (hp : pc + 3 = pc') (hcs : cells + mc = cells' ∧ slots + ms = slots') (kk : VV g D nL cells' slots' ws1 lv pc' (rest)) : VV g D nL cells slots ws lv pc st := by
  obtain ⟨p, l, e, R, s, m, args, below, meth, c0, A, H0, Q⟩ := g
  obtain ⟨hx, hb, hml, hown, hts, hK, hA, hlk, rfl, hNW⟩ := C
  obtain ⟨rfl, rfl⟩ := hcs
  subst hp; subst hst
  intro H locs ls hP hD hS hl
  have hF := va_free hD hS hA isC hC
  refine va_callv (va_runS (As := As) (rest := rest) ⟨hx, hb, hml, hown, hts⟩ (M l H.size) (va_cwS n hts hG hwy hrc hrs hyd hR) ⟨CPre_blind, fun U hU hW => ⟨rfl, by rw [hU], by rw [hU]; exact hP.sub isC (fm_of_map hC), va_K.moved hW.alike hK, (hD.sub isC hnd hC).weaken (fun _ _ _ _ => trivial), hNW.warm hW⟩⟩ rfl hAs hl.1 rfl (lv_room hcat) hd hf) hS (fun q _ h => hF q h) hF (fun u t H1 locs1 ht hvm hw hB hz1 hk1 hS1 => ?_)
  obtain ⟨hP1, hK1, hD1⟩ := hB
  rw [ht] at hP1
  obtain ⟨hP2, hD2⟩ := va_put_back hP hD isC hC hk1 src hsrc hok hadr hP1
  exact kk H1 locs1 ls hP2 hD2 hS1 hl
theorem vv_callSl (C : CX g D c cc own Ts nL rm) {r : Int64} (M : ∀ l, DTl l y wy rmy D c wc As r w' mc ms) (hG : GoodIn Ts (va_wsS own index y wy)) (hwy : wy = Cond.code y bytes maxL ret :: wy') (hrc : rmy.cells = mc) (hrs : rmy.slots = ms)
    (hyd : y.cls ≠ "java/lang/invoke/MethodHandle" ∧ y.cls ≠ "java/lang/invoke/VarHandle" ∧ (parseMethodDescriptor y.desc).map (fun d => d.parameters.length) = some n) (hR : rmy.frames + 1 ≤ rm.frames ∧ 8 + (maxL + 11) + rmy.locals ≤ rm.locals)
    (isC : List Nat) (hC : isC.map (fun i => ws[i]?) = wc.map some) (hnd : va_nd isC = true) (ws1 : va_W) (src : List (Bool × Nat)) (hsrc : src.map (srcf ws w') = ws1.map some) (hok : src.all (fun o => o.1 || !(isC.contains o.2)) = true) (hadr : ws1.map Prod.fst = ws.map Prod.fst) (hAs : As.length = n) (rest : List Value) (hst : st = As.reverse ++ rest) (hcat : (rest.map fun v => v.category).sum ≤ 8)
    (hf : cells + mc ≤ rm.cells ∧ slots + ms ≤ rm.slots) (hd : decode cc pc = .ok (.invokestatic index, 3)) (pc' cells' slots' : Nat) (hp : pc + 3 = pc') (hcs : cells + mc = cells' ∧ slots + ms = slots') (kk : VV g D nL cells' slots' ws1 lv pc' (.long r :: rest)) : VV g D nL cells slots ws lv pc st := by
  obtain ⟨p, l, e, R, s, m, args, below, meth, c0, A, H0, Q⟩ := g
  obtain ⟨hx, hb, hml, hown, hts, hK, hA, hlk, rfl, hNW⟩ := C
  obtain ⟨rfl, rfl⟩ := hcs
  subst hp; subst hst
  intro H locs ls hP hD hS hl
  have hF := va_free hD hS hA isC hC
  refine va_calll (va_runS (As := As) (rest := rest) ⟨hx, hb, hml, hown, hts⟩ (M l H.size) (va_cwS n hts hG hwy hrc hrs hyd hR) ⟨CPre_blind, fun U hU hW => ⟨rfl, by rw [hU], by rw [hU]; exact hP.sub isC (fm_of_map hC), va_K.moved hW.alike hK, (hD.sub isC hnd hC).weaken (fun _ _ _ _ => trivial), hNW.warm hW⟩⟩ rfl hAs hl.1 rfl (lv_room hcat) hd hf) hS (fun q _ h => hF q h) hF (fun r_ u t H1 locs1 ht hvm hw hB hz1 hk1 hS1 => ?_)
  subst hw; obtain ⟨hP1, hK1, hD1⟩ := hB
  rw [ht] at hP1
  obtain ⟨hP2, hD2⟩ := va_put_back hP hD isC hC hk1 src hsrc hok hadr hP1
  exact kk H1 locs1 ls hP2 hD2 hS1 hl
theorem vv_callNi (C : CX g D c cc own Ts nL rm) {r : Int32} (M : ∀ l, DTi l y wy rmy D c wc As r w' mc ms) (hG : GoodIn Ts wy) (hwy : wy = Cond.code y bytes maxL ret :: wy') (hrc : rmy.cells = mc) (hrs : rmy.slots = ms)
    (hyd : y.cls ≠ "java/lang/invoke/MethodHandle" ∧ y.cls ≠ "java/lang/invoke/VarHandle" ∧ (parseMethodDescriptor y.desc).map (fun d => d.parameters.length) = some n) (hR : rmy.frames + 1 ≤ rm.frames ∧ 8 + (maxL + 11) + rmy.locals ≤ rm.locals)
    (isC : List Nat) (hC : isC.map (fun i => ws[i]?) = wc.map some) (hnd : va_nd isC = true) (hnest : ∀ s : State, NW c s → va_Nw (.methodLinkNest own index y host) s) (hst0 : Cond.static y ∈ Ts) (hini : Cond.initialized y.cls ∈ Ts) (ws1 : va_W) (src : List (Bool × Nat)) (hsrc : src.map (srcf ws w') = ws1.map some) (hok : src.all (fun o => o.1 || !(isC.contains o.2)) = true) (hadr : ws1.map Prod.fst = ws.map Prod.fst) (hAs : As.length = n) (rest : List Value) (hst : st = As.reverse ++ rest) (hcat : (rest.map fun v => v.category).sum ≤ 8)
    (hf : cells + mc ≤ rm.cells ∧ slots + ms ≤ rm.slots) (hd : decode cc pc = .ok (.invokestatic index, 3)) (pc' cells' slots' : Nat) (hp : pc + 3 = pc') (hcs : cells + mc = cells' ∧ slots + ms = slots') (kk : VV g D nL cells' slots' ws1 lv pc' (.int r :: rest)) : VV g D nL cells slots ws lv pc st := by
  obtain ⟨p, l, e, R, s, m, args, below, meth, c0, A, H0, Q⟩ := g
  obtain ⟨hx, hb, hml, hown, hts, hK, hA, hlk, rfl, hNW⟩ := C
  obtain ⟨rfl, rfl⟩ := hcs
  subst hp; subst hst
  intro H locs ls hP hD hS hl
  have hF := va_free hD hS hA isC hC
  refine va_calli (va_runSN (As := As) (rest := rest) ⟨hx, hb, hml, hown, hts⟩ (M l H.size) ⟨va_cnB n hts hG hwy hrc hrs (hnest _ hNW) (hts _ hini) hyd hR, hts _ hst0, trivial⟩ ⟨CPre_blind, fun U hU hW => ⟨rfl, by rw [hU], by rw [hU]; exact hP.sub isC (fm_of_map hC), va_K.moved hW.alike hK, (hD.sub isC hnd hC).weaken (fun _ _ _ _ => trivial), hNW.warm hW⟩⟩ rfl hAs hl.1 rfl (lv_room hcat) hd hf) hS (fun q _ h => hF q h) hF (fun r_ u t H1 locs1 ht hvm hw hB hz1 hk1 hS1 => ?_)
  subst hw; obtain ⟨hP1, hK1, hD1⟩ := hB
  rw [ht] at hP1
  obtain ⟨hP2, hD2⟩ := va_put_back hP hD isC hC hk1 src hsrc hok hadr hP1
  exact kk H1 locs1 ls hP2 hD2 hS1 hl
end VVCalls

