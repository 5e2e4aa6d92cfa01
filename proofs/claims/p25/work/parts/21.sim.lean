/-! the law's own raft: its object, the arrays of its rows, the rows -/
abbrev sO (m0 : Nat) (hour ropes broken windX windY : Int32) (oW oB oT oP : Nat) : va_W := [(m0, .inr (7, [.int hour, .int ropes, .int broken, .int windX, .int windY, .ref oW, .ref oB, .ref oT, .ref oP]))]
theorem in_lt {i : Int32} {n : Nat} (h : vp_in i n) : i.toNatClampNeg < n := Nat.not_le.mp fun q => h (Or.inr q)
theorem nI_inc {j : Nat} : nI j + Int32.ofInt 1 = nI (j + 1) := (nI_succ j).symm
theorem nI_n0 {j : Nat} (h : j < 2 ^ 31) : ¬ nI j < 0 := nI_pos h
def uO (f : Nat → Option Nat) (k x : Nat) : Nat → Option Nat := fun j => if j = k then some x else f j
theorem sg_pick2 {α : Type} {segs segs1 segs2 : List (List α)} (is isJ : List Nat) (h : is.map (fun i => segs[i]?) = segs1.map some) (h2 : isJ.map (fun i => segs[i]?) = segs2.map some) (hp : (is ++ isJ).isPerm (List.range segs.length) = true) :
    segs.flatten.Perm (segs1.flatten ++ segs2.flatten) := by
  have e := sg_pick is isJ h hp
  rw [fm_of_map h2] at e
  exact e
theorem grow_ext {A : Nat → Nat} {N q n : Nat} {sg : Nat → Nat} (h2 : ∀ i, i < n → sg i < N) : ∀ i, i < n → (some (A (sg i)) : Option Nat) = some (uN A N q (sg i)) := fun i hi => by
  have := h2 i hi
  rw [uN_b (by omega)]
theorem to_ext {i : Int32} {k n N q : Nat} {XA : Nat → Nat} {og : Nat → Option Nat} (hi : i.toNatClampNeg = k) (h : ∀ i, i < n → ((og i).all (fun r => decide (r < N))) = true) : ∀ j, j < n → va_up (fun i => Option.map XA (og i)) i.toNatClampNeg (some q) j = Option.map (uN XA N q) (uO og k N j) := fun j hj => by
  rw [hi]
  unfold va_up uO
  by_cases e : j = k
  · rw [if_pos e, if_pos e, Option.map_some, uN_a]
  · rw [if_neg e, if_neg e]
    show Option.map XA (og j) = Option.map (uN XA N q) (og j)
    have h1 := h j hj
    cases ho : og j with
    | none => rfl
    | some r =>
      rw [ho] at h1
      have h2 : r < N := by simpa using h1
      rw [Option.map_some, Option.map_some, uN_b (by omega)]
section VSim
variable {g : CtxT} {D : va_G} {c : Nat → ClassId} {cc : ByteArray} {own : String} {Ts : List Cond} {nL cells slots pc : Nat} {rm : Room} {segs segs2 : List va_W} {ws : va_W} {lv : List (Nat × Value)} {st : List Value}
theorem vs_app (kk : VV g D nL cells slots (segs ++ segs2).flatten lv pc st) : VV g D nL cells slots (segs.flatten ++ segs2.flatten) lv pc st := by
  rw [← List.flatten_append]; exact kk
theorem vs_pool0 {A : Nat → Nat} {len : Nat} {F : Nat → Nat → Int32} (kk : VV g D nL cells slots (segs ++ [rowsW c A 0 len F]).flatten lv pc st) : VV g D nL cells slots segs.flatten lv pc st := by
  have e : (segs ++ [rowsW c A 0 len F]).flatten = segs.flatten := by
    rw [List.flatten_append]
    simp [rowsW]
  rw [e] at kk
  exact kk
theorem vv_aloadN_n (C : CX g D c cc own Ts nL rm) {k : Fin 4} {i : Nat} (hd : decode cc pc = .ok (.aload_n k, 1)) (hi : (k : Nat) = i) (j : Nat) (hj : lv[j]? = some (i, .null)) (pc' : Nat) (hp : pc + 1 = pc') (kk : VV g D nL cells slots ws lv pc' (.null :: st)) : VV g D nL cells slots ws lv pc st := by
  obtain ⟨p, l, e, R, s, m, args, below, meth, c0, A, H0, Q⟩ := g
  obtain ⟨hx, hb, hml, hown, hts, hK, hA, hlk, rfl, hNW⟩ := C
  subst hp
  intro H locs ls hP hD hS hl
  exact lv_aload_nN hx hb hd hi (lv_at hl j hj) (kk H locs ls hP hD hS hl)
theorem vs_ifnull (C : CX g D c cc own Ts nL rm) {A : Nat → Nat} {o : Option Nat} {off : Int} (tgt pc' : Nat) (hd : decode cc pc = .ok (.ifnull off, 3)) (ht : (pc : Int) + off = (tgt : Int)) (hp : pc + 3 = pc') (kt : o = none → VV g D nL cells slots ws lv tgt st) (kf : ¬ o = none → VV g D nL cells slots ws lv pc' st) : VV g D nL cells slots ws lv pc (va_rf (Option.map A o) :: st) := by
  refine vv_ifnull C tgt pc' hd ht hp (fun e => kt ?_) (fun a e => kf ?_)
  · cases o with
    | none => rfl
    | some r => cases e
  · intro z; rw [z] at e; cases e
theorem vs_ifnonnull (C : CX g D c cc own Ts nL rm) {A : Nat → Nat} {o : Option Nat} {off : Int} (tgt pc' : Nat) (hd : decode cc pc = .ok (.ifnonnull off, 3)) (ht : (pc : Int) + off = (tgt : Int)) (hp : pc + 3 = pc') (kt : ¬ o = none → VV g D nL cells slots ws lv tgt st) (kf : o = none → VV g D nL cells slots ws lv pc' st) : VV g D nL cells slots ws lv pc (va_rf (Option.map A o) :: st) := by
  refine vv_ifnonnull C tgt pc' hd ht hp (fun a e => kt ?_) (fun e => kf ?_)
  · intro z; rw [z] at e; cases e
  · cases o with
    | none => rfl
    | some r => cases e
theorem vs_newz (C : CX g D c cc own Ts nL rm) {n : Int32} {N : Nat} (hw : Cond.arrayClass .boolean ∈ Ts) (hn : ¬ n < 0) (hN : n.toNatClampNeg = N) (hb8 : N * componentBytes .boolean ≤ 536870912) (hcs : cells + 1 ≤ rm.cells ∧ slots + N ≤ rm.slots) (hd : decode cc pc = .ok (.newarray .boolean, 2)) (pc' cells' slots' : Nat) (hp : pc + 2 = pc') (he : cells + 1 ≤ cells' ∧ slots + N ≤ slots')
    (kk : ∀ q : Nat, VV g D nL cells' slots' (ws ++ [aZ c q N (fun _ => 0)]) lv pc' (.ref q :: st)) : VV g D nL cells slots ws lv pc (.int n :: st) := by
  have kk' : ∀ q : Nat, VV g D nL (cells + 1) (slots + N) (ws ++ [aZ c q N (fun _ => 0)]) lv pc' (.ref q :: st) := fun q => vv_widen he.1 he.2 (kk q)
  obtain ⟨p, l, e, R, s, m, args, below, meth, c0, A, H0, Q⟩ := g
  obtain ⟨hx, hb, hml, hown, hts, hK, hA, hlk, rfl, hNW⟩ := C
  subst hp
  intro H locs ls hP hD hS hl
  refine va_newa (atype := .boolean) (ty := .boolean) (a0 := (N, .inl (fun _ => 0))) hx hb (hts _ hw) rfl hK hP hD hS hA (fun cA => rfl) hn hN hb8 hcs.1 hcs.2 hd (fun q cA H1 hK1 hP1 hD1 hS1 => ?_)
  have e1 := (hK1.2 4 (cA, .boolean) rfl).2
  have e2 := (hK.2 1 (c 1, .boolean) rfl).2
  have e3 : cA = c 1 := Option.some.inj (Eq.trans (Eq.symm e1) e2)
  subst e3
  exact kk' q H1 locs ls hP1 hD1 hS1 hl
theorem vs_anewK (C : CX g D c cc own Ts nL rm) {n : Int32} {N index : Nat} (hw : Cond.classLink own index "[I" ∈ Ts) (hn : ¬ n < 0) (hN : n.toNatClampNeg = N) (hb8 : N * 4 ≤ 536870912) (hcs : cells + 1 ≤ rm.cells ∧ slots + N ≤ rm.slots) (hd : decode cc pc = .ok (.anewarray index, 3)) (pc' cells' slots' : Nat) (hp : pc + 3 = pc') (he : cells + 1 ≤ cells' ∧ slots + N ≤ slots')
    (kk : ∀ q : Nat, VV g D nL cells' slots' (ws ++ [aR c q N (fun _ => none)]) lv pc' (.ref q :: st)) : VV g D nL cells slots ws lv pc (.int n :: st) :=
  vv_anewA C hw hn hN (by rw [hN]; exact hb8) hcs hd pc' (cells + 1) (slots + N) hp ⟨rfl, rfl⟩ (fun q => vv_widen he.1 he.2 (kk q))
end VSim
abbrev rmX7_more (B : Nat) : Room := { frames := 0, cells := 1, slots := B, locals := 0 }
theorem yd_X7_more : yX7_more.cls ≠ "java/lang/invoke/MethodHandle" ∧ yX7_more.cls ≠ "java/lang/invoke/VarHandle" ∧ (parseMethodDescriptor yX7_more.desc).map (fun d => d.parameters.length) = some 2 := by decide +kernel
theorem kwX7_more_1 : Cond.classLink RX7 13 "[I" ∈ wsX7_more := List.mem_of_getElem? (i := 1) rfl
def mrF (A σ : Nat → Nat) (j : Nat) : Nat → Option Nat := fun i => if i < j then some (A (σ i)) else none
set_option maxHeartbeats 4000000 in
set_option maxRecDepth 100000 in
/-- an array of rows, and one row more, made anew -/
theorem mt_X7_more (l : Launch) (D : va_G) (c : Nat → ClassId) (B : Nat) (hB : B ≤ 64) (a n : Nat) (A : Nat → Nat) (N len : Nat) (F : Nat → Nat → Int32) (σ : Nat → Nat) (ρ : Nat) (hσ : ∀ i, i < n → σ i < N) (hρ : ρ < N) (hn : n < B) :
    MJq l yX7_more wsX7_more (rmX7_more B) D c (List.flatten [[aR c a n (fun i => some (A (σ i)))], rowsW c A N len F]) [.ref a, .ref (A ρ)] (fun (_ : Nat) => True) (fun q => some q) (fun q => List.flatten [[aR c a n (fun i => some (A (σ i)))], [aR c q (n + 1) (fun i => some (A (uN σ n ρ i)))], rowsW c A N len F]) 1 B := by
  refine MJq_of (t0 := .array (.array .int)) (hrt := Or.inr ⟨_, rfl⟩) (cc := cX7_more) (nL := 4) RX7 rfl (by decide) rfl (Nat.le_of_ble_eq_true rfl) (fun g C ret => ?_)
  refine vv_lv [0, 1] [(0, .ref a), (1, .ref (A ρ))] rfl ?_
  refine vv_aload_n C dX7_more_0 rfl 0 rfl 1 rfl ?_
  refine vs_alenR C (q0 := 0) rfl dX7_more_1 2 rfl ?_
  refine vv_iconst C (v := 1) dX7_more_2 (by decide) 3 rfl ?_
  refine vv_iadd C dX7_more_3 4 rfl ?_
  refine vv_eq (st' := [.int (nI (n + 1))]) rfl rfl (by rw [nI_succ]) ?_
  refine vs_anewK C (N := n + 1) kwX7_more_1 (nI_n0 (by omega)) (nI_clamp (by omega)) (by omega) ⟨show 0 + 1 ≤ 1 by omega, show 0 + (n + 1) ≤ B by omega⟩ dX7_more_4 7 1 B rfl ⟨by omega, by omega⟩ (fun q => ?_)
  refine vs_snoc ?_
  refine vv_seg [0, 2, 1] [] [[aR c a n (fun i => some (A (σ i)))], [aR c q (n + 1) (fun _ => none)], rowsW c A N len F] rfl (pm_of (N := 3) rfl (by decide +kernel)) ?_
  refine vs_out (segs' := [[aR c a n (fun i => some (A (σ i)))], [aR c q (n + 1) (mrF A σ 0)], rowsW c A N len F]) 1 rfl (fun i _ => (if_neg (Nat.not_lt_zero i)).symm) rfl ?_
  refine vv_astore_n C [(2, .ref q), (0, .ref a), (1, .ref (A ρ))] dX7_more_7 rfl (by decide) rfl 8 rfl ?_
  refine vv_iconst C (v := 0) dX7_more_8 (by decide) 9 rfl ?_
  refine vv_istore_n C [(3, .int 0), (2, .ref q), (0, .ref a), (1, .ref (A ρ))] dX7_more_9 rfl (by decide) rfl 10 rfl ?_
  have L : ∀ (k j : Nat), j + k = n → VV g D 4 1 B (List.flatten [[aR c a n (fun i => some (A (σ i)))], [aR c q (n + 1) (mrF A σ n)], rowsW c A N len F]) [(2, .ref q), (0, .ref a), (1, .ref (A ρ))] 28 [] → VV g D 4 1 B (List.flatten [[aR c a n (fun i => some (A (σ i)))], [aR c q (n + 1) (mrF A σ j)], rowsW c A N len F]) [(3, .int (nI j)), (2, .ref q), (0, .ref a), (1, .ref (A ρ))] 10 [] := by
    intro k
    induction k with
    | zero =>
      intro j hj kk
      have e : j = n := by omega
      subst e
      refine vv_iload_n C dX7_more_10 rfl 0 rfl 11 rfl ?_
      refine vv_aload_n C dX7_more_11 rfl 2 rfl 12 rfl ?_
      refine vs_alenR C (q0 := 0) rfl dX7_more_12 13 rfl ?_
      refine vv_icmp_ge C 28 16 dX7_more_13 (by decide) rfl (fun hc => ?_) (fun hc => ?_)
      · refine vv_lv [1, 2, 3] [(2, .ref q), (0, .ref a), (1, .ref (A ρ))] rfl ?_
        exact kk
      · exact absurd (nI_le (Nat.le_refl j) (by omega)) hc
    | succ k ih =>
      intro j hj kk
      refine vv_iload_n C dX7_more_10 rfl 0 rfl 11 rfl ?_
      refine vv_aload_n C dX7_more_11 rfl 2 rfl 12 rfl ?_
      refine vs_alenR C (q0 := 0) rfl dX7_more_12 13 rfl ?_
      refine vv_icmp_ge C 28 16 dX7_more_13 (by decide) rfl (fun hc => ?_) (fun hc => ?_)
      · exact absurd hc (nI_ge (show j < n by omega) (by omega))
      · refine vv_aload_n C dX7_more_16 rfl 1 rfl 17 rfl ?_
        refine vv_iload_n C dX7_more_17 rfl 0 rfl 18 rfl ?_
        refine vv_aload_n C dX7_more_18 rfl 2 rfl 19 rfl ?_
        refine vv_iload_n C dX7_more_19 rfl 0 rfl 20 rfl ?_
        refine vs_aald C (q0 := 0) (k := j) rfl (nI_in (show j < n by omega) (by omega)) (nI_clamp (by omega)) dX7_more_20 21 rfl ?_
        refine vs_aast C (q0 := 1) (List.flatten [[aR c a n (fun i => some (A (σ i)))], [aR c q (n + 1) (va_up (mrF A σ j) (nI j).toNatClampNeg (some (A (σ j))))], rowsW c A N len F]) rfl (sg_row (segs := [[aR c a n (fun i => some (A (σ i)))], [aR c q (n + 1) (mrF A σ j)], rowsW c A N len F]) 2 rfl (hσ j (by omega))) (nI_in (show j < n + 1 by omega) (by omega)) rfl dX7_more_21 22 rfl ?_
        refine vs_out (segs' := [[aR c a n (fun i => some (A (σ i)))], [aR c q (n + 1) (mrF A σ (j + 1))], rowsW c A N len F]) 1 rfl (fun i _ => ?_) rfl ?_
        · rw [nI_clamp (by omega)]
          unfold va_up mrF
          by_cases e : i = j
          · subst e
            rw [if_pos rfl, if_pos (by omega)]
          · rw [if_neg e]
            by_cases e2 : i < j
            · rw [if_pos e2, if_pos (by omega)]
            · rw [if_neg e2, if_neg (by omega)]
        · refine vv_iinc C (k := 0) [(3, .int (nI (j + 1))), (2, .ref q), (0, .ref a), (1, .ref (A ρ))] dX7_more_22 rfl nI_inc (by decide) rfl 25 rfl ?_
          refine vv_goto C 10 dX7_more_25 (by decide) ?_
          exact ih (j + 1) (by omega) kk
  refine L n 0 (by omega) ?_
  refine vv_aload_n C dX7_more_28 rfl 0 rfl 29 rfl ?_
  refine vv_aload_n C dX7_more_29 rfl 1 rfl 30 rfl ?_
  refine vs_alenR C (q0 := 0) rfl dX7_more_30 31 rfl ?_
  refine vv_aload_n C dX7_more_31 rfl 2 rfl 32 rfl ?_
  refine vs_aast C (q0 := 1) (List.flatten [[aR c a n (fun i => some (A (σ i)))], [aR c q (n + 1) (va_up (mrF A σ n) (nI n).toNatClampNeg (some (A ρ)))], rowsW c A N len F]) rfl (sg_row (segs := [[aR c a n (fun i => some (A (σ i)))], [aR c q (n + 1) (mrF A σ n)], rowsW c A N len F]) 2 rfl hρ) (nI_in (show n < n + 1 by omega) (by omega)) rfl dX7_more_32 33 rfl ?_
  refine vs_out (segs' := [[aR c a n (fun i => some (A (σ i)))], [aR c q (n + 1) (fun i => some (A (uN σ n ρ i)))], rowsW c A N len F]) 1 rfl (fun i hi => ?_) rfl ?_
  · rw [nI_clamp (by omega)]
    unfold va_up mrF uN
    by_cases e : i = n
    · rw [if_pos e, if_pos e]
    · rw [if_neg e, if_neg e, if_pos (by omega)]
  · refine vv_aload_n C dX7_more_33 rfl 0 rfl 34 rfl ?_
    exact ret q trivial _ _ dX7_more_34
