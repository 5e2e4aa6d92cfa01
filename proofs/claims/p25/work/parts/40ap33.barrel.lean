/-! a barrel comes -/
theorem jn_k {α β : Type} {F : α → Option β} {x : α} : jn F (fun kk => kk x) = F x := rfl
theorem fst0_last {st : Nat → Int32} : ∀ {c j : Nat}, fst0 st (c + 1) j = match fst0 st c j with | some i => some i | none => if st (j + c) = 0 then some (j + c) else none
  | 0, j => by
    rw [fst0, fst0, fst0]
    rfl
  | c + 1, j => by
    rw [fst0, fst0_last (c := c) (j := j + 1), fst0]
    by_cases h : st j = 0
    · rw [if_pos h, if_pos h]
    · rw [if_neg h, if_neg h, show j + 1 + c = j + (c + 1) by omega]
def fI (o : Option Nat) : Int32 := match o with
  | some i => nI i
  | none => -1
theorem r_add87 {tb fx st : Nat → Int32} {u : Int32} {n : Nat} (hn : n ≤ 24) (hs : ∀ j, j < n → tb (5 * j + 2) = st j) : ∀ (j g : Nat) (fi fr : Int32), j ≤ n → j < g → (fr = 0 ∨ fr = 1) → ∃ fr', jX7_addBarrel_L87 fx tb u g fi fr (nI j - 1) = some (match fst0 st j 0 with | some i => nI i | none => fi, fr') ∧ (fr' = 0 ∨ fr' = 1) ∧ (fr' = 1 ↔ fr = 1 ∧ ∀ b, b < j → fx (3 * b + 0) ≠ u) := by
  intro j
  induction j with
  | zero =>
    intro g fi fr hj hg hfr
    cases g with
    | zero => omega
    | succ g =>
      rw [jX7_addBarrel_L87, if_pos (by decide)]
      exact ⟨fr, rfl, hfr, fun z => ⟨z, fun b hb => by omega⟩, fun z => z.1⟩
  | succ j ih =>
    intro g fi fr hj hg hfr
    cases g with
    | zero => omega
    | succ g =>
      rw [nI_pred, jX7_addBarrel_L87, if_neg (n_neg (by omega)), show nI j + (-1) = nI j - 1 from (Int32.sub_eq_add_neg (a := nI j) (b := 1)).symm, fst0_last, Nat.zero_add]
      have hfl : jX7_floats tb (nI j) = some (if st j = 0 then 1 else 0) := by rw [r_floats (by omega), hs j (by omega)]
      -- whatever it says of the place
      have key : ∀ f2 : Int32, (f2 = 0 ∨ f2 = 1) → (f2 = 1 ↔ fr = 1 ∧ fx (3 * j + 0) ≠ u) → ∃ fr', bnd (jX7_floats tb (nI j)) (fun r => if r = 0 then jX7_addBarrel_L87 fx tb u g fi f2 (nI j - 1) else jX7_addBarrel_L87 fx tb u g (nI j) f2 (nI j - 1)) = some (match (match fst0 st j 0 with | some i => some i | none => if st j = 0 then some j else none) with | some i => nI i | none => fi, fr') ∧ (fr' = 0 ∨ fr' = 1) ∧ (fr' = 1 ↔ fr = 1 ∧ ∀ b, b < j + 1 → fx (3 * b + 0) ≠ u) := fun f2 hf2 hf => by
        rw [hfl, bnd_n]
        have tail : ∀ fr' : Int32, (fr' = 1 ↔ f2 = 1 ∧ ∀ b, b < j → fx (3 * b + 0) ≠ u) → (fr' = 1 ↔ fr = 1 ∧ ∀ b, b < j + 1 → fx (3 * b + 0) ≠ u) := fun fr' h => by
          rw [h, hf]
          refine ⟨fun ⟨⟨x1, x2⟩, x3⟩ => ⟨x1, fun b hb => ?_⟩, fun ⟨x1, x2⟩ => ⟨⟨x1, x2 j (by omega)⟩, fun b hb => x2 b (by omega)⟩⟩
          by_cases q : b = j
          · rw [q]; exact x2
          · exact x3 b (by omega)
        by_cases hst : st j = 0
        · rw [if_pos hst, if_neg one_ne, if_pos hst]
          obtain ⟨fr', h1, h2, h3⟩ := ih g (nI j) f2 (by omega) (by omega) hf2
          refine ⟨fr', ?_, h2, tail fr' h3⟩
          rw [h1]
          cases fst0 st j 0 <;> rfl
        · rw [if_neg hst, if_pos rfl, if_neg hst]
          obtain ⟨fr', h1, h2, h3⟩ := ih g fi f2 (by omega) (by omega) hf2
          refine ⟨fr', ?_, h2, tail fr' h3⟩
          rw [h1]
          cases fst0 st j 0 <;> rfl
      rcases hfr with rfl | rfl
      · rw [if_pos rfl]
        exact key 0 (Or.inl rfl) ⟨fun z => absurd z (by decide), fun z => absurd z.1 (by decide)⟩
      · rw [if_neg one_ne, r_fx0 (by omega), bnd_n]
        by_cases hp : fx (3 * j + 0) = u
        · rw [if_pos hp]
          exact key 0 (Or.inl rfl) ⟨fun z => absurd z (by decide), fun z => absurd hp z.2⟩
        · rw [if_neg hp]
          exact key 1 (Or.inr rfl) ⟨fun _ => ⟨rfl, hp⟩, fun _ => rfl⟩
theorem c_lies {n : Nat} {co ro : Nat → Int32} {a b : Int32} (hn : n ≤ 24) : ∃ r, jX0_liesAt (nI n) co ro a b = some r ∧ ((r = 1 ∧ ∃ j, j < n ∧ co j = a ∧ ro j = b) ∨ (r = 0 ∧ ∀ j, j < n → ¬ (co j = a ∧ ro j = b))) := by
  have := itS0 (u := ()) (fun g v => jX0_liesAt_L2 (nI n) co ro a b g v) (fun j => if co j = a ∧ ro j = b then some () else none) n (by omega) (fun g => ?_) (fun g j hj h => ?_) (fun g j x hj h => ?_)
  · unfold jX0_liesAt
    rw [this, bnd_n]
    cases e : sr (fun j => if co j = a ∧ ro j = b then some () else none) n 0 with
    | none =>
      refine ⟨0, chkZ_a, Or.inr ⟨rfl, fun j hj hh => ?_⟩⟩
      have := sr_none e j (by omega) (by omega)
      rw [if_pos hh] at this; cases this
    | some x =>
      obtain ⟨i, -, hi, hx, -⟩ := sr_some e
      refine ⟨1, chkZ_b, Or.inl ⟨rfl, i, by omega, ?_⟩⟩
      by_cases q : co i = a ∧ ro i = b
      · exact q
      · rw [if_neg q] at hx; cases hx
  · rw [jX0_liesAt_L2, if_pos (Int32.le_refl _)]
  · rw [jX0_liesAt_L2, if_neg (fun q => by have := (nI_leI (by omega) (by omega)).mp q; omega), chk_n (by omega) (by omega), rd_n (by omega), nI_1, chk_n (by omega) (by omega), rd_n (by omega)]
    by_cases h1 : co j = a
    · by_cases h2 : ro j = b
      · rw [if_pos ⟨h1, h2⟩] at h; cases h
      · rw [if_pos h1, if_neg h2]
    · rw [if_neg h1]
  · rw [jX0_liesAt_L2, if_neg (fun q => by have := (nI_leI (by omega) (by omega)).mp q; omega), chk_n (by omega) (by omega), rd_n (by omega), chk_n (by omega) (by omega), rd_n (by omega)]
    by_cases h1 : co j = a ∧ ro j = b
    · rw [if_pos h1.1, if_pos h1.2]
    · rw [if_neg h1] at h; cases h
theorem sim_addBarrel (S : Nat → Nat → Int32) (a1 a2 a3 a4 : Int32) (h : Rel S) : ∃ (q : Nat ⊕ (Int32 × Int32 × (Nat → Int32) × (Nat → Int32) × (Nat → Int32) × (Nat → Int32) × (Nat → Int32) × (Nat → Int32) × (Nat → Int32))) (q' : Int32 × Int32 × Int32 × (Nat → Int32) × (Nat → Int32)), jX6_addBarrel (S 23 0) (S 12) (S 13) (S 14) (S 15) (S 19) (S 20) (S 21) (S 22) a1 a2 a3 a4 = some q ∧ jX7_addBarrel (S 60 0) (S 65 0) (S 66) (S 68) a1 a2 a3 a4 = some q' ∧ q'.2.1 = sel q kcL_addBarrel (fun _ => 0) ∧ (∀ k, q = .inl k → k ∈ [1, 2] ∧ Rel (up (up (up (up S 60 (fun _ => q'.2.1)) 65 (fun _ => q'.2.2.1)) 66 q'.2.2.2.1) 68 q'.2.2.2.2)) ∧ (∀ u, q = .inr u → q'.1 = u.1 ∧ Rel (up (up (up (up (up (up (up (up (up (up (up (up S 23 (fun _ => u.2.1)) 12 u.2.2.1) 13 u.2.2.2.1) 14 u.2.2.2.2.1) 15 u.2.2.2.2.2.1) 20 u.2.2.2.2.2.2.1) 21 u.2.2.2.2.2.2.2.1) 22 u.2.2.2.2.2.2.2.2) 60 (fun _ => q'.2.1)) 65 (fun _ => q'.2.2.1)) 66 q'.2.2.2.1) 68 q'.2.2.2.2)) := by
  have fail : ∀ c : Nat, ∀ C : Int32, (c = 1 ∨ c = 2) → kcL_addBarrel c = C → jX6_addBarrel (S 23 0) (S 12) (S 13) (S 14) (S 15) (S 19) (S 20) (S 21) (S 22) a1 a2 a3 a4 = some (.inl c) → jX7_addBarrel (S 60 0) (S 65 0) (S 66) (S 68) a1 a2 a3 a4 = some (0, C, S 65 0, S 66, S 68) →
      ∃ (q : Nat ⊕ (Int32 × Int32 × (Nat → Int32) × (Nat → Int32) × (Nat → Int32) × (Nat → Int32) × (Nat → Int32) × (Nat → Int32) × (Nat → Int32))) (q' : Int32 × Int32 × Int32 × (Nat → Int32) × (Nat → Int32)), jX6_addBarrel (S 23 0) (S 12) (S 13) (S 14) (S 15) (S 19) (S 20) (S 21) (S 22) a1 a2 a3 a4 = some q ∧ jX7_addBarrel (S 60 0) (S 65 0) (S 66) (S 68) a1 a2 a3 a4 = some q' ∧ q'.2.1 = sel q kcL_addBarrel (fun _ => 0) ∧ (∀ k, q = .inl k → k ∈ [1, 2] ∧ Rel (up (up (up (up S 60 (fun _ => q'.2.1)) 65 (fun _ => q'.2.2.1)) 66 q'.2.2.2.1) 68 q'.2.2.2.2)) ∧ (∀ u, q = .inr u → q'.1 = u.1 ∧ Rel (up (up (up (up (up (up (up (up (up (up (up (up S 23 (fun _ => u.2.1)) 12 u.2.2.1) 13 u.2.2.2.1) 14 u.2.2.2.2.1) 15 u.2.2.2.2.2.1) 20 u.2.2.2.2.2.2.1) 21 u.2.2.2.2.2.2.2.1) 22 u.2.2.2.2.2.2.2.2) 60 (fun _ => q'.2.1)) 65 (fun _ => q'.2.2.1)) 66 q'.2.2.2.1) 68 q'.2.2.2.2)) := fun c C hc hC e e' => by
    refine ⟨.inl c, (0, C, S 65 0, S 66, S 68), e, e', hC.symm, fun k hk => ⟨by cases hk; rcases hc with rfl | rfl <;> simp, ?_⟩, fun u hu => (by cases hu)⟩
    exact Rel_upS (k := 68) (f := S 68) rfl (Rel_upS (k := 66) (f := S 66) rfl (Rel_up0 (k := 65) (by simp) (Rel_up (k := 60) (f := fun _ => C) rfl h)))
  obtain ⟨n, k, w, m, r, κ, hB⟩ := h
  have hC := RB_CR hB
  obtain ⟨⟨s1, s2, s3, s4, s5, s6, s7⟩, h2, h3, hW, hR, hS, hP, hQ, hc, hz, hK⟩ := hB
  have hn := hW.1
  have s1' : S 23 0 = nI n := s1
  have s2' : S 65 0 = nI n := s2
  rcases a_what (c := 8) (C1 := 7) (by omega) (by omega) rfl a1 with ⟨cc, hcc, rfl, e1, e2⟩ | ⟨e1, e2⟩
  rotate_left
  · exact fail 1 1 (by simp) rfl (by unfold jX6_addBarrel; rw [show jX6_isBelow a1 8 = some 0 from e1, bnd_n, if_pos rfl]) (by unfold jX7_addBarrel; rw [e2, bnd_n, if_pos rfl, r_fail1, bnd_n])
  have e1' : jX6_isBelow (nI cc) 8 = some 1 := e1
  rcases a_what (c := 8) (C1 := 7) (by omega) (by omega) rfl a2 with ⟨rr, hrr, rfl, e3, e4⟩ | ⟨e3, e4⟩
  rotate_left
  · exact fail 1 1 (by simp) rfl (by unfold jX6_addBarrel; rw [e1', bnd_n, if_neg one_ne, show jX6_isBelow a2 8 = some 0 from e3, bnd_n, if_pos rfl]) (by unfold jX7_addBarrel; rw [e2, bnd_n, if_neg one_ne, e4, bnd_n, if_pos rfl, r_fail1, bnd_n])
  have e3' : jX6_isBelow (nI rr) 8 = some 1 := e3
  by_cases c1 : a3 < 1
  · exact fail 1 1 (by simp) rfl (by unfold jX6_addBarrel; rw [e1', bnd_n, if_neg one_ne, e3', bnd_n, if_neg one_ne, if_pos c1]) (by unfold jX7_addBarrel; rw [e2, bnd_n, if_neg one_ne, e4, bnd_n, if_neg one_ne, r_isIn (a := a3), if_pos c1, bnd_n, if_pos rfl, r_fail1, bnd_n])
  by_cases c2 : 40 < a3
  · exact fail 1 1 (by simp) rfl (by unfold jX6_addBarrel; rw [e1', bnd_n, if_neg one_ne, e3', bnd_n, if_neg one_ne, if_neg c1, if_pos c2]) (by unfold jX7_addBarrel; rw [e2, bnd_n, if_neg one_ne, e4, bnd_n, if_neg one_ne, r_isIn (a := a3), if_neg c1, if_pos c2, bnd_n, if_pos rfl, r_fail1, bnd_n])
  by_cases c3 : a4 < 0
  · exact fail 1 1 (by simp) rfl (by unfold jX6_addBarrel; rw [e1', bnd_n, if_neg one_ne, e3', bnd_n, if_neg one_ne, if_neg c1, if_neg c2, if_pos c3]) (by unfold jX7_addBarrel; rw [e2, bnd_n, if_neg one_ne, e4, bnd_n, if_neg one_ne, r_isIn (a := a3), if_neg c1, if_neg c2, bnd_n, if_neg one_ne, r_isIn (a := a4), if_pos c3, bnd_n, if_pos rfl, r_fail1, bnd_n])
  by_cases c4 : a4 ≤ 9
  rotate_left
  · exact fail 1 1 (by simp) rfl (by unfold jX6_addBarrel; rw [e1', bnd_n, if_neg one_ne, e3', bnd_n, if_neg one_ne, if_neg c1, if_neg c2, if_neg c3, if_neg c4]) (by unfold jX7_addBarrel; rw [e2, bnd_n, if_neg one_ne, e4, bnd_n, if_neg one_ne, r_isIn (a := a3), if_neg c1, if_neg c2, bnd_n, if_neg one_ne, r_isIn (a := a4), if_neg c3, if_pos (Int32.not_le.mp c4), bnd_n, if_pos rfl, r_fail1, bnd_n])
  have c4' : ¬ 9 < a4 := Int32.not_lt.mpr c4
  obtain ⟨lr, f1, f2⟩ := c_lies (co := S 12) (ro := S 13) (a := nI cc) (b := nI rr) hn
  have hpl : nI cc + 8 * nI rr = nI (cc + 8 * rr) := by rw [l8, pk_mul, nI_add]
  obtain ⟨fr', g1, g2, g3⟩ := r_add87 (u := nI (cc + 8 * rr)) (fx := S 66) hn (fun j hj => (hR.1 j hj).2.2.2.2.1) n FU (-1) (if n < 24 then 1 else 0) (Nat.le_refl _) (by unfold FU; omega) (by split <;> simp)
  have hfree : fr' = 1 ↔ (lr = 0 ∧ n < 24) := by
    rw [g3]
    have hiff : (∀ b, b < n → S 66 (3 * b + 0) ≠ nI (cc + 8 * rr)) ↔ lr = 0 := by
      rcases f2 with ⟨rfl, j, hj, x1, x2⟩ | ⟨rfl, x⟩
      · refine ⟨fun z => ?_, fun z => absurd z (by decide)⟩
        obtain ⟨c, d, y1, y2, y3, y4, y5⟩ := hc j hj
        have y3' : S 12 j = nI c := y3
        have y4' : S 13 j = nI d := y4
        have z1 := (nI_eq (by omega) (by omega)).mp (y3'.symm.trans x1)
        have z2 := (nI_eq (by omega) (by omega)).mp (y4'.symm.trans x2)
        exact absurd (y5.trans (by rw [z1, z2])) (z j hj)
      · refine ⟨fun _ => rfl, fun _ b hb hh => ?_⟩
        obtain ⟨c, d, y1, y2, y3, y4, y5⟩ := hc b hb
        have := (nI_eq (by omega) (by omega)).mp (y5.symm.trans hh)
        refine x b hb ⟨y3.trans ?_, y4.trans ?_⟩
        · congr 1; omega
        · congr 1; omega
    rw [hiff]
    by_cases q : n < 24
    · rw [if_pos q]; exact ⟨fun z => ⟨z.2, q⟩, fun z => ⟨rfl, z.1⟩⟩
    · rw [if_neg q]; exact ⟨fun z => absurd z.1 (by decide), fun z => absurd z.2 q⟩
  have hk77 : ∀ {β : Type}, (fun kk : Int32 → Option β => if (24 : Int32) ≤ nI n then kk 0 else kk 1) = fun kk => kk (if n < 24 then 1 else 0) := fun {β} => funext fun kk => by
    by_cases q : n < 24
    · rw [if_pos q, if_neg (show ¬ (24 : Int32) ≤ nI n from fun z => by have := (nI_leI (a := 24) (by omega) (by omega)).mp z; omega)]
    · rw [if_neg q, if_pos (show (24 : Int32) ≤ nI n from (nI_leI (a := 24) (by omega) (by omega)).mpr (by omega))]
  have g1' : jX7_addBarrel_L87 (S 66) (S 68) (nI (cc + 8 * rr)) FU (-1) (if n < 24 then 1 else 0) (nI n - 1) = some (fI (fst0 (S 19) n 0), fr') := g1
  by_cases hok : lr = 0 ∧ n < 24
  rotate_left
  · have hfr : fr' = 0 := g2.resolve_right (fun z => hok (hfree.mp z))
    refine fail 2 2 (by simp) rfl ?_ ?_
    · unfold jX6_addBarrel
      rw [e1', bnd_n, if_neg one_ne, e3', bnd_n, if_neg one_ne, if_neg c1, if_neg c2, if_neg c3, if_pos c4, s1', f1, bnd_n]
      by_cases q : lr = 0
      · rw [if_pos q, if_neg (show ¬ nI n < 24 from fun z => hok ⟨q, (nI_ltI (b := 24) (by omega) (by omega)).mp z⟩)]
      · rw [if_neg q]
    · unfold jX7_addBarrel
      rw [e2, bnd_n, if_neg one_ne, e4, bnd_n, if_neg one_ne, r_isIn (a := a3), if_neg c1, if_neg c2, bnd_n, if_neg one_ne, r_isIn (a := a4), if_neg c3, if_neg c4', bnd_n, if_neg one_ne, s2', hk77, jn_k, hpl, g1', bnd_n]
      dsimp only
      rw [hfr, if_pos rfl, r_fail1, bnd_n]
  obtain ⟨hl0, hn24⟩ := hok
  have hfr : fr' = 1 := hfree.mpr ⟨hl0, hn24⟩
  -- the place where it comes
  obtain ⟨X, Y, hX, hY, hcx, hcy, hrx, hry⟩ : ∃ X Y : Int32, (∃ a, a < 30 ∧ X = nI a) ∧ (∃ b, b < 20 ∧ Y = nI b)
      ∧ (∀ {β : Type}, (fun kk : Int32 → Option β => if fI (fst0 (S 19) n 0) < 0 then kk 0 else chk 24 (fI (fst0 (S 19) n 0)) (kk (rd (S 20) (fI (fst0 (S 19) n 0))))) = fun kk => kk X)
      ∧ (∀ {β : Type}, (fun kk : Int32 → Option β => if fI (fst0 (S 19) n 0) < 0 then kk 10 else chk 24 (fI (fst0 (S 19) n 0)) (kk (rd (S 21) (fI (fst0 (S 19) n 0))))) = fun kk => kk Y)
      ∧ (∀ {β : Type}, (fun kk : Int32 → Option β => if fI (fst0 (S 19) n 0) = -1 then kk 0 else bnd (jX7_ba (S 68) (fI (fst0 (S 19) n 0)) 3) (fun r => kk r)) = fun kk => kk X)
      ∧ (∀ {β : Type}, (fun kk : Int32 → Option β => if fI (fst0 (S 19) n 0) = -1 then kk 10 else bnd (jX7_ba (S 68) (fI (fst0 (S 19) n 0)) 4) (fun r => kk r)) = fun kk => kk Y) := by
    cases e : fst0 (S 19) n 0 with
    | none => exact ⟨0, 10, ⟨0, by omega, rfl⟩, ⟨10, by omega, rfl⟩, funext fun kk => if_pos m1_neg, funext fun kk => if_pos m1_neg, funext fun kk => if_pos rfl, funext fun kk => if_pos rfl⟩
    | some i =>
      obtain ⟨-, hi, -⟩ := fst0_some e
      obtain ⟨hx, hy, -⟩ := hW.2.2.1 i (by omega)
      have ef : fI (some i) = nI i := rfl
      rw [ef]
      refine ⟨S 20 i, S 21 i, hx, hy, funext fun kk => ?_, funext fun kk => ?_, funext fun kk => ?_, funext fun kk => ?_⟩
      · rw [if_neg (n_neg (by omega)), chk_n (by omega) (by omega), rd_n (by omega)]
      · rw [if_neg (n_neg (by omega)), chk_n (by omega) (by omega), rd_n (by omega)]
      · rw [if_neg (n_m1 (by omega)), r_ba3 (by omega), bnd_n, (hR.1 i (by omega)).2.2.2.2.2.1]
      · rw [if_neg (n_m1 (by omega)), r_ba4 (by omega), bnd_n, (hR.1 i (by omega)).2.2.2.2.2.2]
  have hfst : jX0_firstAfloat (nI n) (S 19) = some (fI (fst0 (S 19) n 0)) := c_firstAfloat hn
  have k1 : jX6_addBarrel (S 23 0) (S 12) (S 13) (S 14) (S 15) (S 19) (S 20) (S 21) (S 22) (nI cc) (nI rr) a3 a4 = some (.inr (nI n, nI (n + 1), upd (S 12) n (nI cc), upd (S 13) n (nI rr), upd (S 14) n a3, upd (S 15) n a4, upd (S 20) n X, upd (S 21) n Y, upd (S 22) n (nI n))) := by
    unfold jX6_addBarrel jX0_append
    rw [e1', bnd_n, if_neg one_ne, e3', bnd_n, if_neg one_ne, if_neg c1, if_neg c2, if_neg c3, if_pos c4, s1', f1, bnd_n, if_pos hl0, if_pos (show nI n < 24 from (nI_ltI (b := 24) (by omega) (by omega)).mpr hn24), if_neg (show ¬ (24 : Int32) ≤ nI n from fun z => by have := (nI_leI (a := 24) (by omega) (by omega)).mp z; omega), hfst, bnd_n, hcx, jn_k, chk_n (by omega) (by omega), hcy, jn_k]
    simp (disch := omega) only [chk_n, wr_n, nI_1, bnd_n]
  have k2 : jX7_addBarrel (S 60 0) (S 65 0) (S 66) (S 68) (nI cc) (nI rr) a3 a4 = some (nI n, 0, nI (n + 1), fun q => if 3 * n ≤ q ∧ q < 3 * n + 3 then upd (upd (upd (fun _ => 0) 0 (nI (cc + 8 * rr))) 1 a3) 2 a4 (q - 3 * n) else S 66 q, fun q => if 5 * n ≤ q ∧ q < 5 * n + 5 then upd (upd (upd (upd (upd (fun _ => 0) 0 0) 1 0) 2 0) 3 X) 4 Y (q - 5 * n) else S 68 q) := by
    have cl3 : ∀ i : Int32, inB i 3 = true → ∀ {α : Type} {o : Option α}, chk 3 i o = o := fun i hi {α} {o} => if_pos hi
    have cl5 : ∀ i : Int32, inB i 5 = true → ∀ {α : Type} {o : Option α}, chk 5 i o = o := fun i hi {α} {o} => if_pos hi
    unfold jX7_addBarrel
    rw [e2, bnd_n, if_neg one_ne, e4, bnd_n, if_neg one_ne, r_isIn (a := a3), if_neg c1, if_neg c2, bnd_n, if_neg one_ne, r_isIn (a := a4), if_neg c3, if_neg c4', bnd_n, if_neg one_ne, s2', hk77, jn_k, hpl, g1', bnd_n]
    dsimp only
    rw [hfr, if_neg one_ne, cl3 0 (by decide), cl3 1 (by decide), cl3 2 (by decide), show (3 : Int32) * nI n = nI (3 * n) from pk_mul 3 n, chkP_n (P := CPOK 3 72 0 (nI (3 * n)) 3), cl5 0 (by decide), cl5 1 (by decide), cl5 2 (by decide), hrx, jn_k, cl5 3 (by decide), hry, jn_k, cl5 4 (by decide), show (5 : Int32) * nI n = nI (5 * n) from pk_mul 5 n, chkP_n (P := CPOK 5 120 0 (nI (5 * n)) 5), show cpy (wr (wr (wr (fun _ => 0) 0 (nI (cc + 8 * rr))) 1 a3) 2 a4) (S 66) 0 (nI (3 * n)) 3 = _ from cpy_n (c := 3) (by omega) (by omega), show cpy (wr (wr (wr (wr (wr (fun _ => 0) 0 0) 1 0) 2 0) 3 X) 4 Y) (S 68) 0 (nI (5 * n)) 5 = _ from cpy_n (c := 5) (by omega) (by omega), nI_1, nI_pred]
    · rfl
    · refine ⟨by decide, n_neg (by omega), by decide, by decide, ?_⟩
      rw [clamp_n (by omega)]
      show 5 * n + 5 ≤ 120
      omega
    · refine ⟨by decide, n_neg (by omega), by decide, by decide, ?_⟩
      rw [clamp_n (by omega)]
      show 3 * n + 3 ≤ 72
      omega
  refine ⟨_, _, k1, k2, rfl, fun k hk => (by cases hk), fun u hu => ?_⟩
  cases hu
  refine ⟨rfl, n + 1, k, w, m, r, κ, RelB_of (A := up (up (up (up S 14 (upd (S 14) n a3)) 15 (upd (S 15) n a4)) 20 (upd (S 20) n X)) 21 (upd (S 21) n Y)) ?_ ?_ ?_ ?_ hQ ⟨rfl, rfl, s3, s4, s5, s6, s7⟩ h2 h3 hS ?_ hK⟩
  · obtain ⟨q1, q2, q3, q4, q5, q6, q7⟩ := hW
    refine ⟨by omega, q2, fun j hj => ?_, fun c hcc => ?_, fun q hq h0 => ?_, fun a b hab => ?_, q7⟩
    · show (∃ a, a < 30 ∧ upd (S 20) n X j = nI a) ∧ (∃ b, b < 20 ∧ upd (S 21) n Y j = nI b) ∧ (∃ g, g ≤ 30 ∧ S 17 j = nI g) ∧ S 18 j = fs (fun c => if S 24 c = nI j then 1 else 0) k
      by_cases e : j = n
      · obtain ⟨-, z2, z3, -⟩ := hz n (Nat.le_refl _) hn24
        have z2' : S 17 n = 0 := z2
        have z3' : S 18 n = 0 := z3
        rw [e, upd_a, upd_a, z2', z3']
        refine ⟨hX, hY, ⟨0, by omega, rfl⟩, (fs_zero fun c hcc => if_neg fun z => ?_).symm⟩
        rcases q4 c hcc with y | ⟨b', hb', y, -⟩
        · have y' : S 24 c = -1 := y
          rw [y'] at z; exact n_m1 (by omega) z.symm
        · have y' : S 24 c = nI b' := y
          rw [y'] at z
          have := (nI_eq (by omega) (by omega)).mp z
          omega
      · rw [upd_b e, upd_b e]
        exact q3 j (by omega)
    · rcases q4 c hcc with y | ⟨b', hb', y, y2⟩
      · exact Or.inl y
      · exact Or.inr ⟨b', by omega, y, y2⟩
    · obtain ⟨c, d, x1, x2, x3, x4⟩ := q5 q hq h0
      exact ⟨c, d, x1, x2, by omega, x4⟩
    · have hT : Tie n (S 69) a b := by
        obtain ⟨y1, y2, y3, y4⟩ := hab
        have y4' : 0 < S 69 (pr a b) := y4
        obtain ⟨c, d, x1, x2, x3, -⟩ := q5 _ (pr_lt (by omega) (by omega)) (i_pos_ne y4')
        have := pr_cases x1 x2 (by omega) (by omega) (by omega)
        exact ⟨by omega, by omega, y3, y4'⟩
      show upd (S 20) n X a = upd (S 20) n X b ∧ upd (S 21) n Y a = upd (S 21) n Y b
      have := hT.1
      have := hT.2.1
      rw [upd_b (by omega), upd_b (by omega), upd_b (by omega), upd_b (by omega)]
      exact q6 a b hT
  · refine ⟨fun j hj => ?_, hR.2⟩
    show (if 3 * n ≤ 3 * j + 1 ∧ 3 * j + 1 < 3 * n + 3 then upd (upd (upd (fun _ => 0) 0 (nI (cc + 8 * rr))) 1 a3) 2 a4 (3 * j + 1 - 3 * n) else S 66 (3 * j + 1)) = upd (S 14) n a3 j
      ∧ (if 3 * n ≤ 3 * j + 2 ∧ 3 * j + 2 < 3 * n + 3 then upd (upd (upd (fun _ => 0) 0 (nI (cc + 8 * rr))) 1 a3) 2 a4 (3 * j + 2 - 3 * n) else S 66 (3 * j + 2)) = upd (S 15) n a4 j
      ∧ (if 5 * n ≤ 5 * j + 0 ∧ 5 * j + 0 < 5 * n + 5 then upd (upd (upd (upd (upd (fun _ => 0) 0 0) 1 0) 2 0) 3 X) 4 Y (5 * j + 0 - 5 * n) else S 68 (5 * j + 0)) = S 16 j
      ∧ (if 5 * n ≤ 5 * j + 1 ∧ 5 * j + 1 < 5 * n + 5 then upd (upd (upd (upd (upd (fun _ => 0) 0 0) 1 0) 2 0) 3 X) 4 Y (5 * j + 1 - 5 * n) else S 68 (5 * j + 1)) = S 17 j
      ∧ (if 5 * n ≤ 5 * j + 2 ∧ 5 * j + 2 < 5 * n + 5 then upd (upd (upd (upd (upd (fun _ => 0) 0 0) 1 0) 2 0) 3 X) 4 Y (5 * j + 2 - 5 * n) else S 68 (5 * j + 2)) = S 19 j
      ∧ (if 5 * n ≤ 5 * j + 3 ∧ 5 * j + 3 < 5 * n + 5 then upd (upd (upd (upd (upd (fun _ => 0) 0 0) 1 0) 2 0) 3 X) 4 Y (5 * j + 3 - 5 * n) else S 68 (5 * j + 3)) = upd (S 20) n X j
      ∧ (if 5 * n ≤ 5 * j + 4 ∧ 5 * j + 4 < 5 * n + 5 then upd (upd (upd (upd (upd (fun _ => 0) 0 0) 1 0) 2 0) 3 X) 4 Y (5 * j + 4 - 5 * n) else S 68 (5 * j + 4)) = upd (S 21) n Y j
    by_cases e : j = n
    · subst e
      obtain ⟨z1, z2, z3, z4⟩ := hz j (Nat.le_refl _) hn24
      rw [if_pos ⟨by omega, by omega⟩, if_pos ⟨by omega, by omega⟩, if_pos ⟨by omega, by omega⟩, if_pos ⟨by omega, by omega⟩, if_pos ⟨by omega, by omega⟩, if_pos ⟨by omega, by omega⟩, if_pos ⟨by omega, by omega⟩, show 3 * j + 1 - 3 * j = 1 by omega, show 3 * j + 2 - 3 * j = 2 by omega, show 5 * j + 0 - 5 * j = 0 by omega, show 5 * j + 1 - 5 * j = 1 by omega, show 5 * j + 2 - 5 * j = 2 by omega, show 5 * j + 3 - 5 * j = 3 by omega, show 5 * j + 4 - 5 * j = 4 by omega]
      exact ⟨(upd_a (f := S 14)).symm, (upd_a (f := S 15)).symm, z1.symm, z2.symm, z4.symm, (upd_a (f := S 20)).symm, (upd_a (f := S 21)).symm⟩
    · rw [if_neg (by omega), if_neg (by omega), if_neg (by omega), if_neg (by omega), if_neg (by omega), if_neg (by omega), if_neg (by omega), upd_b e, upd_b e, upd_b e, upd_b e]
      exact hR.1 j (by omega)
  · refine ⟨fun _ _ => ⟨rfl, rfl, rfl, rfl, rfl, rfl, rfl, rfl⟩, fun _ _ => ⟨rfl, rfl⟩, fun j hj hj' => hz j (by omega) hj'⟩
  · have hTT : ∀ a b, Tie (n + 1) (S 69) a b ↔ Tie n (S 69) a b := fun a b => by
      refine ⟨fun ⟨y1, y2, y3, y4⟩ => ?_, fun ⟨y1, y2, y3, y4⟩ => ⟨by omega, by omega, y3, y4⟩⟩
      obtain ⟨c, d, x1, x2, x3, -⟩ := hW.2.2.2.2.1 _ (pr_lt (by omega) (by omega)) (i_pos_ne y4)
      have := pr_cases x1 x2 (by omega) (by omega) (by omega)
      exact ⟨by omega, by omega, y3, y4⟩
    show POK (n + 1) (S 19) (Tie (n + 1) (S 69)) (upd (S 22) n (nI n))
    refine ⟨fun j hj h0 => ?_, fun a b hab => ?_, fun j hj h0 => ?_⟩
    · by_cases e : j = n
      · rw [e, upd_a]; exact ⟨n, Nat.le_refl _, rfl, conn_refl⟩
      · rw [upd_b e]
        obtain ⟨i, y1, y2, y3⟩ := hP.1 j (by omega) h0
        exact ⟨i, y1, y2, conn_mono (fun a b q => (hTT a b).mpr q) y3⟩
    · have hab' := (hTT a b).mp hab
      have := hab'.1
      have := hab'.2.1
      rw [upd_b (by omega), upd_b (by omega)]
      exact hP.2.1 a b hab'
    · by_cases e : j = n
      · rw [e] at h0
        exact absurd (hz n (Nat.le_refl _) hn24).2.2.2 h0
      · rw [upd_b e]; exact hP.2.2 j (by omega) h0
  · intro j hj
    show ∃ c d, c < 8 ∧ d < 8 ∧ upd (S 12) n (nI cc) j = nI c ∧ upd (S 13) n (nI rr) j = nI d ∧ (if 3 * n ≤ 3 * j + 0 ∧ 3 * j + 0 < 3 * n + 3 then upd (upd (upd (fun _ => 0) 0 (nI (cc + 8 * rr))) 1 a3) 2 a4 (3 * j + 0 - 3 * n) else S 66 (3 * j + 0)) = nI (c + 8 * d)
    by_cases e : j = n
    · subst e
      rw [upd_a, upd_a, if_pos ⟨by omega, by omega⟩, show 3 * j + 0 - 3 * j = 0 by omega]
      exact ⟨cc, rr, hcc, hrr, rfl, rfl, rfl⟩
    · rw [upd_b e, upd_b e, if_neg (by omega)]
      exact hc j (by omega)
