/-! the law's own raft: it drifts, some are saved; an hour -/
theorem clampL {v C : Int32} (hC : (0 : Int32) ≤ C) : (if 0 ≤ v then (if v ≤ C then v else C) else 0) = mmax 0 (mmin C v) := by
  unfold mmax mmin
  by_cases h : 0 ≤ v
  · rw [if_pos h]
    by_cases h2 : v ≤ C
    · rw [if_pos h2]
      by_cases h3 : v < C
      · rw [if_pos h3]
        by_cases h4 : 0 < v
        · rw [if_pos h4]
        · rw [if_neg h4]
          exact Int32.le_antisymm (Int32.not_lt.mp h4) h
      · have e : v = C := Int32.le_antisymm h2 (Int32.not_lt.mp h3)
        rw [if_neg h3, ← e]
        by_cases h4 : 0 < v
        · rw [if_pos h4]
        · rw [if_neg h4]
          exact Int32.le_antisymm (Int32.not_lt.mp h4) h
    · rw [if_neg h2, if_neg (fun z => h2 (Int32.le_of_lt z))]
      by_cases h4 : 0 < C
      · rw [if_pos h4]
      · rw [if_neg h4]
        exact Int32.le_antisymm (Int32.not_lt.mp h4) hC
  · have h1 : v < 0 := Int32.not_le.mp h
    rw [if_neg h, if_pos (Int32.lt_of_lt_of_le h1 hC), if_neg (fun z => h (Int32.le_of_lt z))]
theorem uO_a {f : Nat → Option Nat} {k x : Nat} : uO f k x k = some x := if_pos rfl
theorem uO_b {f : Nat → Option Nat} {k x j : Nat} (h : j ≠ k) : uO f k x j = f j := if_neg h
section SMd
variable {n k m nR w : Nat} {A : Nat → Nat → Int32} {sg κ : Nat → Nat} {bF tF pF wF : Nat → Nat → Int32} {p Wt : Nat → Int32} {wx wy : Int32}
/-- where a barrel goes -/
def gox (n w : Nat) (Wt : Nat → Int32) (A : Nat → Nat → Int32) (p : Nat → Int32) (wx : Int32) (j : Nat) : Int32 := mmax 0 (mmin 29 (A kB_x j + gS Wt w 0 (xN A j) (yN A j) + if LF n A p (p j) ≤ 2 * LD n A p (p j) then 0 else wx))
def goy (n w : Nat) (Wt : Nat → Int32) (A : Nat → Nat → Int32) (p : Nat → Int32) (wy : Int32) (j : Nat) : Int32 := mmax 0 (mmin 19 (A kB_y j + gS Wt w 1 (xN A j) (yN A j) + if LF n A p (p j) ≤ 2 * LD n A p (p j) then 0 else wy))
theorem go_drift (hW : WA n k A) (hP : PN n A p) {j : Nat} (hj : j < n) (h0 : A kB_state j = 0) : driftA n w Wt A p wx wy kB_x j = gox n w Wt A p wx j ∧ driftA n w Wt A p wx wy kB_y j = goy n w Wt A p wy j := by
  have hn := hW.1
  have ex : driftA n w Wt A p wx wy kB_x j = if j < n ∧ ¬ p j < 0 then mvx n w Wt A p wx (p j).toNatClampNeg else A kB_x j := rfl
  have ey : driftA n w Wt A p wx wy kB_y j = if j < n ∧ ¬ p j < 0 then mvy n w Wt A p wy (p j).toNatClampNeg else A kB_y j := rfl
  obtain ⟨i, i1, i2, i3⟩ := hP.1 j hj h0
  have cx : A kB_x i = A kB_x j := conn_const (fun a b t => (hW.2.2.2.2.2.1 a b t).1) i3
  have cy : A kB_y i = A kB_y j := conn_const (fun a b t => (hW.2.2.2.2.2.1 a b t).2) i3
  rw [ex, ey, if_pos ⟨hj, by rw [i2]; exact n_neg (by omega)⟩, if_pos ⟨hj, by rw [i2]; exact n_neg (by omega)⟩, i2, clamp_n (by omega)]
  unfold mvx mvy gox goy xN yN
  rw [cx, cy, i2]
  exact ⟨rfl, rfl⟩
theorem no_drift (hP : PN n A p) {j : Nat} (hj : j < n) (h0 : A kB_state j ≠ 0) : driftA n w Wt A p wx wy kB_x j = A kB_x j ∧ driftA n w Wt A p wx wy kB_y j = A kB_y j := by
  have ex : driftA n w Wt A p wx wy kB_x j = if j < n ∧ ¬ p j < 0 then mvx n w Wt A p wx (p j).toNatClampNeg else A kB_x j := rfl
  have ey : driftA n w Wt A p wx wy kB_y j = if j < n ∧ ¬ p j < 0 then mvy n w Wt A p wy (p j).toNatClampNeg else A kB_y j := rfl
  rw [ex, ey, hP.2.2 j hj h0, if_neg (fun z => z.2 m1_neg), if_neg (fun z => z.2 m1_neg)]
  exact ⟨rfl, rfl⟩
/-- what stands in the list of places -/
def TO (n : Nat) (A : Nat → Nat → Int32) (X Y : Nat → Int32) (j : Nat) (x : Nat × (Nat → Nat → Int32) × (Nat → Option Nat)) : Prop :=
  (∀ i, i < n → i < j → A kB_state i = 0 → ∃ r, x.2.2 i = some r ∧ r < x.1 ∧ x.2.1 r 0 = X i ∧ x.2.1 r 1 = Y i) ∧ ∀ i, i < n → (j ≤ i ∨ A kB_state i ≠ 0) → x.2.2 i = none
theorem TO_all {X Y : Nat → Int32} {j : Nat} {x : Nat × (Nat → Nat → Int32) × (Nat → Option Nat)} (h : TO n A X Y j x) : ∀ i, i < n → ((x.2.2 i).all (fun r => decide (r < x.1))) = true := fun i hi => by
  by_cases q : i < j ∧ A kB_state i = 0
  · obtain ⟨r, r1, r2, -⟩ := h.1 i hi q.1 q.2
    rw [r1]
    exact decide_eq_true r2
  · rw [h.2 i hi (by
      by_cases z : A kB_state i = 0
      · exact Or.inl (by have : ¬ i < j := fun y => q ⟨y, z⟩; omega)
      · exact Or.inr z)]
    rfl
theorem TO_add {X Y : Nat → Int32} {j c : Nat} {xF : Nat → Nat → Int32} {sc : Nat → Option Nat} (h : TO n A X Y j (c, xF, sc)) {f : Nat → Int32} (hx : f 0 = X j) (hy : f 1 = Y j) (h0 : A kB_state j = 0) : TO n A X Y (j + 1) (c + 1, uF xF c f, uO sc j c) := by
  refine ⟨fun i hi hij hs => ?_, fun i hi o => ?_⟩
  · dsimp only
    by_cases q : i = j
    · rw [q, uO_a]
      exact ⟨c, rfl, by omega, by rw [uF_a]; exact hx, by rw [uF_a]; exact hy⟩
    · obtain ⟨r, r1, r2, r3, r4⟩ := h.1 i hi (by omega) hs
      dsimp only at r1 r2 r3 r4
      rw [uO_b q]
      exact ⟨r, r1, by omega, by rw [uF_b (by omega)]; exact r3, by rw [uF_b (by omega)]; exact r4⟩
  · dsimp only
    have q : i ≠ j := fun z => o.elim (fun y => by omega) (fun y => y (by rw [z]; exact h0))
    rw [uO_b q]
    exact h.2 i hi (o.elim (fun y => Or.inl (by omega)) Or.inr)
theorem TO_skip {X Y : Nat → Int32} {j : Nat} {x : Nat × (Nat → Nat → Int32) × (Nat → Option Nat)} (h : TO n A X Y j x) (h0 : A kB_state j ≠ 0) : TO n A X Y (j + 1) x :=
  ⟨fun i hi hij hs => h.1 i hi (by
    by_cases q : i = j
    · rw [q] at hs; exact absurd hs h0
    · omega) hs, fun i hi o => h.2 i hi (o.elim (fun y => Or.inl (by omega)) Or.inr)⟩
theorem s_goto (h : SM n k m A nR sg κ bF tF pF) (hW : WA n k A) (hP : PN n A p) (hS : WOK w Wt) (hw : SW w Wt wF) :
    ∃ r, jS_pass_L257 wx wy m sg n w wF n bF nR tF k pF n 0 0 (fun _ _ => 0) (fun _ => none) = some r ∧ TO n A (gox n w Wt A p wx) (goy n w Wt A p wy) n r := by
  have hn := hW.1
  refine itN0 (s0 := (0, (fun _ _ => 0), (fun _ => none))) (fun g j (x : Nat × (Nat → Nat → Int32) × (Nat → Option Nat)) => jS_pass_L257 wx wy m sg n w wF n bF nR tF k pF g j x.1 x.2.1 x.2.2) n (fun j x => TO n A (gox n w Wt A p wx) (goy n w Wt A p wy) j x) _ ⟨fun i _ hi => absurd hi (Nat.not_lt_zero i), fun _ _ _ => rfl⟩ (fun x hx => ⟨x, rfl, hx⟩) (fun g j x hj hx => ?_)
  obtain ⟨c, xF, sc⟩ := x
  dsimp only
  have hall := TO_all hx
  dsimp only at hall
  obtain ⟨-, -, -, -, b6, b7, b8⟩ := h.1 j hj
  rw [jS_pass_L257, rd6, b6]
  by_cases z : A kB_state j = 0
  · obtain ⟨is, e, o⟩ := s_piece h hW hP hj
    obtain ⟨f, es, g0, g1, -⟩ := s_seaA h hW hS hw hj
    have eL : fs (fun b => if is b = 0 then 0 else ld A b) n = LD n A p (p j) := fs_congr fun b hb => by
      by_cases y : p b = p j
      · have ob : is b = 1 := (o b hb).trans (if_pos ⟨z, y⟩)
        rw [ob, if_neg one_ne, if_pos y]
      · have ob : is b = 0 := (o b hb).trans (if_neg (fun q => y q.2))
        rw [ob, if_pos rfl, if_neg y]
    have eF : fs (fun b => if is b = 0 then 0 else lf A b) n = LF n A p (p j) := fs_congr fun b hb => by
      by_cases y : p b = p j
      · have ob : is b = 1 := (o b hb).trans (if_pos ⟨z, y⟩)
        rw [ob, if_neg one_ne, if_pos y]
      · have ob : is b = 0 := (o b hb).trans (if_neg (fun q => y q.2))
        rw [ob, if_pos rfl, if_neg y]
    rw [if_pos (by rw [z]; decide), e, bnd_n, es, bnd_n, s_sumLoad h hW, bnd_n, s_sumLift h hn, bnd_n, eL, eF, g0, g1, rd7, rd8, b7, b8]
    have fin : ∀ X Y, X = gox n w Wt A p wx j → Y = goy n w Wt A p wy j → ∃ s', TO n A (gox n w Wt A p wx) (goy n w Wt A p wy) (j + 1) s' ∧ chkP (∀ i, i < n → ((sc i).all (fun r => decide (r < c))) = true) (jS_pass_L257 wx wy m sg n w wF n bF nR tF k pF g (j + 1) (c + 1) (uF xF c (wr (wr (fun _ => 0) 0 X) 1 Y)) (uO sc j c)) = jS_pass_L257 wx wy m sg n w wF n bF nR tF k pF g (j + 1) s'.1 s'.2.1 s'.2.2 := fun X Y hX hY =>
      ⟨(c + 1, uF xF c (wr (wr (fun _ => 0) 0 X) 1 Y), uO sc j c), TO_add hx (by rw [wr0, wr1, upd_b (by decide), upd_a]; exact hX) (by rw [wr1, upd_a]; exact hY) z, by rw [chkP_n hall]⟩
    have two : ∀ (ax ay : Int32), (ax = if LF n A p (p j) ≤ 2 * LD n A p (p j) then 0 else wx) → (ay = if LF n A p (p j) ≤ 2 * LD n A p (p j) then 0 else wy) →
        gox n w Wt A p wx j = (if 0 ≤ A kB_x j + gS Wt w 0 (xN A j) (yN A j) + ax then (if A kB_x j + gS Wt w 0 (xN A j) (yN A j) + ax ≤ 29 then A kB_x j + gS Wt w 0 (xN A j) (yN A j) + ax else 29) else 0) ∧ goy n w Wt A p wy j = (if 0 ≤ A kB_y j + gS Wt w 1 (xN A j) (yN A j) + ay then (if A kB_y j + gS Wt w 1 (xN A j) (yN A j) + ay ≤ 19 then A kB_y j + gS Wt w 1 (xN A j) (yN A j) + ay else 19) else 0) := fun ax ay hax hay => by
      rw [clampL (by decide), clampL (by decide), hax, hay]
      exact ⟨rfl, rfl⟩
    simp only [jn_n]
    by_cases hi : LF n A p (p j) ≤ 2 * LD n A p (p j)
    · obtain ⟨t1, t2⟩ := two 0 0 (if_pos hi).symm (if_pos hi).symm
      simp only [if_pos hi, if_true]
      by_cases x1 : 0 ≤ A kB_x j + gS Wt w 0 (xN A j) (yN A j) + 0
      · rw [if_pos x1] at t1 ⊢
        by_cases x2 : A kB_x j + gS Wt w 0 (xN A j) (yN A j) + 0 ≤ 29
        · rw [if_pos x2] at t1 ⊢
          by_cases y1 : 0 ≤ A kB_y j + gS Wt w 1 (xN A j) (yN A j) + 0
          · rw [if_pos y1] at t2 ⊢
            by_cases y2 : A kB_y j + gS Wt w 1 (xN A j) (yN A j) + 0 ≤ 19
            · rw [if_pos y2] at t2 ⊢
              exact fin _ _ t1.symm t2.symm
            · rw [if_neg y2] at t2 ⊢
              exact fin _ _ t1.symm t2.symm
          · rw [if_neg y1] at t2 ⊢
            exact fin _ _ t1.symm t2.symm
        · rw [if_neg x2] at t1 ⊢
          by_cases y1 : 0 ≤ A kB_y j + gS Wt w 1 (xN A j) (yN A j) + 0
          · rw [if_pos y1] at t2 ⊢
            by_cases y2 : A kB_y j + gS Wt w 1 (xN A j) (yN A j) + 0 ≤ 19
            · rw [if_pos y2] at t2 ⊢
              exact fin _ _ t1.symm t2.symm
            · rw [if_neg y2] at t2 ⊢
              exact fin _ _ t1.symm t2.symm
          · rw [if_neg y1] at t2 ⊢
            exact fin _ _ t1.symm t2.symm
      · rw [if_neg x1] at t1 ⊢
        by_cases y1 : 0 ≤ A kB_y j + gS Wt w 1 (xN A j) (yN A j) + 0
        · rw [if_pos y1] at t2 ⊢
          by_cases y2 : A kB_y j + gS Wt w 1 (xN A j) (yN A j) + 0 ≤ 19
          · rw [if_pos y2] at t2 ⊢
            exact fin _ _ t1.symm t2.symm
          · rw [if_neg y2] at t2 ⊢
            exact fin _ _ t1.symm t2.symm
        · rw [if_neg y1] at t2 ⊢
          exact fin _ _ t1.symm t2.symm
    · obtain ⟨t1, t2⟩ := two wx wy (if_neg hi).symm (if_neg hi).symm
      simp only [if_neg hi, if_neg one_ne]
      by_cases x1 : 0 ≤ A kB_x j + gS Wt w 0 (xN A j) (yN A j) + wx
      · rw [if_pos x1] at t1 ⊢
        by_cases x2 : A kB_x j + gS Wt w 0 (xN A j) (yN A j) + wx ≤ 29
        · rw [if_pos x2] at t1 ⊢
          by_cases y1 : 0 ≤ A kB_y j + gS Wt w 1 (xN A j) (yN A j) + wy
          · rw [if_pos y1] at t2 ⊢
            by_cases y2 : A kB_y j + gS Wt w 1 (xN A j) (yN A j) + wy ≤ 19
            · rw [if_pos y2] at t2 ⊢
              exact fin _ _ t1.symm t2.symm
            · rw [if_neg y2] at t2 ⊢
              exact fin _ _ t1.symm t2.symm
          · rw [if_neg y1] at t2 ⊢
            exact fin _ _ t1.symm t2.symm
        · rw [if_neg x2] at t1 ⊢
          by_cases y1 : 0 ≤ A kB_y j + gS Wt w 1 (xN A j) (yN A j) + wy
          · rw [if_pos y1] at t2 ⊢
            by_cases y2 : A kB_y j + gS Wt w 1 (xN A j) (yN A j) + wy ≤ 19
            · rw [if_pos y2] at t2 ⊢
              exact fin _ _ t1.symm t2.symm
            · rw [if_neg y2] at t2 ⊢
              exact fin _ _ t1.symm t2.symm
          · rw [if_neg y1] at t2 ⊢
            exact fin _ _ t1.symm t2.symm
      · rw [if_neg x1] at t1 ⊢
        by_cases y1 : 0 ≤ A kB_y j + gS Wt w 1 (xN A j) (yN A j) + wy
        · rw [if_pos y1] at t2 ⊢
          by_cases y2 : A kB_y j + gS Wt w 1 (xN A j) (yN A j) + wy ≤ 19
          · rw [if_pos y2] at t2 ⊢
            exact fin _ _ t1.symm t2.symm
          · rw [if_neg y2] at t2 ⊢
            exact fin _ _ t1.symm t2.symm
        · rw [if_neg y1] at t2 ⊢
          exact fin _ _ t1.symm t2.symm
  · rw [if_neg (by
      rcases h.2.2.2.2.2.1 j hj with q | q | q
      · exact absurd q z
      · rw [q]; decide
      · rw [q]; decide)]
    exact ⟨(c, xF, sc), TO_skip hx z, rfl⟩
theorem s_drift (h : SM n k m A nR sg κ bF tF pF) (hW : WA n k A) (hP : PN n A p) {x : Nat × (Nat → Nat → Int32) × (Nat → Option Nat)} (hx : TO n A (gox n w Wt A p wx) (goy n w Wt A p wy) n x) :
    ∃ bF', jS_pass_L474 x.2.2 x.1 x.2.1 n 0 bF = some bF' ∧ SM n k m (driftA n w Wt A p wx wy) nR sg κ bF' tF pF := by
  obtain ⟨c, xF, sc⟩ := x
  dsimp only
  have l : ∃ r, jS_pass_L474 sc c xF n 0 bF = some r ∧ (∀ i, i < n → (i < n → (A kB_state i = 0 → r i = upd (upd (bF i) 7 (gox n w Wt A p wx i)) 8 (goy n w Wt A p wy i)) ∧ (A kB_state i ≠ 0 → r i = bF i)) ∧ (n ≤ i → r i = bF i)) := by
    refine itN0 (fun g j s => jS_pass_L474 sc c xF g j s) n (fun j r => ∀ i, i < n → (i < j → (A kB_state i = 0 → r i = upd (upd (bF i) 7 (gox n w Wt A p wx i)) 8 (goy n w Wt A p wy i)) ∧ (A kB_state i ≠ 0 → r i = bF i)) ∧ (j ≤ i → r i = bF i)) _ (fun i _ => ⟨fun q => absurd q (Nat.not_lt_zero i), fun _ => rfl⟩) (fun s hs => ⟨s, rfl, hs⟩) (fun g j s hj hs => ?_)
    rw [jS_pass_L474]
    by_cases z : A kB_state j = 0
    · obtain ⟨r, r1, r2, r3, r4⟩ := hx.1 j hj hj z
      dsimp only at r1 r2 r3 r4
      rw [r1, if_neg (fun q => by cases q), bnd_n, chkP_n r2, bnd_n, chkP_n r2, rd0, rd1, r3, r4, (hs j hj).2 (Nat.le_refl _), wr7, uF_a, wr8]
      refine ⟨_, fun i hi => ?_, rfl⟩
      by_cases q : i = j
      · rw [q, uF_a]
        exact ⟨fun _ => ⟨fun _ => rfl, fun y => absurd z y⟩, fun y => absurd y (by omega)⟩
      · rw [uF_b q, uF_b q]
        exact ⟨fun y => (hs i hi).1 (by omega), fun y => (hs i hi).2 (by omega)⟩
    · have r1 : sc j = none := hx.2 j hj (Or.inr z)
      rw [r1, if_pos rfl]
      refine ⟨s, fun i hi => ?_, rfl⟩
      by_cases q : i = j
      · rw [q]
        exact ⟨fun _ => ⟨fun y => absurd y z, fun _ => (hs j hj).2 (Nat.le_refl _)⟩, fun y => absurd y (by omega)⟩
      · exact ⟨fun y => (hs i hi).1 (by omega), fun y => (hs i hi).2 (by omega)⟩
  obtain ⟨r, l1, l2⟩ := l
  refine ⟨r, l1, fun j hj => ?_, h.2⟩
  obtain ⟨b2, b3, b4, b5, b6, b7, b8⟩ := h.1 j hj
  by_cases z : A kB_state j = 0
  · obtain ⟨dx, dy⟩ := go_drift (w := w) (Wt := Wt) (wx := wx) (wy := wy) hW hP hj z
    rw [((l2 j hj).1 hj).1 z, dx, dy]
    exact ⟨(upd_b (by decide)).trans ((upd_b (by decide)).trans b2), (upd_b (by decide)).trans ((upd_b (by decide)).trans b3), (upd_b (by decide)).trans ((upd_b (by decide)).trans b4), (upd_b (by decide)).trans ((upd_b (by decide)).trans b5), (upd_b (by decide)).trans ((upd_b (by decide)).trans b6), (upd_b (by decide)).trans upd_a, upd_a⟩
  · obtain ⟨dx, dy⟩ := no_drift (w := w) (Wt := Wt) (wx := wx) (wy := wy) hP hj z
    rw [((l2 j hj).1 hj).2 z, dx, dy]
    exact ⟨b2, b3, b4, b5, b6, b7, b8⟩
end SMd
