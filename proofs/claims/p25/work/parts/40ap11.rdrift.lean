/-! the pieces drift -/
def mvx (n w : Nat) (Wt : Nat → Int32) (A : Nat → Nat → Int32) (p : Nat → Int32) (wx : Int32) (i : Nat) : Int32 := mmax 0 (mmin 29 (A kB_x i + gS Wt w 0 (xN A i) (yN A i) + if LF n A p (nI i) ≤ 2 * LD n A p (nI i) then 0 else wx))
def mvy (n w : Nat) (Wt : Nat → Int32) (A : Nat → Nat → Int32) (p : Nat → Int32) (wy : Int32) (i : Nat) : Int32 := mmax 0 (mmin 19 (A kB_y i + gS Wt w 1 (xN A i) (yN A i) + if LF n A p (nI i) ≤ 2 * LD n A p (nI i) then 0 else wy))
def driftV (n w : Nat) (Wt : Nat → Int32) (A : Nat → Nat → Int32) (p : Nat → Int32) (wx wy : Int32) (v : Nat) : Nat → Nat → Int32 :=
  up (up A kB_x (fun j => if j < n ∧ ¬ p j < 0 ∧ (p j).toNatClampNeg < v then mvx n w Wt A p wx (p j).toNatClampNeg else A kB_x j)) kB_y (fun j => if j < n ∧ ¬ p j < 0 ∧ (p j).toNatClampNeg < v then mvy n w Wt A p wy (p j).toNatClampNeg else A kB_y j)
def driftA (n w : Nat) (Wt : Nat → Int32) (A : Nat → Nat → Int32) (p : Nat → Int32) (wx wy : Int32) : Nat → Nat → Int32 :=
  up (up A kB_x (fun j => if j < n ∧ ¬ p j < 0 then mvx n w Wt A p wx (p j).toNatClampNeg else A kB_x j)) kB_y (fun j => if j < n ∧ ¬ p j < 0 then mvy n w Wt A p wy (p j).toNatClampNeg else A kB_y j)
theorem r_ba3 {tb : Nat → Int32} {j : Nat} (h : j < 24) : jX7_ba tb (nI j) 3 = some (tb (5 * j + 3)) := r_ba (w := 3) (by omega)
theorem r_ba4 {tb : Nat → Int32} {j : Nat} (h : j < 24) : jX7_ba tb (nI j) 4 = some (tb (5 * j + 4)) := r_ba (w := 4) (by omega)
theorem r_set3 {tb : Nat → Int32} {j : Nat} {x : Int32} (h : j < 24) : jX7_set tb (nI j) 3 x = some (upd tb (5 * j + 3) x) := r_set (w := 3) (by omega)
theorem r_set4 {tb : Nat → Int32} {j : Nat} {x : Int32} (h : j < 24) : jX7_set tb (nI j) 4 x = some (upd tb (5 * j + 4) x) := r_set (w := 4) (by omega)
theorem r_drift351 {n v : Nat} {p tb : Nat → Int32} {X Y : Int32} (hn : n ≤ 24) : jX7_hourOn_L351 (nI n) p (nI v) X Y FU tb 0 = some (fun i => if i / 5 < n ∧ p (i / 5) = nI v ∧ i % 5 = 3 then X else if i / 5 < n ∧ p (i / 5) = nI v ∧ i % 5 = 4 then Y else tb i) := by
  refine itF0 (fun g s v' => jX7_hourOn_L351 (nI n) p (nI v) X Y g s v') (fun j i => if i / 5 < j ∧ p (i / 5) = nI v ∧ i % 5 = 3 then X else if i / 5 < j ∧ p (i / 5) = nI v ∧ i % 5 = 4 then Y else tb i) n (by omega) (by simp) (fun g => ?_) (fun g j hj => ?_)
  · rw [jX7_hourOn_L351, if_pos (Int32.le_refl _)]
  · rw [jX7_hourOn_L351, if_neg (fun q => by have := (nI_leI (by omega) (by omega)).mp q; omega), chk_n (by omega) (by omega), rd_n (by omega), nI_1]
    by_cases e : p j = nI v
    · rw [if_pos e, r_set3 (by omega), bnd_n, r_set4 (by omega), bnd_n]
      congr 1
      funext i
      unfold upd
      dsimp only
      by_cases h4 : i = 5 * j + 4
      · subst h4
        rw [if_pos rfl, if_neg (by omega), if_pos ⟨by omega, by rw [show (5 * j + 4) / 5 = j by omega]; exact e, by omega⟩]
      · rw [if_neg h4]
        by_cases h3 : i = 5 * j + 3
        · subst h3
          rw [if_pos rfl, if_pos ⟨by omega, by rw [show (5 * j + 3) / 5 = j by omega]; exact e, by omega⟩]
        · rw [if_neg h3]
          by_cases h5 : i / 5 = j
          · rw [if_neg (by omega), if_neg (by omega), if_neg (by omega), if_neg (by omega)]
          · simp only [p_lts h5]
    · rw [if_neg e]
      congr 1
      funext i
      by_cases h5 : i / 5 = j
      · have e' : ¬ p (i / 5) = nI v := by rw [h5]; exact e
        rw [if_neg (fun q => e' q.2.1), if_neg (fun q => e' q.2.1), if_neg (fun q => e' q.2.1), if_neg (fun q => e' q.2.1)]
      · simp only [p_lts h5]
theorem r_drift {n k w : Nat} {A : Nat → Nat → Int32} {fx tb T U pp p Wt : Nat → Int32} {wx wy : Int32} {R : Nat → Nat → Prop} (hW : WA n k A) (hS : WOK w Wt) (hP : POK n (A kB_state) R p) (h : RM n k A fx tb T U pp) :
    ∃ tb', jX7_hourOn_L216 (nI w) wx wy (nI n) (nI k) Wt fx pp p FU tb 0 = some tb' ∧ RM n k (driftA n w Wt A p wx wy) fx tb' T U pp := by
  have hn := hW.1
  have hk := hW.2.1
  refine (itI0 (s0 := tb) (fun g x v => jX7_hourOn_L216 (nI w) wx wy (nI n) (nI k) Wt fx pp p g x v) n (fun v x => RM n k (driftV n w Wt A p wx wy v) fx x T U pp) (fun x => RM n k (driftA n w Wt A p wx wy) fx x T U pp) (by omega) ?_ (fun g x hx => ?_) (fun g v x hv hx => ?_))
  · refine RM_ext h (fun j hj => ⟨rfl, rfl, rfl, rfl, rfl, ?_, ?_⟩) (fun q hq => rfl) (fun q hq _ => rfl) (fun c hc => ⟨rfl, rfl⟩)
    · exact if_neg (by omega)
    · exact if_neg (by omega)
  · refine ⟨x, by rw [jX7_hourOn_L216, if_pos (Int32.le_refl _)], RM_ext hx (fun j hj => ?_) (fun q hq => rfl) (fun q hq _ => rfl) (fun c hc => ⟨rfl, rfl⟩)⟩
    have e : (j < n ∧ ¬ p j < 0 ∧ (p j).toNatClampNeg < n) ↔ (j < n ∧ ¬ p j < 0) := by
      refine ⟨fun z => ⟨z.1, z.2.1⟩, fun z => ⟨z.1, z.2, ?_⟩⟩
      by_cases hs : A kB_state j = 0
      · obtain ⟨i, h4, h5, -⟩ := hP.1 j hj hs
        rw [h5, clamp_n (by omega)]; omega
      · exact absurd (by rw [hP.2.2 j hj hs]; exact m1_neg) z.2
    refine ⟨rfl, rfl, rfl, rfl, rfl, ?_, ?_⟩
    · show (if j < n ∧ ¬ p j < 0 then _ else _) = if j < n ∧ ¬ p j < 0 ∧ (p j).toNatClampNeg < n then _ else _
      simp only [e]
    · show (if j < n ∧ ¬ p j < 0 then _ else _) = if j < n ∧ ¬ p j < 0 ∧ (p j).toNatClampNeg < n then _ else _
      simp only [e]
  · have hother : ∀ j, j < n → ¬ p j < 0 → (p j).toNatClampNeg = v → p j = nI v := fun j hj h1 h2 => by
      by_cases hs : A kB_state j = 0
      · obtain ⟨i, h4, h5, -⟩ := hP.1 j hj hs
        rw [h5, clamp_n (by omega)] at h2
        rw [h5, h2]
      · exact absurd (by rw [hP.2.2 j hj hs]; exact m1_neg) h1
    rw [jX7_hourOn_L216, if_neg (fun q => by have := (nI_leI (by omega) (by omega)).mp q; omega), chk_n (by omega) (by omega), rd_n (by omega), nI_1]
    by_cases e : p v = nI v
    · obtain ⟨-, -, -, -, -, b6, b7⟩ := hx.1 v hv
      replace b6 : x (5 * v + 3) = A kB_x v := b6.trans (if_neg (fun z => by rw [e, clamp_n (by omega)] at z; omega))
      replace b7 : x (5 * v + 4) = A kB_y v := b7.trans (if_neg (fun z => by rw [e, clamp_n (by omega)] at z; omega))
      have s1 : jX7_sumIn (nI n) (nI k) fx x pp p (nI v) 2 = some (LD n A p (nI v)) := r_sumLoad (p := p) (q := nI v) hx hn hk (fun b hb _ => (hW.2.2.1 b hb).2.2.2)
      have s2 : jX7_sumIn (nI n) (nI k) fx x pp p (nI v) 1 = some (LF n A p (nI v)) := r_sumLift (p := p) (q := nI v) hx hn
      obtain ⟨⟨a, ha, ea⟩, ⟨b, hb, eb⟩, -⟩ := hW.2.2.1 v hv
      have g0 : jX7_seaTold (nI w) Wt (A kB_x v) (A kB_y v) 0 = some (gS Wt w 0 (xN A v) (yN A v)) := by
        unfold xN yN
        rw [ea, eb, clamp_n (by omega), clamp_n (by omega)]
        exact r_seaTold (what := 0) hS ha hb (by omega)
      have g1 : jX7_seaTold (nI w) Wt (A kB_x v) (A kB_y v) 1 = some (gS Wt w 1 (xN A v) (yN A v)) := by
        unfold xN yN
        rw [ea, eb, clamp_n (by omega), clamp_n (by omega)]
        exact r_seaTold (what := 1) hS ha hb (by omega)
      rw [if_pos e, s1, bnd_n, s2, bnd_n]
      simp only [jn_n, r_ba3 (show v < 24 by omega), r_ba4 (show v < 24 by omega), bnd_n, b6, b7, g0, g1, r_drift351 hn]
      refine ⟨fun i => if i / 5 < n ∧ p (i / 5) = nI v ∧ i % 5 = 3 then mvx n w Wt A p wx v else if i / 5 < n ∧ p (i / 5) = nI v ∧ i % 5 = 4 then mvy n w Wt A p wy v else x i, ⟨fun j hj => ?_, hx.2⟩, ?_⟩
      · obtain ⟨c1, c2, c3, c4, c5, c6, c7⟩ := hx.1 j hj
        have m5 : ∀ d, d < 5 → (5 * j + d) / 5 = j ∧ (5 * j + d) % 5 = d := fun d hd => ⟨by omega, by omega⟩
        have cs : (p j = nI v ∧ (j < n ∧ ¬ p j < 0 ∧ (p j).toNatClampNeg < v + 1) ∧ (p j).toNatClampNeg = v) ∨ (¬ p j = nI v ∧ ((j < n ∧ ¬ p j < 0 ∧ (p j).toNatClampNeg < v + 1) ↔ (j < n ∧ ¬ p j < 0 ∧ (p j).toNatClampNeg < v))) := by
          by_cases q : p j = nI v
          · refine Or.inl ⟨q, ⟨hj, by rw [q]; exact n_neg (by omega), by rw [q, clamp_n (by omega)]; omega⟩, by rw [q, clamp_n (by omega)]⟩
          · refine Or.inr ⟨q, fun ⟨z1, z2, z3⟩ => ⟨z1, z2, ?_⟩, fun ⟨z1, z2, z3⟩ => ⟨z1, z2, by omega⟩⟩
            by_cases y : (p j).toNatClampNeg = v
            · exact absurd (hother j hj z2 y) q
            · omega
        dsimp only
        rw [(m5 0 (by omega)).1, (m5 0 (by omega)).2, (m5 1 (by omega)).1, (m5 1 (by omega)).2, (m5 2 (by omega)).1, (m5 2 (by omega)).2, (m5 3 (by omega)).1, (m5 3 (by omega)).2, (m5 4 (by omega)).1, (m5 4 (by omega)).2]
        refine ⟨c1, c2, ?_, ?_, ?_, ?_, ?_⟩
        · rw [if_neg (by omega), if_neg (by omega)]; exact c3
        · rw [if_neg (by omega), if_neg (by omega)]; exact c4
        · rw [if_neg (by omega), if_neg (by omega)]; exact c5
        · show _ = if j < n ∧ ¬ p j < 0 ∧ (p j).toNatClampNeg < v + 1 then mvx n w Wt A p wx (p j).toNatClampNeg else A kB_x j
          rcases cs with ⟨q1, q2, q3⟩ | ⟨q1, q2⟩
          · rw [if_pos ⟨hj, q1, rfl⟩, if_pos q2, q3]
          · rw [if_neg (fun z => q1 z.2.1), if_neg (fun z => q1 z.2.1), c6]
            show (if j < n ∧ ¬ p j < 0 ∧ (p j).toNatClampNeg < v then _ else _) = _
            simp only [q2]
        · show _ = if j < n ∧ ¬ p j < 0 ∧ (p j).toNatClampNeg < v + 1 then mvy n w Wt A p wy (p j).toNatClampNeg else A kB_y j
          rcases cs with ⟨q1, q2, q3⟩ | ⟨q1, q2⟩
          · rw [if_neg (by omega), if_pos ⟨hj, q1, rfl⟩, if_pos q2, q3]
          · rw [if_neg (fun z => q1 z.2.1), if_neg (fun z => q1 z.2.1), c7]
            show (if j < n ∧ ¬ p j < 0 ∧ (p j).toNatClampNeg < v then _ else _) = _
            simp only [q2]
      · unfold mvx mvy
        by_cases c : LF n A p (nI v) ≤ 2 * LD n A p (nI v)
        · simp only [c, if_true]
        · simp only [c, if_false, one_ne]
    · rw [if_neg e]
      refine ⟨x, RM_ext hx (fun j hj => ?_) (fun q hq => rfl) (fun q hq _ => rfl) (fun c hc => ⟨rfl, rfl⟩), rfl⟩
      have q2 : (j < n ∧ ¬ p j < 0 ∧ (p j).toNatClampNeg < v + 1) ↔ (j < n ∧ ¬ p j < 0 ∧ (p j).toNatClampNeg < v) := by
        refine ⟨fun ⟨z1, z2, z3⟩ => ⟨z1, z2, ?_⟩, fun ⟨z1, z2, z3⟩ => ⟨z1, z2, by omega⟩⟩
        by_cases y : (p j).toNatClampNeg = v
        · exact absurd (POK_self hn hP hj (hother j hj z2 y) (by omega)).2.2.2.1 e
        · omega
      refine ⟨rfl, rfl, rfl, rfl, rfl, ?_, ?_⟩
      · show (if j < n ∧ ¬ p j < 0 ∧ (p j).toNatClampNeg < v + 1 then _ else _) = if j < n ∧ ¬ p j < 0 ∧ (p j).toNatClampNeg < v then _ else _
        simp only [q2]
      · show (if j < n ∧ ¬ p j < 0 ∧ (p j).toNatClampNeg < v + 1 then _ else _) = if j < n ∧ ¬ p j < 0 ∧ (p j).toNatClampNeg < v then _ else _
        simp only [q2]
