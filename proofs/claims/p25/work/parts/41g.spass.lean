/-! the law's own raft: the saved; an hour -/
section SMs2
variable {n k m nR w : Nat} {A : Nat → Nat → Int32} {sg κ : Nat → Nat} {bF tF pF wF : Nat → Nat → Int32} {p p2 Wt : Nat → Int32} {wx wy : Int32}
theorem ESv_tie (hP : ∀ a b, Tie n (A kM_strength) a b → p a = p b) {v : Nat} (a b : Nat) (hab : Tie n (A kM_strength) a b) : ESv n A p v a = ESv n A p v b := by
  have e := hP a b hab
  have ha := hab.1
  have hb := hab.2.1
  unfold ESv
  rw [e]
  exact Bool.eq_iff_iff.mpr (by rw [decide_eq_true_eq, decide_eq_true_eq]; exact ⟨fun z => ⟨hb, z.2⟩, fun z => ⟨ha, z.2⟩⟩)
/-- of a piece all are at one place -/
theorem p_x (hW : WA n k A) (hP : PN n A p) {i j : Nat} (hj : j < n) (h : p j = nI i) (hi : i < 24) : A kB_x i = A kB_x j :=
  conn_const (fun a b t => (hW.2.2.2.2.2.1 a b t).1) (POK_self hW.1 hP hj h hi).2.2.2.2
theorem ESv_n (hW : WA n k A) (hP : PN n A p) : ESv n A p n = ES n A := E_ext fun j => by
  have hn := hW.1
  unfold ES ESv
  rw [decide_eq_true_eq, decide_eq_true_eq]
  refine ⟨fun ⟨h1, h2, h3, h4⟩ => ?_, fun ⟨h1, h2, h3⟩ => ?_⟩
  · by_cases hs : A kB_state j = 0
    · obtain ⟨i, i1, i2, -⟩ := hP.1 j h1 hs
      rw [i2, clamp_n (by omega)] at h4
      exact ⟨h1, hs, (p_x hW hP h1 i2 (by omega)).symm.trans h4⟩
    · exact absurd (by rw [hP.2.2 j h1 hs]; exact m1_neg) h2
  · obtain ⟨i, i1, i2, -⟩ := hP.1 j h1 h2
    rw [i2, clamp_n (by omega)]
    exact ⟨h1, n_neg (by omega), by omega, (p_x hW hP h1 i2 (by omega)).trans h3⟩
theorem s_shore (h : SM n k m A nR sg κ bF tF pF) (hW : WA n k A) (hP : PN n A p) :
    ∃ r, jS_pass_L535 n nR tF k n 0 m sg bF pF = some r ∧ (∃ κ', SM n k r.1 (endA (ES n A) 2 A) nR r.2.1 κ' r.2.2.1 tF r.2.2.2) ∧ r.1 ≤ m := by
  have hn := hW.1
  refine itN0 (s0 := (m, sg, bF, pF)) (fun g j (x : Nat × (Nat → Nat) × (Nat → Nat → Int32) × (Nat → Nat → Int32)) => jS_pass_L535 n nR tF k g j x.1 x.2.1 x.2.2.1 x.2.2.2) n
    (fun j x => (∃ κ', SM n k x.1 (endA (ESv n A p j) 2 A) nR x.2.1 κ' x.2.2.1 tF x.2.2.2) ∧ x.1 ≤ m) _ ?_ (fun x hx => ⟨x, rfl, ?_⟩) (fun g j x hj hx => ?_)
  · rw [show ESv n A p 0 = fun _ => false from E_ext fun j => by simp [ESv], endA_none]
    exact ⟨⟨κ, h⟩, Nat.le_refl _⟩
  · rw [ESv_n hW hP] at hx
    exact hx
  · obtain ⟨m1, sg1, bF1, pF1⟩ := x
    obtain ⟨⟨κ1, h1⟩, lm⟩ := hx
    dsimp only at h1 lm ⊢
    have hWB : WA n k (endA (ESv n A p j) 2 A) := WA_end hW
    have hPB : PN n (endA (ESv n A p j) 2 A) (fun i => if ESv n A p j i = true then -1 else p i) := POK_end hn hP (ESv_tie hP.2.1) (by decide)
    obtain ⟨-, -, -, -, b6, b7, -⟩ := h1.1 j hj
    have x7 : endA (ESv n A p j) 2 A kB_x j = A kB_x j := rfl
    rw [e_st] at b6
    rw [x7] at b7
    have other : ¬ (ESv n A p j j = false ∧ A kB_state j = 0 ∧ A kB_x j = 29) → ESv n A p (j + 1) = ESv n A p j := fun o => E_ext fun i => by
      unfold ESv
      rw [decide_eq_true_eq, decide_eq_true_eq]
      refine ⟨fun ⟨y1, y2, y3, y4⟩ => ⟨y1, y2, ?_, y4⟩, fun ⟨y1, y2, y3, y4⟩ => ⟨y1, y2, by omega, y4⟩⟩
      by_cases z : (p i).toNatClampNeg = j
      · by_cases hs : A kB_state i = 0
        · obtain ⟨d, d1, d2, -⟩ := hP.1 i y1 hs
          rw [z] at y4
          rw [d2, clamp_n (by omega)] at z
          rw [z] at d2
          obtain ⟨-, -, z1, z2, -⟩ := POK_self hn hP y1 d2 (by omega)
          refine absurd ⟨?_, z1, y4⟩ o
          unfold ESv
          refine decide_eq_false fun y => ?_
          have y5 := y.2.2.1
          rw [z2, clamp_n (by omega)] at y5
          omega
        · exact absurd (by rw [hP.2.2 i y1 hs]; exact m1_neg) y2
      · omega
    rw [jS_pass_L535, rd6, rd7, b6, b7]
    by_cases hE : ESv n A p j j = true
    · rw [hE, if_pos rfl, if_neg (by decide)]
      rw [← other (fun z => by rw [hE] at z; exact absurd z.1 (by decide))] at h1
      exact ⟨(m1, sg1, bF1, pF1), ⟨⟨κ1, h1⟩, lm⟩, rfl⟩
    · have hE := Bool.eq_false_iff.mpr hE
      have en : (if ESv n A p j j = true then (2 : Int32) else A kB_state j) = A kB_state j := by rw [hE]; rfl
      rw [en]
      by_cases hs : A kB_state j = 0
      · rw [if_pos hs]
        by_cases hx : A kB_x j = 29
        · rw [if_pos hx]
          have q : p j = nI j := by
            obtain ⟨i, i1, i2, -⟩ := hP.1 j hj hs
            by_cases z : i = j
            · rw [i2, z]
            · refine absurd (decide_eq_true ?_) (Bool.eq_false_iff.mp hE)
              rw [i2, clamp_n (by omega)]
              exact ⟨hj, n_neg (by omega), by omega, (p_x hW hP hj i2 (by omega)).trans hx⟩
          have hin : ∀ i, i < n → p i = nI j → ESv n A p j i = false := fun i hi z => by
            unfold ESv
            refine decide_eq_false fun y => ?_
            rw [z, clamp_n (by omega)] at y
            omega
          obtain ⟨is, e, o⟩ := s_piece h1 hWB hPB hj
          have ho : ∀ i, i < n → is i = if decide (i < n ∧ p i = nI j) = true then 1 else 0 := fun i hi => by
            rw [o i hi, e_st, hE]
            by_cases z : p i = nI j
            · rw [hin i hi z, decide_eq_true ⟨hi, z⟩]
              simp [hs, z, q]
            · rw [if_neg (fun y => z (by
                have y2 := y.2
                simp only [Bool.false_eq_true, if_false] at y2
                by_cases v : ESv n A p j i = true
                · rw [if_pos v, q] at y2
                  exact absurd y2.symm (n_m1 (by omega))
                · rw [if_neg v, q] at y2
                  exact y2)), decide_eq_false (fun y => z y.2), if_neg (by decide)]
          have hc : ∀ a b, Tie n (endA (ESv n A p j) 2 A kM_strength) a b → decide (a < n ∧ p a = nI j) = decide (b < n ∧ p b = nI j) := fun a b t => by
            have ha := t.1
            have hb := t.2.1
            rw [hP.2.1 a b ((endA_tie (by omega) (by omega)).mp t).1]
            exact Bool.eq_iff_iff.mpr (by rw [decide_eq_true_eq, decide_eq_true_eq]; exact ⟨fun z => ⟨hb, z.2⟩, fun z => ⟨ha, z.2⟩⟩)
          obtain ⟨m2, sg2, κ2, bF2, pF2, e2, h2, l2⟩ := s_end (E := fun i => decide (i < n ∧ p i = nI j)) (f := 2) h1 hWB (fun i z => (of_decide_eq_true z).1) ho hc (Or.inr rfl)
          refine ⟨(m2, sg2, bF2, pF2), ⟨⟨κ2, ?_⟩, Nat.le_trans l2 lm⟩, by rw [e, bnd_n, e2, bnd_n]⟩
          have h3 := SM_ae endA_ae h2
          rw [show (fun i => ESv n A p j i || decide (i < n ∧ p i = nI j)) = ESv n A p (j + 1) from E_ext fun i => by
            unfold ESv
            rw [Bool.or_eq_true, decide_eq_true_eq, decide_eq_true_eq, decide_eq_true_eq]
            refine ⟨fun y => y.elim (fun ⟨y1, y2, y3, y4⟩ => ⟨y1, y2, by omega, y4⟩) (fun ⟨y1, y2⟩ => ⟨y1, by rw [y2]; exact n_neg (by omega), by rw [y2, clamp_n (by omega)]; omega, by rw [y2, clamp_n (by omega)]; exact hx⟩), fun ⟨y1, y2, y3, y4⟩ => ?_⟩
            by_cases z : (p i).toNatClampNeg = j
            · refine Or.inr ⟨y1, ?_⟩
              by_cases hs2 : A kB_state i = 0
              · obtain ⟨d, d1, d2, -⟩ := hP.1 i y1 hs2
                rw [d2, clamp_n (by omega)] at z
                rw [d2, z]
              · exact absurd (by rw [hP.2.2 i y1 hs2]; exact m1_neg) y2
            · exact Or.inl ⟨y1, y2, by omega, y4⟩] at h3
          exact h3
        · rw [if_neg hx]
          rw [← other (fun z => hx z.2.2)] at h1
          exact ⟨(m1, sg1, bF1, pF1), ⟨⟨κ1, h1⟩, lm⟩, rfl⟩
      · rw [if_neg hs]
        rw [← other (fun z => hs z.2.1)] at h1
        exact ⟨(m1, sg1, bF1, pF1), ⟨⟨κ1, h1⟩, lm⟩, rfl⟩
/-- an hour of the law's own raft -/
theorem s_pass {ho br : Int32} (h : SM n k m A nR sg κ bF tF pF) (hW : WA n k A) (hS : WOK w Wt) (hw : SW w Wt wF) (hp : PN n A p) (hp2 : PN n (hA2 n w Wt A p) p2) :
    ∃ m' sg' κ' bF' tF' pF', jS_pass ho br wx wy w n m k nR sg wF bF tF pF = some (brkN n w Wt A p, ho + 1, br + brkN n w Wt A p, m', sg', bF', tF', pF') ∧ SM n k m' (hA4 n w Wt wx wy A p p2) nR sg' κ' bF' tF' pF' ∧ m' ≤ m := by
  have hn := hW.1
  obtain ⟨b1, e1, h1⟩ := s_water h
  obtain ⟨⟨m2, sg2, b2, f2⟩, e2, ⟨κ2, h2⟩, l2⟩ := s_over (p := p) h1 (WA_water hW) hp
  dsimp only at h2 l2
  obtain ⟨t3, m3, sg3, κ3, e3, h3, l3⟩ := s_wear h2 (WA_hA1 (p := p) hW) hS hw
  have hW2 := WA_hA2 (p := p) hW hS
  obtain ⟨x4, e4, h4⟩ := s_goto (wx := wx) (wy := wy) h3 hW2 hp2 hS hw
  obtain ⟨b5, e5, h5⟩ := s_drift h3 hW2 hp2 h4
  have hW3 := WA_hA3 (wx := wx) (wy := wy) hW hS hp2
  obtain ⟨⟨m6, sg6, b6, f6⟩, e6, ⟨κ6, h6⟩, l6⟩ := s_shore (p := p2) h5 hW3 hp2
  dsimp only at h6 l6
  refine ⟨m6, sg6, κ6, b6, t3, f6, ?_, h6, by omega⟩
  unfold jS_pass
  rw [chkP_n hn, e1, bnd_n, chkP_n hn, e2, bnd_n]
  dsimp only
  rw [chkP_n h2.2.2.2.1, e3, bnd_n]
  dsimp only
  rw [chkP_n hn, chkP_n hn, e4, bnd_n, chkP_n hn, e5, bnd_n, chkP_n hn, e6, bnd_n]
  rfl
end SMs2
