/-! the law's own raft: the water, the lost -/
theorem onE_or {E E' : Nat → Bool} {s : Int32} : onE (fun j => E j || E' j) s = (onE E s || onE E' s) := by
  unfold onE
  exact Bool.and_or_distrib_left _ _ _
theorem endA_ae {n k : Nat} {E E' : Nat → Bool} {f : Int32} {A : Nat → Nat → Int32} : AE n k (endA E' f (endA E f A)) (endA (fun j => E j || E' j) f A) := by
  refine ⟨fun j hj => ⟨rfl, rfl, rfl, ?_, ?_, ?_, rfl, rfl⟩, fun c hc => ?_, fun q hq => ?_, fun _ _ _ => rfl⟩
  · show (if (E j || E' j) = true ∧ f = 1 then 0 else A 17 j) = if E' j = true ∧ f = 1 then 0 else if E j = true ∧ f = 1 then 0 else A 17 j
    cases E j <;> cases E' j <;> by_cases v : f = 1 <;> simp [v]
  · show (if (E j || E' j) = true then 0 else A 18 j) = if E' j = true then 0 else if E j = true then 0 else A 18 j
    cases E j <;> cases E' j <;> simp
  · show (if (E j || E' j) = true then f else A 19 j) = if E' j = true then f else if E j = true then f else A 19 j
    cases E j <;> cases E' j <;> simp
  · have h1 : endA (fun j => E j || E' j) f A kK_seat c = if onE (fun j => E j || E' j) (A kK_seat c) = true then -1 else A kK_seat c := rfl
    have h2 : endA (fun j => E j || E' j) f A kK_state c = if onE (fun j => E j || E' j) (A kK_seat c) = true then f else A kK_state c := rfl
    have h3 : endA E' f (endA E f A) kK_seat c = if onE E' (if onE E (A kK_seat c) = true then -1 else A kK_seat c) = true then -1 else (if onE E (A kK_seat c) = true then -1 else A kK_seat c) := rfl
    have h4 : endA E' f (endA E f A) kK_state c = if onE E' (if onE E (A kK_seat c) = true then -1 else A kK_seat c) = true then f else (if onE E (A kK_seat c) = true then f else A kK_state c) := rfl
    rw [h1, h2, h3, h4, onE_or]
    by_cases q : onE E (A kK_seat c) = true
    · rw [q]
      simp [onE_m1]
    · rw [Bool.eq_false_iff.mpr q, Bool.false_or]
      simp
  · show (if (E (q / 24) || E' (q / 24)) = true ∨ (E (q % 24) || E' (q % 24)) = true then 0 else A 69 q) = if E' (q / 24) = true ∨ E' (q % 24) = true then 0 else if E (q / 24) = true ∨ E (q % 24) = true then 0 else A 69 q
    cases E (q / 24) <;> cases E' (q / 24) <;> cases E (q % 24) <;> cases E' (q % 24) <;> simp
section SMo
variable {n k m nR w : Nat} {A : Nat → Nat → Int32} {sg κ : Nat → Nat} {bF tF pF : Nat → Nat → Int32} {p : Nat → Int32}
theorem SM_ae {A' : Nat → Nat → Int32} (e : AE n k A A') (h : SM n k m A nR sg κ bF tF pF) : SM n k m A' nR sg κ bF tF pF := by
  refine ⟨fun j hj => ?_, fun c hc => ?_, QOK_ae h.2.2.1 e.2.2.1 e.2.2.2, h.2.2.2.1, h.2.2.2.2.1, fun j hj => ?_, fun c hc => ?_⟩
  · obtain ⟨a1, a2, a3, a4, -, a6, a7, a8⟩ := e.1 j hj
    rw [a1, a2, a3, a4, a6, a7, a8]
    exact h.1 j hj
  · rw [(e.2.1 c hc).1, (e.2.1 c hc).2]
    exact h.2.1 c hc
  · rw [(e.1 j hj).2.2.2.2.2.1]
    exact h.2.2.2.2.2.1 j hj
  · rw [(e.2.1 c hc).2]
    exact h.2.2.2.2.2.2 c hc
theorem s_water (h : SM n k m A nR sg κ bF tF pF) : ∃ bF', jS_pass_L10 n 0 bF = some bF' ∧ SM n k m (stepW n A) nR sg κ bF' tF pF := by
  have l : jS_pass_L10 n 0 bF = some (fun i => if i < n ∧ bF i 6 = 0 then upd (bF i) 4 (mmin 100 (bF i 4 + bF i 3)) else bF i) := by
    refine itNF (fun g j s => jS_pass_L10 g j s) (fun j i => if i < j ∧ bF i 6 = 0 then upd (bF i) 4 (mmin 100 (bF i 4 + bF i 3)) else bF i) n ?_ rfl (fun g j hj => ?_)
    · funext i
      rw [if_neg (fun q => absurd q.1 (Nat.not_lt_zero i))]
    · have e : (if j < j ∧ bF j 6 = 0 then upd (bF j) 4 (mmin 100 (bF j 4 + bF j 3)) else bF j) = bF j := if_neg (fun q => absurd q.1 (Nat.lt_irrefl j))
      rw [jS_pass_L10, rd6]
      try dsimp only
      rw [e]
      by_cases q : bF j 6 = 0
      · rw [if_pos q, rd4, rd3, wr4]
        congr 1
        funext i
        unfold uF
        by_cases z : i = j
        · subst z
          simp [q]
        · simp only [if_neg z, p_lts z]
      · rw [if_neg q]
        congr 1
        funext i
        by_cases z : i = j
        · subst z
          rw [if_neg (fun y => q y.2), if_neg (fun y => q y.2)]
        · simp only [p_lts z]
  refine ⟨_, l, fun j hj => ?_, h.2⟩
  obtain ⟨b2, b3, b4, b5, b6, b7, b8⟩ := h.1 j hj
  have hw : stepW n A kB_water j = if j < n ∧ A kB_state j = 0 then mmin 100 (A kB_water j + A kB_leak j) else A kB_water j := rfl
  dsimp only
  rw [hw, ← b6]
  by_cases q : bF j 6 = 0
  · rw [if_pos ⟨hj, q⟩, if_pos ⟨hj, q⟩]
    exact ⟨(upd_b (by decide)).trans b2, (upd_b (by decide)).trans b3, by rw [upd_a, b4, b3], (upd_b (by decide)).trans b5, (upd_b (by decide)).trans b6, (upd_b (by decide)).trans b7, (upd_b (by decide)).trans b8⟩
  · rw [if_neg (fun y => q y.2), if_neg (fun y => q y.2)]
    exact ⟨b2, b3, b4, b5, b6, b7, b8⟩
theorem EOv_tie (hP : PN n A p) {v : Nat} (a b : Nat) (hab : Tie n (A kM_strength) a b) : EOv n A p v a = EOv n A p v b := by
  have e := hP.2.1 a b hab
  have ha := hab.1
  have hb := hab.2.1
  unfold EOv
  rw [e]
  exact Bool.eq_iff_iff.mpr (by rw [decide_eq_true_eq, decide_eq_true_eq]; exact ⟨fun z => ⟨hb, z.2⟩, fun z => ⟨ha, z.2⟩⟩)
theorem EOv_n (hn : n ≤ 24) (hP : PN n A p) : EOv n A p n = EO n A p := E_ext fun j => by
  unfold EO EOv
  rw [decide_eq_true_eq, decide_eq_true_eq]
  refine ⟨fun ⟨h1, h2, _, h3⟩ => ⟨h1, h2, h3⟩, fun ⟨h1, h2, h3⟩ => ⟨h1, h2, ?_, h3⟩⟩
  by_cases hs : A kB_state j = 0
  · obtain ⟨i, h4, h5, -⟩ := hP.1 j h1 hs
    rw [h5, clamp_n (by omega)]; omega
  · exact absurd (by rw [hP.2.2 j h1 hs]; exact m1_neg) h2
theorem s_over (h : SM n k m A nR sg κ bF tF pF) (hW : WA n k A) (hP : PN n A p) :
    ∃ r, jS_pass_L54 n nR tF k n 0 m sg bF pF = some r ∧ (∃ κ', SM n k r.1 (endA (EO n A p) 1 A) nR r.2.1 κ' r.2.2.1 tF r.2.2.2) ∧ r.1 ≤ m := by
  have hn := hW.1
  refine itN0 (s0 := (m, sg, bF, pF)) (fun g j (x : Nat × (Nat → Nat) × (Nat → Nat → Int32) × (Nat → Nat → Int32)) => jS_pass_L54 n nR tF k g j x.1 x.2.1 x.2.2.1 x.2.2.2) n
    (fun j x => (∃ κ', SM n k x.1 (endA (EOv n A p j) 1 A) nR x.2.1 κ' x.2.2.1 tF x.2.2.2) ∧ x.1 ≤ m) _ ?_ (fun x hx => ⟨x, rfl, ?_⟩) (fun g j x hj hx => ?_)
  · rw [show EOv n A p 0 = fun _ => false from E_ext fun j => by simp [EOv], endA_none]
    exact ⟨⟨κ, h⟩, Nat.le_refl _⟩
  · rw [EOv_n hn hP] at hx
    exact hx
  · obtain ⟨m1, sg1, bF1, pF1⟩ := x
    obtain ⟨⟨κ1, h1⟩, lm⟩ := hx
    dsimp only at h1 lm ⊢
    have hWB : WA n k (endA (EOv n A p j) 1 A) := WA_end hW
    have hPB : PN n (endA (EOv n A p j) 1 A) (fun i => if EOv n A p j i = true then -1 else p i) := POK_end hn hP (EOv_tie hP) (by decide)
    rw [jS_pass_L54, s_name h1 hWB hPB hj, bnd_n]
    by_cases q : p j = nI j
    · have hin : ∀ i, i < n → p i = nI j → EOv n A p j i = false := fun i hi z => by
        unfold EOv
        refine decide_eq_false fun y => ?_
        rw [z, clamp_n (by omega)] at y
        omega
      have hEj := hin j hj q
      have hsj : A kB_state j = 0 := (POK_self hn hP hj q (by omega)).2.1
      obtain ⟨is, e, o⟩ := s_piece h1 hWB hPB hj
      have ho : ∀ i, i < n → is i = if decide (i < n ∧ p i = nI j) = true then 1 else 0 := fun i hi => by
        rw [o i hi, e_st, hEj]
        by_cases z : p i = nI j
        · rw [hin i hi z, decide_eq_true ⟨hi, z⟩]
          simp [hsj, z, q]
        · rw [if_neg (fun y => z (by
            have y2 := y.2
            simp only [Bool.false_eq_true, if_false] at y2
            by_cases v : EOv n A p j i = true
            · rw [if_pos v, q] at y2
              exact absurd y2.symm (n_m1 (by omega))
            · rw [if_neg v, q] at y2
              exact y2)), decide_eq_false (fun y => z y.2), if_neg (by decide)]
      have eL : fs (fun b => if is b = 0 then 0 else ld (endA (EOv n A p j) 1 A) b) n = LD n A p (nI j) := fs_congr fun b hb => by
        rw [ho b hb]
        by_cases z : p b = nI j
        · rw [decide_eq_true ⟨hb, z⟩, if_pos rfl, if_neg one_ne, if_pos z]
          show (if EOv n A p j b = true ∧ (1 : Int32) = 1 then 0 else A 17 b) + 7 * (if EOv n A p j b = true then 0 else A 18 b) = ld A b
          rw [hin b hb z]; rfl
        · rw [decide_eq_false (fun y => z y.2), if_neg z]
          rfl
      have eF : fs (fun b => if is b = 0 then 0 else lf (endA (EOv n A p j) 1 A) b) n = LF n A p (nI j) := fs_congr fun b hb => by
        rw [ho b hb]
        by_cases z : p b = nI j
        · rw [decide_eq_true ⟨hb, z⟩, if_pos rfl, if_neg one_ne, if_pos z]
          rfl
        · rw [decide_eq_false (fun y => z y.2), if_neg z]
          rfl
      have en : (if EOv n A p j j = true then (-1 : Int32) else p j) = nI j := by rw [hEj]; exact q
      rw [if_pos en, e, bnd_n, s_sumLoad h1 hWB, bnd_n, s_sumLift h1 hn, bnd_n, eL, eF]
      by_cases c : LD n A p (nI j) ≤ LF n A p (nI j)
      · refine ⟨(m1, sg1, bF1, pF1), ⟨⟨κ1, ?_⟩, lm⟩, by rw [if_pos c]⟩
        rw [show EOv n A p (j + 1) = EOv n A p j from E_ext fun i => by
          unfold EOv
          rw [decide_eq_true_eq, decide_eq_true_eq]
          refine ⟨fun ⟨y1, y2, y3, y4⟩ => ⟨y1, y2, ?_, y4⟩, fun ⟨y1, y2, y3, y4⟩ => ⟨y1, y2, by omega, y4⟩⟩
          by_cases z : (p i).toNatClampNeg = j
          · by_cases hs : A kB_state i = 0
            · obtain ⟨d, d1, d2, -⟩ := hP.1 i y1 hs
              rw [d2, clamp_n (by omega)] at z
              rw [d2, z] at y4
              exact absurd c y4
            · exact absurd (by rw [hP.2.2 i y1 hs]; exact m1_neg) y2
          · omega]
        exact h1
      · have hc : ∀ a b, Tie n (endA (EOv n A p j) 1 A kM_strength) a b → decide (a < n ∧ p a = nI j) = decide (b < n ∧ p b = nI j) := fun a b t => by
          have ha := t.1
          have hb := t.2.1
          rw [hP.2.1 a b ((endA_tie (by omega) (by omega)).mp t).1]
          exact Bool.eq_iff_iff.mpr (by rw [decide_eq_true_eq, decide_eq_true_eq]; exact ⟨fun z => ⟨hb, z.2⟩, fun z => ⟨ha, z.2⟩⟩)
        obtain ⟨m2, sg2, κ2, bF2, pF2, e2, h2, l2⟩ := s_end (E := fun i => decide (i < n ∧ p i = nI j)) (f := 1) h1 hWB (fun i z => (of_decide_eq_true z).1) ho hc (Or.inl rfl)
        refine ⟨(m2, sg2, bF2, pF2), ⟨⟨κ2, ?_⟩, Nat.le_trans l2 lm⟩, by rw [if_neg c, e2, bnd_n]⟩
        have h3 := SM_ae endA_ae h2
        rw [show (fun i => EOv n A p j i || decide (i < n ∧ p i = nI j)) = EOv n A p (j + 1) from E_ext fun i => by
          unfold EOv
          rw [Bool.or_eq_true, decide_eq_true_eq, decide_eq_true_eq, decide_eq_true_eq]
          refine ⟨fun y => y.elim (fun ⟨y1, y2, y3, y4⟩ => ⟨y1, y2, by omega, y4⟩) (fun ⟨y1, y2⟩ => ⟨y1, by rw [y2]; exact n_neg (by omega), by rw [y2, clamp_n (by omega)]; omega, by rw [y2]; exact c⟩), fun ⟨y1, y2, y3, y4⟩ => ?_⟩
          by_cases z : (p i).toNatClampNeg = j
          · refine Or.inr ⟨y1, ?_⟩
            by_cases hs : A kB_state i = 0
            · obtain ⟨d, d1, d2, -⟩ := hP.1 i y1 hs
              rw [d2, clamp_n (by omega)] at z
              rw [d2, z]
            · exact absurd (by rw [hP.2.2 i y1 hs]; exact m1_neg) y2
          · exact Or.inl ⟨y1, y2, by omega, y4⟩] at h3
        exact h3
    · rw [if_neg (fun z => q (by
        by_cases v : EOv n A p j j = true
        · rw [if_pos v] at z
          exact absurd z.symm (n_m1 (by omega))
        · rw [if_neg v] at z
          exact z))]
      refine ⟨(m1, sg1, bF1, pF1), ⟨⟨κ1, ?_⟩, lm⟩, rfl⟩
      rw [show EOv n A p (j + 1) = EOv n A p j from E_ext fun i => by
        unfold EOv
        rw [decide_eq_true_eq, decide_eq_true_eq]
        refine ⟨fun ⟨y1, y2, y3, y4⟩ => ⟨y1, y2, ?_, y4⟩, fun ⟨y1, y2, y3, y4⟩ => ⟨y1, y2, by omega, y4⟩⟩
        by_cases z : (p i).toNatClampNeg = j
        · by_cases hs : A kB_state i = 0
          · obtain ⟨d, d1, d2, -⟩ := hP.1 i y1 hs
            rw [d2, clamp_n (by omega)] at z
            rw [z] at d2
            exact absurd (POK_self hn hP y1 d2 (by omega)).2.2.2.1 q
          · exact absurd (by rw [hP.2.2 i y1 hs]; exact m1_neg) y2
        · omega]
      exact h1
end SMo
