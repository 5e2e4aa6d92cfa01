/-! advise, both sides -/
section Adv3
variable {S : Nat → Nat → Int32} {n k w m r : Nat} {κ : Nat → Nat} {hh : Nat} {V : Nat → Int32}
/-- the rounds of the class -/
theorem c_advL (hB : RelB S n k w m r κ) (hhh : hh < 900) (hV : ∀ i, i < m → VAL n k w (S 62) (S 6 0) (S 7 0) hh (setA S (κ i) 50) (V (κ i))) {ps : Int32} (hps : ∀ i, i < m → V (κ i) ≤ ps) {s0 : Int32 × Int32} : ∀ (g i : Nat) (th tbr tn tkn tqn : Int32) (tpl tpd tco tro tli tlk twa tgo tpe tst tx ty tp tse tks tqf tqs tqt tqu : Nat → Int32) (most best : Int32), i ≤ m → m < g + i → fo (fun i => adv V (κ i)) i s0 = (best, most) →
    ∃ R1 R2 R3 R4 R5 R6 R7 R8 R9 R10 R11 R12 R13 R14 R15 R16 R17 R18 R19 R20 R21 R22 R23 R24, jX6_advise_L57 (nI w) (S 6 0) (S 7 0) (S 1) (S 2) (S 3) (S 4) (S 10 0) (S 11 0) (nI n) (S 12) (S 13) (S 14) (S 15) (S 16) (S 17) (S 18) (S 19) (S 20) (S 21) (S 22) (nI k) (S 24) (S 25) (nI m) (S 27) (S 28) (S 29) (S 30) (nI hh) ps g th tbr tpl tpd tn tco tro tli tlk twa tgo tpe tst tx ty tp tkn tse tks tqn tqf tqs tqt tqu most best (nI i) = some (R1, R2, R3, R4, R5, R6, R7, R8, R9, R10, R11, R12, R13, R14, R15, R16, R17, R18, R19, R20, R21, R22, R23, R24, (fo (fun i => adv V (κ i)) m s0).1) := by
  have hB0 := hB
  obtain ⟨-, -, -, hW, hR, hS, hP, hQ, hc, hz, hK⟩ := hB
  have hm := hQ.1
  have hn := hW.1
  intro g
  induction g with
  | zero => intro i; intros; omega
  | succ g ih =>
    intro i th tbr tn tkn tqn tpl tpd tco tro tli tlk twa tgo tpe tst tx ty tp tse tks tqf tqs tqt tqu most best hi hg hs
    rw [jX6_advise_L57]
    by_cases he : i = m
    · subst he
      rw [if_pos (Int32.le_refl _), hs]
      exact ⟨_, _, _, _, _, _, _, _, _, _, _, _, _, _, _, _, _, _, _, _, _, _, _, _, rfl⟩
    · rw [if_neg (fun z => by have := (nI_leI (by omega) (by omega)).mp z; omega)]
      by_cases hp : ps ≤ most
      · rw [if_pos hp, fo_stable (g := fun i => adv V (κ i)) (i := i) hi (fun j h1 h2 => by
          rw [hs]
          unfold adv
          exact if_neg (Int32.not_lt.mpr (Int32.le_trans (hps j h2) hp))), hs]
        exact ⟨_, _, _, _, _, _, _, _, _, _, _, _, _, _, _, _, _, _, _, _, _, _, _, _, rfl⟩
      · rw [if_neg hp]
        obtain ⟨v, R, e, hv⟩ := c_saved hB0 hhh (by omega : i < m) th tbr tn tkn tqn tpl tpd tco tro tli tlk twa tgo tpe tst tx ty tp tse tks tqf tqs tqt tqu
        have h0 : 0 < S 69 (κ i) := of_decide_eq_true (hQ.2.1.1 i (by omega)).2
        obtain ⟨hW', -⟩ := setA_ok hB0 (hQ.2.1.1 i (by omega)).1 h0 (x := 50) (by decide)
        have hvV : v = V (κ i) := VAL_one hS.1 hW' hv (hV i (by omega))
        have hstep : fo (fun i => adv V (κ i)) (i + 1) s0 = adv V (κ i) (best, most) := by rw [fo, hs]
        rw [e, bnd_n, nI_1]
        dsimp only
        by_cases hle : v ≤ most
        · rw [if_pos hle]
          refine ih (i + 1) _ _ _ _ _ _ _ _ _ _ _ _ _ _ _ _ _ _ _ _ _ _ _ _ most best (by omega) (by omega) ?_
          rw [hstep]
          unfold adv
          exact if_neg (by rw [← hvV]; exact Int32.not_lt.mpr hle)
        · rw [if_neg hle, chk_n (by omega) (by omega), chk_n (by omega) (by omega)]
          refine ih (i + 1) _ _ _ _ _ _ _ _ _ _ _ _ _ _ _ _ _ _ _ _ _ _ _ _ v _ (by omega) (by omega) ?_
          rw [hstep]
          unfold adv
          obtain ⟨q1, q2, -, -⟩ := hQ.2.2 i (by omega)
          have q1' : S 27 i = nI (κ i / 24) := q1
          have q2' : S 28 i = nI (κ i % 24) := q2
          rw [if_pos (by rw [← hvV]; exact Int32.not_le.mp hle), ← hvV, rd_n (by omega), rd_n (by omega), q1', q2', l24, pk_mul, nI_add]
          congr 2
          omega
/-- the rounds of the reference -/
theorem r_advL (hB : RelB S n k w m r κ) (hhh : hh < 900) (hV : ∀ i, i < m → VAL n k w (S 62) (S 6 0) (S 7 0) hh (setA S (κ i) 50) (V (κ i))) {s0 : Int32 × Int32} : ∀ (g q bu : Nat) (pc : Nat → Int32) (best most : Int32), q ≤ 576 → 576 < g + q → bu + ns (fun j => if decide (0 < S 69 j) = true then 1 else 0) q = m → fo (fun q s => if decide (0 < S 69 q) = true then adv V q s else s) q s0 = (best, most) →
    ∃ pc', jX7_advise_L33 (nI w) (S 6 0) (S 7 0) (nI n) (nI k) (S 62) (S 66) (S 68) (S 71) (S 72) (nI hh) g bu (S 69) (S 70) pc best most (nI q) = some (S 69, S 70, pc', (fo (fun q s => if decide (0 < S 69 q) = true then adv V q s else s) 576 s0).1) := by
  have hB0 := hB
  obtain ⟨-, -, -, hW, hR, hS, hP, hQ, hc, hz, hK⟩ := hB
  have hn := hW.1
  intro g
  induction g with
  | zero => intro q; intros; omega
  | succ g ih =>
    intro q bu pc best most hq hg hbu hs
    rw [jX7_advise_L33]
    by_cases he : q = 576
    · subst he
      rw [if_pos (by decide), hs]
      exact ⟨pc, rfl⟩
    · have hq' : q < 576 := by omega
      rw [if_neg (fun z => by have := (nI_leI (a := 576) (by omega) (by omega)).mp z; omega), chk_n hq' (by omega), rd_n (by omega), nI_1]
      by_cases h0 : 0 < S 69 q
      · obtain ⟨i, hi, hki⟩ := hQ.2.1.2.2 q hq' (decide_eq_true h0)
        obtain ⟨hW', -, hR', -⟩ := setA_ok hB0 hq' h0 (x := 50) (by decide)
        have hVq := hV i hi
        rw [hki] at hVq
        obtain ⟨pc', e⟩ := r_saved (nu := S 72) (pc := pc) hS.1 hhh hW' hR' hVq
        have htot := enu_tot hQ.2.1
        have hcnt : ns (fun j => if decide (0 < S 69 j) = true then 1 else 0) (q + 1) ≤ ns (fun j => if decide (0 < S 69 j) = true then 1 else 0) 576 := by
          have : ∀ d, ns (fun j => if decide (0 < S 69 j) = true then 1 else 0) (q + 1) ≤ ns (fun j => if decide (0 < S 69 j) = true then 1 else 0) (q + 1 + d) := fun d => by
            induction d with
            | zero => exact Nat.le_refl _
            | succ d ihd => exact Nat.le_trans ihd (Nat.le_add_right _ _)
          have := this (576 - (q + 1))
          rw [show q + 1 + (576 - (q + 1)) = 576 by omega] at this
          exact this
        have hone : ns (fun j => if decide (0 < S 69 j) = true then 1 else 0) (q + 1) = ns (fun j => if decide (0 < S 69 j) = true then 1 else 0) q + 1 := by rw [ns, if_pos (decide_eq_true h0)]
        have htot' : m = ns (fun j => if decide (0 < S 69 j) = true then 1 else 0) 576 := htot
        cases bu with
        | zero => omega
        | succ bu =>
          have hback : ∀ (f : Nat → Int32) (x : Int32), upd (upd f q x) q (f q) = f := fun f x => by
            funext j
            unfold upd
            by_cases z : j = q
            · rw [if_pos z, z]
            · rw [if_neg z, if_neg z]
          have hne : ¬ S 69 q = 0 := i_pos_ne h0
          rw [if_neg hne, chk_n hq' (by omega), chk_n hq' (by omega), chk_n hq' (by omega), chk_n hq' (by omega), wr_n (by omega), wr_n (by omega)]
          unfold bud
          dsimp only
          rw [e, bnd_n, chk_n hq' (by omega), chk_n hq' (by omega), wr_n (by omega), wr_n (by omega), rd_n (by omega), hback, hback]
          dsimp only
          have hstep : fo (fun q s => if decide (0 < S 69 q) = true then adv V q s else s) (q + 1) s0 = adv V q (best, most) := by rw [fo, hs, if_pos (decide_eq_true h0)]
          by_cases hlt : most < V q
          · rw [if_pos hlt]
            exact ih (q + 1) bu pc' (nI q) (V q) (by omega) (by omega) (by omega) (by rw [hstep]; unfold adv; exact if_pos hlt)
          · rw [if_neg hlt]
            exact ih (q + 1) bu pc' best most (by omega) (by omega) (by omega) (by rw [hstep]; unfold adv; exact if_neg hlt)
      · have hzq : S 69 q = 0 := by
          by_cases z : S 69 q = 0
          · exact z
          · obtain ⟨_, _, _, _, _, _, _, h6⟩ := hW.2.2.2.2.1 q hq' z
            exact absurd h6 h0
        rw [if_pos hzq]
        refine ih (q + 1) bu pc best most (by omega) (by omega) ?_ ?_
        · rw [ns, if_neg (fun z => h0 (of_decide_eq_true z))]; exact hbu
        · rw [fo, hs, if_neg (fun z => h0 (of_decide_eq_true z))]
end Adv3
theorem sim_advise (S : Nat → Nat → Int32) (a1 : Int32) (h : Rel S) : ∃ K : Nat, K ≤ 10 ∧ (S kQ_number 0 = 0 → K = 0) ∧ ∃ (q : Nat ⊕ (Int32 × Int32 × Int32 × (Nat → Int32) × (Nat → Int32) × Int32 × (Nat → Int32) × (Nat → Int32) × (Nat → Int32) × (Nat → Int32) × (Nat → Int32) × (Nat → Int32) × (Nat → Int32) × (Nat → Int32) × (Nat → Int32) × (Nat → Int32) × (Nat → Int32) × Int32 × (Nat → Int32) × (Nat → Int32) × Int32 × (Nat → Int32) × (Nat → Int32) × (Nat → Int32) × (Nat → Int32))) (q' : Int32 × Int32 × (Nat → Int32) × (Nat → Int32) × (Nat → Int32)), jX6_advise (S 5 0) (S 6 0) (S 7 0) (S 1) (S 2) (S 3) (S 4) (S 10 0) (S 11 0) (S 23 0) (S 12) (S 13) (S 14) (S 15) (S 16) (S 17) (S 18) (S 19) (S 20) (S 21) (S 22) (S 26 0) (S 24) (S 25) (S 31 0) (S 27) (S 28) (S 29) (S 30) (S 34 0) (S 35 0) (S 32) (S 33) (S 47 0) (S 36) (S 37) (S 38) (S 39) (S 40) (S 41) (S 42) (S 43) (S 44) (S 45) (S 46) (S 50 0) (S 48) (S 49) (S 55 0) (S 51) (S 52) (S 53) (S 54) a1 = some q ∧ jX7_advise K (S 60 0) (S 61 0) (S 63 0) (S 64 0) (S 65 0) (S 67 0) (S 62) (S 66) (S 68) (S 69) (S 70) (S 71) (S 72) (S 73) a1 = some q' ∧ q'.2.1 = sel q kcL_advise (fun _ => 0) ∧ (∀ k, q = .inl k → k ∈ [1] ∧ Rel (up (up (up (up S 60 (fun _ => q'.2.1)) 69 q'.2.2.1) 70 q'.2.2.2.1) 73 q'.2.2.2.2)) ∧ (∀ u, q = .inr u → q'.1 = u.1 ∧ Rel (up (up (up (up (up (up (up (up (up (up (up (up (up (up (up (up (up (up (up (up (up (up (up (up (up (up (up (up S 34 (fun _ => u.2.1)) 35 (fun _ => u.2.2.1)) 32 u.2.2.2.1) 33 u.2.2.2.2.1) 47 (fun _ => u.2.2.2.2.2.1)) 36 u.2.2.2.2.2.2.1) 37 u.2.2.2.2.2.2.2.1) 38 u.2.2.2.2.2.2.2.2.1) 39 u.2.2.2.2.2.2.2.2.2.1) 40 u.2.2.2.2.2.2.2.2.2.2.1) 41 u.2.2.2.2.2.2.2.2.2.2.2.1) 42 u.2.2.2.2.2.2.2.2.2.2.2.2.1) 43 u.2.2.2.2.2.2.2.2.2.2.2.2.2.1) 44 u.2.2.2.2.2.2.2.2.2.2.2.2.2.2.1) 45 u.2.2.2.2.2.2.2.2.2.2.2.2.2.2.2.1) 46 u.2.2.2.2.2.2.2.2.2.2.2.2.2.2.2.2.1) 50 (fun _ => u.2.2.2.2.2.2.2.2.2.2.2.2.2.2.2.2.2.1)) 48 u.2.2.2.2.2.2.2.2.2.2.2.2.2.2.2.2.2.2.1) 49 u.2.2.2.2.2.2.2.2.2.2.2.2.2.2.2.2.2.2.2.1) 55 (fun _ => u.2.2.2.2.2.2.2.2.2.2.2.2.2.2.2.2.2.2.2.2.1)) 51 u.2.2.2.2.2.2.2.2.2.2.2.2.2.2.2.2.2.2.2.2.2.1) 52 u.2.2.2.2.2.2.2.2.2.2.2.2.2.2.2.2.2.2.2.2.2.2.1) 53 u.2.2.2.2.2.2.2.2.2.2.2.2.2.2.2.2.2.2.2.2.2.2.2.1) 54 u.2.2.2.2.2.2.2.2.2.2.2.2.2.2.2.2.2.2.2.2.2.2.2.2) 60 (fun _ => q'.2.1)) 69 q'.2.2.1) 70 q'.2.2.2.1) 73 q'.2.2.2.2)) := by
  have failR : ∀ C : Int32, Rel (up (up (up (up S 60 (fun _ => C)) 69 (S 69)) 70 (S 70)) 73 (S 73)) := fun C => Rel_up (k := 73) (f := S 73) rfl (Rel_upS (k := 70) (f := S 70) rfl (Rel_upS (k := 69) (f := S 69) rfl (Rel_up (k := 60) (f := fun _ => C) rfl h)))
  have hRel := h
  obtain ⟨n, k, w, m, r, κ, hB⟩ := h
  have hB0 := hB
  have hC := RB_CR hB
  obtain ⟨⟨s1, s2, s3, s4, s5, s6, s7⟩, ⟨w1, w2⟩, ⟨t1, t2, t3, t4, t5⟩, hW, hR, hS, hP, hQ, hc, hz, hK⟩ := hB
  have hn := hW.1
  have hk := hW.2.1
  have s1' : S 23 0 = nI n := s1
  have s2' : S 65 0 = nI n := s2
  have s3' : S 26 0 = nI k := s3
  have s4' : S 67 0 = nI k := s4
  have s5' : S 5 0 = nI w := s5
  have s6' : S 61 0 = nI w := s6
  have s7' : S 31 0 = nI m := s7
  have w1' : S 63 0 = S 6 0 := w1.symm
  have w2' : S 64 0 = S 7 0 := w2.symm
  refine ⟨m, by omega, fun z => ?_, ?_⟩
  · have : nI m = nI 0 := s7.symm.trans z
    exact (nI_eq (by omega) (by omega)).mp this
  rcases a_upto (C := 50) (by omega) a1 with ⟨hh, h1, h2, rfl, c1, c2, e⟩ | ⟨hno, e⟩
  · have hhh : hh < 900 := by omega
    -- what each lashing made anew would do
    obtain ⟨V, hV⟩ : ∃ V : Nat → Int32, ∀ i, i < m → VAL n k w (S 62) (S 6 0) (S 7 0) hh (setA S (κ i) 50) (V (κ i)) := by
      have hex : ∀ q, ∃ v, (0 < S 69 q ∧ q < 576) → VAL n k w (S 62) (S 6 0) (S 7 0) hh (setA S q 50) v := fun q => by
        by_cases hq : 0 < S 69 q ∧ q < 576
        · obtain ⟨i, hi, hki⟩ := hQ.2.1.2.2 q hq.2 (decide_eq_true hq.1)
          obtain ⟨v, R, -, hv⟩ := c_saved hB0 hhh hi 0 0 0 0 0 (fun _ => 0) (fun _ => 0) (fun _ => 0) (fun _ => 0) (fun _ => 0) (fun _ => 0) (fun _ => 0) (fun _ => 0) (fun _ => 0) (fun _ => 0) (fun _ => 0) (fun _ => 0) (fun _ => 0) (fun _ => 0) (fun _ => 0) (fun _ => 0) (fun _ => 0) (fun _ => 0) (fun _ => 0)
          rw [hki] at hv
          exact ⟨v, fun _ => hv⟩
        · exact ⟨0, fun z => absurd z hq⟩
      exact ⟨fun q => Classical.choose (hex q), fun i hi => Classical.choose_spec (hex (κ i)) ⟨of_decide_eq_true (hQ.2.1.1 i hi).2, (hQ.2.1.1 i hi).1⟩⟩
    obtain ⟨v0, R0, f1, hv0⟩ := c_saved0 hB0 hhh (S 34 0) (S 35 0) (S 47 0) (S 50 0) (S 55 0) (S 32) (S 33) (S 36) (S 37) (S 38) (S 39) (S 40) (S 41) (S 42) (S 43) (S 44) (S 45) (S 46) (S 48) (S 49) (S 51) (S 52) (S 53) (S 54)
    have f2 : jX1_countOf (nI k) (S 25) 1 = some (fs (fun c => if S 25 c = 1 then 1 else 0) k) := c_kcount hk
    obtain ⟨R1, R2, R3, R4, R5, R6, R7, R8, R9, R10, R11, R12, R13, R14, R15, R16, R17, R18, R19, R20, R21, R22, R23, R24, f3⟩ := c_advL (V := V) (ps := nI k - fs (fun c => if S 25 c = 1 then 1 else 0) k) (s0 := (-1, v0)) hB0 hhh hV (fun i hi => by
      obtain ⟨-, -, -, hK', -⟩ := setA_ok hB0 (hQ.2.1.1 i hi).1 (of_decide_eq_true (hQ.2.1.1 i hi).2) (x := 50) (by decide)
      exact VAL_le (A := setA S (κ i) 50) hk hK' (hV i hi)) FU 0 R0.1 R0.2.1 R0.2.2.2.2.1 R0.2.2.2.2.2.2.2.2.2.2.2.2.2.2.2.2.1 R0.2.2.2.2.2.2.2.2.2.2.2.2.2.2.2.2.2.2.2.1 R0.2.2.1 R0.2.2.2.1 R0.2.2.2.2.2.1 R0.2.2.2.2.2.2.1 R0.2.2.2.2.2.2.2.1 R0.2.2.2.2.2.2.2.2.1 R0.2.2.2.2.2.2.2.2.2.1 R0.2.2.2.2.2.2.2.2.2.2.1 R0.2.2.2.2.2.2.2.2.2.2.2.1 R0.2.2.2.2.2.2.2.2.2.2.2.2.1 R0.2.2.2.2.2.2.2.2.2.2.2.2.2.1 R0.2.2.2.2.2.2.2.2.2.2.2.2.2.2.1 R0.2.2.2.2.2.2.2.2.2.2.2.2.2.2.2.1 R0.2.2.2.2.2.2.2.2.2.2.2.2.2.2.2.2.2.1 R0.2.2.2.2.2.2.2.2.2.2.2.2.2.2.2.2.2.2.1 R0.2.2.2.2.2.2.2.2.2.2.2.2.2.2.2.2.2.2.2.2.1 R0.2.2.2.2.2.2.2.2.2.2.2.2.2.2.2.2.2.2.2.2.2.1 R0.2.2.2.2.2.2.2.2.2.2.2.2.2.2.2.2.2.2.2.2.2.2.1 R0.2.2.2.2.2.2.2.2.2.2.2.2.2.2.2.2.2.2.2.2.2.2.2 v0 (-1) (by omega) (by unfold FU; have := hQ.1; omega) rfl
    obtain ⟨pc1, f4⟩ := r_saved (nu := S 72) (pc := S 73) hS.1 hhh hW hR hv0
    obtain ⟨pc2, f5⟩ := r_advL (V := V) (s0 := (-1, v0)) hB0 hhh hV FU 0 m pc1 (-1) v0 (by omega) (by unfold FU; omega) rfl rfl
    have hbest := enu_fo (g := adv V) (s := ((-1 : Int32), v0)) hQ.2.1
    have g1 : jX6_advise (S 5 0) (S 6 0) (S 7 0) (S 1) (S 2) (S 3) (S 4) (S 10 0) (S 11 0) (S 23 0) (S 12) (S 13) (S 14) (S 15) (S 16) (S 17) (S 18) (S 19) (S 20) (S 21) (S 22) (S 26 0) (S 24) (S 25) (S 31 0) (S 27) (S 28) (S 29) (S 30) (S 34 0) (S 35 0) (S 32) (S 33) (S 47 0) (S 36) (S 37) (S 38) (S 39) (S 40) (S 41) (S 42) (S 43) (S 44) (S 45) (S 46) (S 50 0) (S 48) (S 49) (S 55 0) (S 51) (S 52) (S 53) (S 54) (nI hh) = some (.inr ((fo (fun i => adv V (κ i)) m (-1, v0)).1, R1, R2, R3, R4, R5, R6, R7, R8, R9, R10, R11, R12, R13, R14, R15, R16, R17, R18, R19, R20, R21, R22, R23, R24)) := by
      unfold jX6_advise
      rw [if_neg c1, if_pos (show nI hh ≤ 50 from c2), s5', s1', s3', s7']
      exact bnd_i f1 (bnd_i f2 (bnd_i f3 rfl))
    have g2 : jX7_advise m (S 60 0) (S 61 0) (S 63 0) (S 64 0) (S 65 0) (S 67 0) (S 62) (S 66) (S 68) (S 69) (S 70) (S 71) (S 72) (S 73) (nI hh) = some ((fo (fun i => adv V (κ i)) m (-1, v0)).1, 0, S 69, S 70, pc2) := by
      unfold jX7_advise
      rw [show jX7_isIn (nI hh) 1 50 = some 1 from e, bnd_n, if_neg one_ne, s6', w1', w2', s2', s4', hbest]
      exact bnd_i f4 (bnd_i f5 rfl)
    refine ⟨_, _, g1, g2, rfl, fun k hk => (by cases hk), fun u hu => ?_⟩
    cases hu
    refine ⟨rfl, ?_⟩
    exact Rel_up (k := 73) rfl (Rel_upS (k := 70) (f := S 70) rfl (Rel_upS (k := 69) (f := S 69) rfl (Rel_up rfl (Rel_up rfl (Rel_up rfl (Rel_up rfl (Rel_up rfl (Rel_up rfl (Rel_up rfl (Rel_up rfl (Rel_up rfl (Rel_up rfl (Rel_up rfl (Rel_up rfl (Rel_up rfl (Rel_up rfl (Rel_up rfl (Rel_up rfl (Rel_up rfl (Rel_up rfl (Rel_up rfl (Rel_up rfl (Rel_up rfl (Rel_up rfl (Rel_up rfl (Rel_up rfl (Rel_up rfl hRel)))))))))))))))))))))))))))
  · refine ⟨.inl 1, (0, 1, S 69, S 70, S 73), ?_, ?_, rfl, fun k hk => ⟨by cases hk; simp, failR _⟩, fun u hu => (by cases hu)⟩
    · unfold jX6_advise
      by_cases c1 : a1 < 1
      · rw [if_pos c1]
      · rw [if_neg c1, if_neg (show ¬ a1 ≤ 50 from hno.resolve_left c1)]
    · unfold jX7_advise
      rw [show jX7_isIn a1 1 50 = some 0 from e, bnd_n, if_pos rfl, r_fail1, bnd_n]
