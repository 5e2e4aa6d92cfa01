/-! an hour: what is foreseen, what comes -/
section Hour
variable {S S1 : Nat → Nat → Int32} {n k w m r : Nat} {κ : Nat → Nat}
/-- the state an hour later -/
def HR (n w : Nat) (S A' : Nat → Nat → Int32) (B : Int32) : Prop := ∃ p2, PN n (hA2 n w (S 62) S (S 22)) p2 ∧ A' = hA4 n w (S 62) (S 6 0) (S 7 0) S (S 22) p2 ∧ B = brkN n w (S 62) S (S 22)
theorem HR_of {A' : Nat → Nat → Int32} {B : Int32} (hW : WA n k S) (hP : PN n S (S 22)) (h : Hrs n w (S 62) (S 6 0) (S 7 0) 1 S A' B) : HR n w S A' B := by
  have hn := hW.1
  obtain ⟨p, p2, h1, h2, B', ⟨h3, h4⟩, h5⟩ := h
  have e1 : hA1 n S p = hA1 n S (S 22) := by
    unfold hA1
    rw [EO_ext (A := stepW n S) (POK_one hn h1 hP)]
  have e2 : hA2 n w (S 62) S p = hA2 n w (S 62) S (S 22) := by unfold hA2; rw [e1]
  refine ⟨p2, by rw [← e2]; exact h2, ?_, ?_⟩
  · rw [h3]
    unfold hA4 hA3
    rw [e2]
  · rw [h5, h4, Int32.add_zero]
    unfold brkN
    rw [e1]
theorem HR_one {A' A2 : Nat → Nat → Int32} {B B2 : Int32} (hW : WA n k S) (h : HR n w S A' B) (h' : HR n w S A2 B2) : A' = A2 ∧ B = B2 := by
  have hn := hW.1
  obtain ⟨p, h1, h2, h3⟩ := h
  obtain ⟨q, g1, g2, g3⟩ := h'
  refine ⟨?_, h3.trans g3.symm⟩
  have a3 : hA3 n w (S 62) (S 6 0) (S 7 0) S (S 22) p = hA3 n w (S 62) (S 6 0) (S 7 0) S (S 22) q := by
    unfold hA3
    rw [driftA_ext (POK_one hn h1 g1)]
  rw [h2, g2]
  unfold hA4
  rw [a3]
/-- how many lashings -/
def cntT (T : Nat → Int32) : Nat := ns (fun q => if decide (0 < T q) = true then 1 else 0) 576
theorem lq_foresee (hB : RelB S n k w m r κ) (e : EK S S1) : ∃ A' B, HR n w S A' B ∧ cntT (A' 69) ≤ 48 ∧ (∃ S2, op_foresee S1 1 0 = some (fs (fun j => if A' 19 j = 0 then 1 else 0) n, S2) ∧ EK S S2) ∧ (∃ S2, op_foresee S1 1 1 = some (fs (fun c => if A' 25 c = 2 then 1 else 0) k, S2) ∧ EK S S2) ∧ ∃ S2, op_foresee S1 1 3 = some (nI (cntT (A' 69)), S2) ∧ EK S S2 := by
  have hB1 := RelB_ext hB e
  have hC := RB_CR hB
  obtain ⟨⟨s1, s2, s3, s4, s5, s6, s7⟩, ⟨w1, w2⟩, ⟨t1, t2, t3, t4, t5⟩, hW, hR, hS, hP, hQ, hc, hz, hK⟩ := hB
  have hn := hW.1
  have hk := hW.2.1
  have s1' : S 23 0 = nI n := s1
  have s3' : S 26 0 = nI k := s3
  have s5' : S 5 0 = nI w := s5
  have s7' : S 31 0 = nI m := s7
  obtain ⟨co', ro', li', lk', wa', go', pe', st', x', y', p', se', ks', f', s', t', u', f1, gC, gP, gQ⟩ := c_copy (co := S 12) (ro := S 13) (ho := S 10 0) (br := S 11 0) hn hk hC hP hQ (S1 34 0) (S1 35 0) (S1 47 0) (S1 50 0) (S1 55 0) (S1 36) (S1 37) (S1 38) (S1 39) (S1 40) (S1 41) (S1 42) (S1 43) (S1 44) (S1 45) (S1 46) (S1 48) (S1 49) (S1 51) (S1 52) (S1 53) (S1 54)
  obtain ⟨A', B, pl2, pd2, wa2, go2, pe2, st2, x2, y2, p2, se2, ks2, m2, qf2, qs2, qt2, qu2, κ2, f2, hH, hC2, hP2, hm2, hQ2⟩ := c_passHours (wx := S 6 0) (wy := S 7 0) (ho := S 10 0) (br := S 11 0) (pl := S1 32) (pd := S1 33) (hh := 1) hS (by omega) hW gC gP gQ
  have em : cntT (A' 69) = m2 := (enu_tot hQ2.2.1).symm
  have head : ∀ W : Int32, jX6_isBelow W 4 = some 1 → jX6_foresee (S1 5 0) (S1 6 0) (S1 7 0) (S1 1) (S1 2) (S1 3) (S1 4) (S1 10 0) (S1 11 0) (S1 23 0) (S1 12) (S1 13) (S1 14) (S1 15) (S1 16) (S1 17) (S1 18) (S1 19) (S1 20) (S1 21) (S1 22) (S1 26 0) (S1 24) (S1 25) (S1 31 0) (S1 27) (S1 28) (S1 29) (S1 30) (S1 34 0) (S1 35 0) (S1 32) (S1 33) (S1 47 0) (S1 36) (S1 37) (S1 38) (S1 39) (S1 40) (S1 41) (S1 42) (S1 43) (S1 44) (S1 45) (S1 46) (S1 50 0) (S1 48) (S1 49) (S1 55 0) (S1 51) (S1 52) (S1 53) (S1 54) 1 W = (if W = 0 then bnd (jX0_countOf (nI n) st2 0) (fun r4 => some (.inr (r4, S 10 0 + nI 1, S 11 0 + B, pl2, pd2, nI n, co', ro', li', lk', wa2, go2, pe2, st2, x2, y2, p2, nI k, se2, ks2, nI m2, qf2, qs2, qt2, qu2))) else (if W = 1 then bnd (jX1_countOf (nI k) ks2 2) (fun r4 => some (.inr (r4, S 10 0 + nI 1, S 11 0 + B, pl2, pd2, nI n, co', ro', li', lk', wa2, go2, pe2, st2, x2, y2, p2, nI k, se2, ks2, nI m2, qf2, qs2, qt2, qu2))) else (if W = 2 then bnd (jX0_pieces (nI n) p2) (fun r4 => some (.inr (r4, S 10 0 + nI 1, S 11 0 + B, pl2, pd2, nI n, co', ro', li', lk', wa2, go2, pe2, st2, x2, y2, p2, nI k, se2, ks2, nI m2, qf2, qs2, qt2, qu2))) else some (.inr (nI m2, S 10 0 + nI 1, S 11 0 + B, pl2, pd2, nI n, co', ro', li', lk', wa2, go2, pe2, st2, x2, y2, p2, nI k, se2, ks2, nI m2, qf2, qs2, qt2, qu2))))) := fun W hw => by
    unfold jX6_foresee
    rw [if_neg (show ¬ (1 : Int32) < 1 by decide), if_pos (show (1 : Int32) ≤ 100 by decide), hw, bnd_n, if_neg one_ne, e 1 rfl, e 2 rfl, e 3 rfl, e 4 rfl, e 5 rfl, e 6 rfl, e 7 rfl, e 10 rfl, e 11 rfl, e 12 rfl, e 13 rfl, e 14 rfl, e 15 rfl, e 16 rfl, e 17 rfl, e 18 rfl, e 19 rfl, e 20 rfl, e 21 rfl, e 22 rfl, e 23 rfl, e 24 rfl, e 25 rfl, e 26 rfl, e 27 rfl, e 28 rfl, e 29 rfl, e 30 rfl, e 31 rfl, s1', s3', s5', s7']
    refine (bnd_i f1 (bnd_i f2 rfl))
  refine ⟨A', B, HR_of hW hP hH, by rw [em]; exact hQ2.1, ?_, ?_, ?_⟩
  · obtain ⟨S2, h2, h3⟩ := oy_foresee (RB_rel hB1) ((head 0 (c_below (j := 0) (c := 4) (by omega) (by omega))).trans (by rw [if_pos rfl, c_countOf hn, bnd_n]))
    refine ⟨S2, ?_, EK_t e h3⟩
    rw [h2]
    dsimp only
    rw [fs_congr fun j hj => by rw [show st2 j = A' 19 j from (hC2.1 j hj).2.2.2.2.2.1]]
  · obtain ⟨S2, h2, h3⟩ := oy_foresee (RB_rel hB1) ((head 1 (c_below (j := 1) (c := 4) (by omega) (by omega))).trans (by rw [if_neg (by decide), if_pos rfl, c_kcount hk, bnd_n]))
    refine ⟨S2, ?_, EK_t e h3⟩
    rw [h2]
    dsimp only
    rw [fs_congr fun j hj => by rw [show ks2 j = A' 25 j from (hC2.2.1 j hj).2]]
  · obtain ⟨S2, h2, h3⟩ := oy_foresee (RB_rel hB1) ((head 3 (c_below (j := 3) (c := 4) (by omega) (by omega))).trans (by rw [if_neg (by decide), if_neg (by decide), if_neg (by decide)]))
    exact ⟨S2, by rw [h2, em], EK_t e h3⟩
/-- the keys that an hour leaves -/
def kho (j : Nat) : Bool := decide (j ∈ [0, 1, 2, 3, 4, 5, 6, 7, 12, 13, 14, 15, 23, 26, 61, 62, 63, 64, 65, 66, 67])
theorem lq_pass (hB : RelB S n k w m r κ) (e : EK S S1) : ∃ A' B S2 m2 κ2, HR n w S A' B ∧ op_pass S1 1 = some (B, S2) ∧ RelB S2 n k w m2 r κ2 ∧ AE n k A' S2 ∧ m2 = cntT (A' 69) ∧ S2 10 0 = S 10 0 + 1 ∧ S2 11 0 = S 11 0 + B ∧ S2 12 = S 12 ∧ S2 13 = S 13 ∧ S2 62 = S 62 ∧ S2 6 = S 6 ∧ S2 7 = S 7 := by
  have hB1 := RelB_ext hB e
  have hC := RB_CR hB
  obtain ⟨⟨s1, s2, s3, s4, s5, s6, s7⟩, ⟨w1, w2⟩, ⟨t1, t2, t3, t4, t5⟩, hW, hR, hS, hP, hQ, hc, hz, hK⟩ := hB
  have hn := hW.1
  have hk := hW.2.1
  have hw8 := hS.1.1
  have s1' : S 23 0 = nI n := s1
  have s3' : S 26 0 = nI k := s3
  have s5' : S 5 0 = nI w := s5
  have s7' : S 31 0 = nI m := s7
  obtain ⟨A', B, pl', pd', wa', go', pe', st', x', y', p', se', ks', m', qf', qs', qt', qu', κ', f1, hH, hC', hP', hm', hQ'⟩ := c_passHours (wx := S 6 0) (wy := S 7 0) (ho := S 10 0) (br := S 11 0) (pl := S1 8) (pd := S1 9) (hh := 1) hS (by omega) hW hC hP hQ
  have e1 : jX6_pass (S1 5 0) (S1 6 0) (S1 7 0) (S1 1) (S1 2) (S1 3) (S1 4) (S1 10 0) (S1 11 0) (S1 8) (S1 9) (S1 23 0) (S1 14) (S1 15) (S1 16) (S1 17) (S1 18) (S1 19) (S1 20) (S1 21) (S1 22) (S1 26 0) (S1 24) (S1 25) (S1 31 0) (S1 27) (S1 28) (S1 29) (S1 30) 1 = some (.inr (S 11 0 + B - S 11 0, S 10 0 + nI 1, S 11 0 + B, pl', pd', wa', go', pe', st', x', y', p', se', ks', nI m', qf', qs', qt', qu')) := by
    unfold jX6_pass
    rw [if_neg (show ¬ (1 : Int32) < 1 by decide), if_pos (show (1 : Int32) ≤ 100 by decide), e 1 rfl, e 2 rfl, e 3 rfl, e 4 rfl, e 5 rfl, e 6 rfl, e 7 rfl, e 10 rfl, e 11 rfl, e 14 rfl, e 15 rfl, e 16 rfl, e 17 rfl, e 18 rfl, e 19 rfl, e 20 rfl, e 21 rfl, e 22 rfl, e 23 rfl, e 24 rfl, e 25 rfl, e 26 rfl, e 27 rfl, e 28 rfl, e 29 rfl, e 30 rfl, e 31 rfl, s1', s3', s5', s7']
    refine bnd_i f1 rfl
  obtain ⟨q', -, h2, h3⟩ := ox_pass (RB_rel hB1) e1
  dsimp only at h2 h3
  have eB : S 11 0 + B - S 11 0 = B := by grind
  rw [eB] at h2
  obtain ⟨m2, r2, κ2, hB2⟩ := RB_fix h3 ((congrFun (e 23 rfl) 0).trans s1') hn ((congrFun (e 26 rfl) 0).trans s3') hk ((congrFun (e 5 rfl) 0).trans s5') hw8
  have er : r2 = r := by
    have h4 := hB2.2.2.1
    have b1 := h4.2.2.2.2
    exact (nI_eq (by omega) (by omega)).mp (h4.2.1.symm.trans ((congrFun (e 0 rfl) 0).trans t2))
  rw [er] at hB2
  have hm2 := hB2.1.2.2.2.2.2.2
  obtain ⟨z1, z2, z3⟩ := QOK_one (n := n) (st := A' kB_state) hQ' hB2.2.2.2.2.2.2.2.1 hm2 (WA_Hrs hS.1 hW hH).2.2.2.2.1 hB2.2.2.2.1.2.2.2.2.1
  refine ⟨A', B, _, m2, κ2, HR_of hW hP hH, h2, hB2, ⟨fun j hj => ?_, hC'.2.1, z2, z3⟩, ?_, rfl, rfl, e 12 rfl, e 13 rfl, e 62 rfl, e 6 rfl, e 7 rfl⟩
  · obtain ⟨c1, c2, c3, c4, c5, c6, c7, c8⟩ := hC'.1 j hj
    exact ⟨(congrFun (e 14 rfl) j).trans c1, (congrFun (e 15 rfl) j).trans c2, c3, c4, c5, c6, c7, c8⟩
  · rw [← z1]
    exact enu_tot hQ'.2.1
end Hour
