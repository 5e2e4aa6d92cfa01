/-! waters, barrels and castaways come -/
section Made
variable {S : Nat → Nat → Int32} {n k w m r : Nat} {κ : Nat → Nat}
theorem lq_addWater (hB : RelB S n k w m r κ) (hw8 : w < 8) {x y wd dp wv : Nat} {a5 a6 : Int32} (hwd1 : 1 ≤ wd) (hdp1 : 1 ≤ dp) (hwd2 : x + wd ≤ 30) (hdp2 : y + dp ≤ 20) (hwv2 : wv ≤ 20) (h5 : ¬ a5 < -2) (h5' : ¬ 2 < a5) (h6 : ¬ a6 < -2) (h6' : ¬ 2 < a6) :
    ∃ S2 m2 κ2, op_addWater S (nI x) (nI y) (nI wd) (nI dp) a5 a6 (nI wv) = some (nI w, S2) ∧ RelB S2 n k (w + 1) m2 r κ2 ∧ (S2 62 = fun q => if 7 * w ≤ q ∧ q < 7 * w + 7 then upd (upd (upd (upd (upd (upd (upd (fun _ => 0) 0 (nI x)) 1 (nI y)) 2 (nI wd)) 3 (nI dp)) 4 a5) 5 a6) 6 (nI wv) (q - 7 * w) else S 62 q) ∧ S2 6 = S 6 ∧ S2 7 = S 7 ∧ S2 10 = S 10 := by
  have s5 : S 5 0 = nI w := hB.1.2.2.2.2.1
  have s6 : S 61 0 = nI w := hB.1.2.2.2.2.2.1
  have e1 : jX6_isSea (nI x) (nI y) = some 1 := c_isSea (by omega) (by omega)
  have e2 : jX7_isIn (nI x) 0 29 = some 1 := by
    rw [r_isIn, if_neg (n_neg (by omega)), if_neg (show ¬ (29 : Int32) < nI x from fun q => by have := (nI_ltI (a := 29) (by omega) (by omega)).mp q; omega)]
  have e3 : jX7_isIn (nI y) 0 19 = some 1 := by
    rw [r_isIn, if_neg (n_neg (by omega)), if_neg (show ¬ (19 : Int32) < nI y from fun q => by have := (nI_ltI (a := 19) (by omega) (by omega)).mp q; omega)]
  have c1 : ¬ nI wd < 1 := fun q => by have := (nI_ltI (b := 1) (by omega) (by omega)).mp q; omega
  have c2 : (1 : Int32) ≤ nI dp := (nI_leI (a := 1) (by omega) (by omega)).mpr hdp1
  have c2' : ¬ nI dp < 1 := Int32.not_lt.mpr c2
  have c3 : ¬ 30 - nI x < nI wd := by
    rw [show (30 : Int32) = nI 30 from rfl, pk_sub (by omega)]
    exact fun q => by have := (nI_ltI (by omega) (by omega)).mp q; omega
  have c4 : nI dp ≤ 20 - nI y := by
    rw [show (20 : Int32) = nI 20 from rfl, pk_sub (by omega)]
    exact (nI_leI (by omega) (by omega)).mpr (by omega)
  have c4' : ¬ 20 - nI y < nI dp := Int32.not_lt.mpr c4
  have d1 : jX6_isFlow a5 = some 1 := by unfold jX6_isFlow; rw [if_neg h5, if_neg h5', chkZ_b]
  have d2 : jX7_isIn a5 (-2) 2 = some 1 := by rw [r_isIn, if_neg h5, if_neg h5']
  have d3 : jX6_isFlow a6 = some 1 := by unfold jX6_isFlow; rw [if_neg h6, if_neg h6', chkZ_b]
  have d4 : jX7_isIn a6 (-2) 2 = some 1 := by rw [r_isIn, if_neg h6, if_neg h6']
  have c7 : ¬ nI wv < 0 := n_neg (by omega)
  have c8 : nI wv ≤ 20 := (nI_leI (b := 20) (by omega) (by omega)).mpr hwv2
  have c8' : ¬ 20 < nI wv := Int32.not_lt.mpr c8
  have c9 : ¬ w = 8 := by omega
  have hcov := c_cover (w := w) (C := S 4) (by omega) hwd2 hdp2
  have g1 : jX6_addWater (S 5 0) (S 1) (S 2) (S 3) (S 4) (nI x) (nI y) (nI wd) (nI dp) a5 a6 (nI wv) = some (.inr (nI w, nI (w + 1), upd (S 1) w a5, upd (S 2) w a6, upd (S 3) w (nI wv), fun q => if y ≤ q / 30 ∧ q / 30 < y + dp ∧ x ≤ q % 30 ∧ q % 30 < x + wd then nI w else S 4 q)) := by
    unfold jX6_addWater jX4_append
    rw [e1, bnd_n, if_neg one_ne, if_neg c1, if_pos c2, if_neg c3, if_pos c4, d1, bnd_n, if_neg one_ne, d3, bnd_n, if_neg one_ne, if_neg c7, if_pos c8, show S 5 0 = nI w from s5, if_pos (show nI w < 8 from (nI_ltI (b := 8) (by omega) (by omega)).mpr (by omega)), hcov, bnd_n, if_neg (show ¬ (8 : Int32) ≤ nI w from fun z => by have := (nI_leI (a := 8) (by omega) (by omega)).mp z; omega), chk_n (by omega) (by omega), chk_n (by omega) (by omega), chk_n (by omega) (by omega), bnd_n, wr_n (by omega), wr_n (by omega), wr_n (by omega), nI_1]
  have g2 : jX7_addWater (S 60 0) (S 61 0) (S 62) (nI x) (nI y) (nI wd) (nI dp) a5 a6 (nI wv) = some (nI w, 0, nI (w + 1), fun q => if 7 * w ≤ q ∧ q < 7 * w + 7 then upd (upd (upd (upd (upd (upd (upd (fun _ => 0) 0 (nI x)) 1 (nI y)) 2 (nI wd)) 3 (nI dp)) 4 a5) 5 a6) 6 (nI wv) (q - 7 * w) else S 62 q) := by
    unfold jX7_addWater
    rw [e2, bnd_n, if_neg one_ne, e3, bnd_n, if_neg one_ne, r_isIn (a := nI wd), if_neg c1, if_neg c3, bnd_n, if_neg one_ne, r_isIn (a := nI dp), if_neg c2', if_neg c4', bnd_n, if_neg one_ne, d2, bnd_n, if_neg one_ne, d4, bnd_n, if_neg one_ne, r_isIn (a := nI wv), if_neg c7, if_neg c8', bnd_n, if_neg one_ne, show S 61 0 = nI w from s6, if_neg (show ¬ nI w = 8 from fun z => c9 ((nI_eq (b := 8) (by omega) (by omega)).mp z))]
    have cl : ∀ i : Int32, inB i 7 = true → ∀ {α : Type} {o : Option α}, chk 7 i o = o := fun i hi {α} {o} => if_pos hi
    rw [cl 0 (by decide), cl 1 (by decide), cl 2 (by decide), cl 3 (by decide), cl 4 (by decide), cl 5 (by decide), cl 6 (by decide), show (7 : Int32) * nI w = nI (7 * w) from pk_mul 7 w, chkP_n, show cpy (wr (wr (wr (wr (wr (wr (wr (fun _ => 0) 0 (nI x)) 1 (nI y)) 2 (nI wd)) 3 (nI dp)) 4 a5) 5 a6) 6 (nI wv)) (S 62) 0 (nI (7 * w)) 7 = _ from cpy_n (c := 7) (by omega) (by omega), nI_1, nI_pred]
    · rfl
    · refine ⟨by decide, n_neg (by omega), by decide, by decide, ?_⟩
      rw [clamp_n (by omega)]
      show 7 * w + 7 ≤ 56
      omega
  obtain ⟨q', k1, k2, k3⟩ := ox_addWater (RB_rel hB) g1
  rw [g2] at k1
  have k1 := Option.some.inj k1
  rw [← k1] at k2 k3
  dsimp only at k2 k3
  obtain ⟨m2, r2, κ2, hB2⟩ := RB_fix (n := n) (k := k) (w := w + 1) k3 hB.1.1 hB.2.2.2.1.1 hB.1.2.2.1 hB.2.2.2.1.2.1 rfl (by omega)
  have b1 := hB2.2.2.1.2.2.2.2
  have b2 := hB.2.2.1.2.2.2.2
  have er : r2 = r := (nI_eq (by omega) (by omega)).mp (hB2.2.2.1.2.1.symm.trans hB.2.2.1.2.1)
  rw [er] at hB2
  exact ⟨_, m2, κ2, k2, hB2, rfl, rfl, rfl, rfl⟩
theorem lq_addBarrel (hB : RelB S n k w m r κ) (hn : n < 24) {a1 a2 a3 a4 : Nat} (h1 : a1 < 8) (h2 : a2 < 8) (h3 : 1 ≤ a3) (h3' : a3 ≤ 40) (h4 : a4 ≤ 9) (hfree : ∀ j, j < n → ¬ (S 12 j = nI a1 ∧ S 13 j = nI a2)) (hfl : ∀ j, j < n → S 19 j = 0 ∧ S 20 j = 0 ∧ S 21 j = 10) :
    ∃ S2 m2 κ2, op_addBarrel S (nI a1) (nI a2) (nI a3) (nI a4) = some (nI n, S2) ∧ RelB S2 (n + 1) k w m2 r κ2 ∧ S2 12 = upd (S 12) n (nI a1) ∧ S2 13 = upd (S 13) n (nI a2) ∧ S2 14 = upd (S 14) n (nI a3) ∧ S2 15 = upd (S 15) n (nI a4) ∧ S2 20 = upd (S 20) n 0 ∧ S2 21 = upd (S 21) n 10 ∧ ∀ j, j ∈ [6, 7, 10, 16, 17, 19, 62] → S2 j = S j := by
  have s1 : S 23 0 = nI n := hB.1.1
  obtain ⟨rl, l1, l2⟩ := c_lies (n := n) (co := S 12) (ro := S 13) (a := nI a1) (b := nI a2) (by omega)
  have hl : jX0_liesAt (nI n) (S 12) (S 13) (nI a1) (nI a2) = some 0 := by
    rcases l2 with ⟨-, j, hj, z1, z2⟩ | ⟨rfl, -⟩
    · exact absurd ⟨z1, z2⟩ (hfree j hj)
    · exact l1
  have happ : jX0_append (nI n) (S 12) (S 13) (S 14) (S 15) (S 19) (S 20) (S 21) (S 22) (nI a1) (nI a2) (nI a3) (nI a4) = some (nI n, nI (n + 1), upd (S 12) n (nI a1), upd (S 13) n (nI a2), upd (S 14) n (nI a3), upd (S 15) n (nI a4), upd (S 20) n 0, upd (S 21) n 10, upd (S 22) n (nI n)) := by
    unfold jX0_append
    rw [if_neg (show ¬ (24 : Int32) ≤ nI n from fun z => by have := (nI_leI (a := 24) (by omega) (by omega)).mp z; omega), c_firstAfloat (by omega), bnd_n]
    have fin : ∀ fi : Int32, ((fi = -1) ∨ (fi = nI 0 ∧ 0 < n)) → jn (fun (x41 : Int32) => chk 24 (nI n) (jn (fun (x65 : Int32) => chk 24 (nI n) (chk 24 (nI n) (chk 24 (nI n) (chk 24 (nI n) (chk 24 (nI n) (chk 24 (nI n) (some (nI n, nI n + 1, wr (S 12) (nI n) (nI a1), wr (S 13) (nI n) (nI a2), wr (S 14) (nI n) (nI a3), wr (S 15) (nI n) (nI a4), wr (S 20) (nI n) x41, wr (S 21) (nI n) x65, wr (S 22) (nI n) (nI n))))))))) (fun k65 => if fi < 0 then k65 10 else chk 24 fi (k65 (rd (S 21) fi))))) (fun k41 => if fi < 0 then k41 0 else chk 24 fi (k41 (rd (S 20) fi))) = some (nI n, nI (n + 1), upd (S 12) n (nI a1), upd (S 13) n (nI a2), upd (S 14) n (nI a3), upd (S 15) n (nI a4), upd (S 20) n 0, upd (S 21) n 10, upd (S 22) n (nI n)) := fun fi hfi => by
      have q1 : ∀ kk : Int32 → Option (Int32 × Int32 × (Nat → Int32) × (Nat → Int32) × (Nat → Int32) × (Nat → Int32) × (Nat → Int32) × (Nat → Int32) × (Nat → Int32)), (if fi < 0 then kk 0 else chk 24 fi (kk (rd (S 20) fi))) = kk 0 := fun kk => by
        rcases hfi with rfl | ⟨rfl, h0⟩
        · exact if_pos m1_neg
        · rw [if_neg (n_neg (by omega)), chk_n (by omega) (by omega), rd_n (by omega), (hfl 0 h0).2.1]
      have q2 : ∀ kk : Int32 → Option (Int32 × Int32 × (Nat → Int32) × (Nat → Int32) × (Nat → Int32) × (Nat → Int32) × (Nat → Int32) × (Nat → Int32) × (Nat → Int32)), (if fi < 0 then kk 10 else chk 24 fi (kk (rd (S 21) fi))) = kk 10 := fun kk => by
        rcases hfi with rfl | ⟨rfl, h0⟩
        · exact if_pos m1_neg
        · rw [if_neg (n_neg (by omega)), chk_n (by omega) (by omega), rd_n (by omega), (hfl 0 h0).2.2]
      refine (jn_to q1).trans ?_
      try dsimp only
      rw [chk_n (by omega) (by omega)]
      refine (jn_to q2).trans ?_
      try dsimp only
      rw [chk_n (by omega) (by omega), chk_n (by omega) (by omega), chk_n (by omega) (by omega), chk_n (by omega) (by omega), chk_n (by omega) (by omega), chk_n (by omega) (by omega), nI_1]
      simp (disch := omega) only [wr_n]
    cases n with
    | zero => exact fin (-1) (Or.inl rfl)
    | succ n' =>
      have : fst0 (S 19) (n' + 1) 0 = some 0 := by rw [fst0, if_pos (hfl 0 (by omega)).1]
      rw [this]
      exact fin (nI 0) (Or.inr ⟨rfl, by omega⟩)
  have e1 : jX6_addBarrel (S 23 0) (S 12) (S 13) (S 14) (S 15) (S 19) (S 20) (S 21) (S 22) (nI a1) (nI a2) (nI a3) (nI a4) = some (Sum.inr (nI n, nI (n + 1), upd (S 12) n (nI a1), upd (S 13) n (nI a2), upd (S 14) n (nI a3), upd (S 15) n (nI a4), upd (S 20) n 0, upd (S 21) n 10, upd (S 22) n (nI n))) := by
    unfold jX6_addBarrel
    rw [s1, show jX6_isBelow (nI a1) 8 = some 1 from c_below (c := 8) h1 (by omega), bnd_n, if_neg one_ne, show jX6_isBelow (nI a2) 8 = some 1 from c_below (c := 8) h2 (by omega), bnd_n, if_neg one_ne, if_neg (show ¬ nI a3 < 1 from fun z => by have := (nI_ltI (b := 1) (by omega) (by omega)).mp z; omega), if_neg (show ¬ (40 : Int32) < nI a3 from fun z => by have := (nI_ltI (a := 40) (by omega) (by omega)).mp z; omega), if_neg (n_neg (by omega)), if_pos (show nI a4 ≤ 9 from (nI_leI (b := 9) (by omega) (by omega)).mpr h4), hl, bnd_n, if_pos rfl, if_pos (show nI n < 24 from (nI_ltI (b := 24) (by omega) (by omega)).mpr hn), happ, bnd_n]
  obtain ⟨q', -, k2, k3⟩ := ox_addBarrel (RB_rel hB) e1
  dsimp only at k2 k3
  obtain ⟨m2, r2, κ2, hB2⟩ := RB_fix (n := n + 1) (k := k) (w := w) k3 rfl (by omega) hB.1.2.2.1 hB.2.2.2.1.2.1 hB.1.2.2.2.2.1 hB.2.2.2.2.2.1.1.1
  have b1 := hB2.2.2.1.2.2.2.2
  have b2 := hB.2.2.1.2.2.2.2
  have er : r2 = r := (nI_eq (by omega) (by omega)).mp (hB2.2.2.1.2.1.symm.trans hB.2.2.1.2.1)
  rw [er] at hB2
  exact ⟨_, m2, κ2, k2, hB2, rfl, rfl, rfl, rfl, rfl, rfl, fun j hj => by
    simp only [List.mem_cons, List.not_mem_nil, or_false] at hj
    rcases hj with rfl | rfl | rfl | rfl | rfl | rfl | rfl <;> rfl⟩
theorem lq_addCastaway (hB : RelB S n k w m r κ) (hk8 : k < 8) {b : Nat} (hb : b < n) (h0 : S 19 b = 0) : ∃ S2 m2 κ2, op_addCastaway S (nI b) = some (nI k, S2) ∧ RelB S2 n (k + 1) w m2 r κ2 ∧ S2 24 = upd (S 24) k (nI b) ∧ S2 25 = upd (S 25) k 0 ∧ ∀ j, j ∈ [6, 7, 10, 12, 13, 14, 15, 16, 17, 19, 20, 21, 62, 69, 70] → S2 j = S j := by
  have hn : n ≤ 24 := hB.2.2.2.1.1
  have e1 : ∃ pe, jX6_addCastaway (S 23 0) (S 18) (S 19) (S 26 0) (S 24) (S 25) (nI b) = some (Sum.inr (nI k, pe, nI (k + 1), upd (S 24) k (nI b), upd (S 25) k 0)) := by
    refine ⟨upd (S 18) b (S 18 b + 1), ?_⟩
    unfold jX6_addCastaway jX1_append
    rw [show S 23 0 = nI n from hB.1.1, show S 26 0 = nI k from hB.1.2.2.1, c_has (by omega) (by omega), if_pos hb, bnd_n, if_neg one_ne, c_floats hn hb, if_pos h0, bnd_n, if_neg one_ne, if_pos (show nI k < 8 from (nI_ltI (b := 8) (by omega) (by omega)).mpr hk8), chk_n (by omega) (by omega), chk_n (by omega) (by omega), if_neg (show ¬ (8 : Int32) ≤ nI k from fun z => by have := (nI_leI (a := 8) (by omega) (by omega)).mp z; omega), chk_n (by omega) (by omega), chk_n (by omega) (by omega), bnd_n, rd_n (by omega), wr_n (by omega), wr_n (by omega), wr_n (by omega), nI_1]
  obtain ⟨pe, e1⟩ := e1
  obtain ⟨q', -, k2, k3⟩ := ox_addCastaway (RB_rel hB) e1
  dsimp only at k2 k3
  obtain ⟨m2, r2, κ2, hB2⟩ := RB_fix (n := n) (k := k + 1) (w := w) k3 hB.1.1 hn rfl (by omega) hB.1.2.2.2.2.1 hB.2.2.2.2.2.1.1.1
  have b1 := hB2.2.2.1.2.2.2.2
  have b2 := hB.2.2.1.2.2.2.2
  have er : r2 = r := (nI_eq (by omega) (by omega)).mp (hB2.2.2.1.2.1.symm.trans hB.2.2.1.2.1)
  rw [er] at hB2
  exact ⟨_, m2, κ2, k2, hB2, rfl, rfl, fun j hj => by
    simp only [List.mem_cons, List.not_mem_nil, or_false] at hj
    rcases hj with rfl | rfl | rfl | rfl | rfl | rfl | rfl | rfl | rfl | rfl | rfl | rfl | rfl | rfl | rfl <;> rfl⟩
end Made
