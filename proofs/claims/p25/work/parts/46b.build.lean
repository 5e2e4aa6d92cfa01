/-! the raft that cells choose -/
theorem row7_at {a b c d e f g : Int32} : ∀ i, i < 7 → (wr (wr (wr (wr (wr (wr (wr (fun _ => 0) 0 a) 1 b) 2 c) 3 d) 4 e) 5 f) 6 g) i = upd (upd (upd (upd (upd (upd (upd (fun _ => 0) 0 a) 1 b) 2 c) 3 d) 4 e) 5 f) 6 g i := fun i _ => by
  rw [wr0, wr1, wr2, wr3, wr4, wr5, wr6]
theorem mod_n {j d : Nat} (hj : j < 2 ^ 31) (h0 : 0 < d) (hd : d < 2 ^ 31) {x : Int32} (hx : x = nI d) : nI j - nI j / x * x = nI (j % d) := by
  rw [hx, pk_rem hj h0 hd]
theorem sub_1 : ∀ u, u < 3 → ¬ (nI u - 1 < -2) ∧ ¬ (2 < nI u - 1) := by decide +kernel
theorem add_1 : ∀ u, u < 2 → ¬ (1 + nI u < -2) ∧ ¬ (2 < 1 + nI u) := by decide +kernel
/-- a water that a number chooses is one that can come -/
theorem y_row7 {τ : Type} (X : Int32) {j c d V : Nat} (hc : c < 30) (hd : d < 20) (hV : V = 21 ∨ V = 6) : ∃ (f : Nat → Int32) (x y wd dp wv : Nat) (a5 a6 : Int32),
    (∀ kk : (Nat → Int32) → Option τ, (if nI j = 0 then kk (wr (wr (wr (wr (wr (wr (wr (fun _ => 0) 0 0) 1 0) 2 30) 3 20) 4 (1 + (bl X 2))) 5 ((bl (shr5 X 3) 3) - 1)) 6 (bl (shr5 X 5) 9)) else kk (wr (wr (wr (wr (wr (wr (wr (fun _ => 0) 0 (nI c)) 1 (nI d)) 2 (1 + (bl (shr5 X 3) (30 - nI c)))) 3 (1 + (bl (shr5 X 4) (20 - nI d)))) 4 ((bl (shr5 X 5) 5) - 2)) 5 ((bl (shr5 X 6) 5) - 2)) 6 (bl (shr5 X 1) (nI V)))) = kk f)
    ∧ (∀ i, i < 7 → f i = upd (upd (upd (upd (upd (upd (upd (fun _ => 0) 0 (nI x)) 1 (nI y)) 2 (nI wd)) 3 (nI dp)) 4 a5) 5 a6) 6 (nI wv) i)
    ∧ 1 ≤ wd ∧ 1 ≤ dp ∧ x + wd ≤ 30 ∧ y + dp ≤ 20 ∧ wv ≤ 20 ∧ ¬ a5 < -2 ∧ ¬ 2 < a5 ∧ ¬ a6 < -2 ∧ ¬ 2 < a6 := by
  by_cases z : nI j = 0
  · obtain ⟨v1, h1, e1⟩ := bl_n X (N := 2) (by omega) (by omega)
    obtain ⟨v2, h2, e2⟩ := bl_n (shr5 X 3) (N := 3) (by omega) (by omega)
    obtain ⟨v3, h3, e3⟩ := bl_n (shr5 X 5) (N := 9) (by omega) (by omega)
    have e1' : bl X 2 = nI v1 := e1
    have e2' : bl (shr5 X 3) 3 = nI v2 := e2
    have e3' : bl (shr5 X 5) 9 = nI v3 := e3
    obtain ⟨a1, a2⟩ := add_1 v1 h1
    obtain ⟨b1, b2⟩ := sub_1 v2 h2
    refine ⟨wr (wr (wr (wr (wr (wr (wr (fun _ => 0) 0 (nI 0)) 1 (nI 0)) 2 (nI 30)) 3 (nI 20)) 4 (1 + nI v1)) 5 (nI v2 - 1)) 6 (nI v3), 0, 0, 30, 20, v3, 1 + nI v1, nI v2 - 1, fun kk => ?_, row7_at, by omega, by omega, by omega, by omega, by omega, a1, a2, b1, b2⟩
    rw [if_pos z, e1', e2', e3']
    rfl
  · obtain ⟨v2, h2, e2⟩ := bl_n (shr5 X 3) (N := 30 - c) (by omega) (by omega)
    obtain ⟨v3, h3, e3⟩ := bl_n (shr5 X 4) (N := 20 - d) (by omega) (by omega)
    obtain ⟨v4, h4, e4⟩ := bl_n (shr5 X 5) (N := 5) (by omega) (by omega)
    obtain ⟨v5, h5, e5⟩ := bl_n (shr5 X 6) (N := 5) (by omega) (by omega)
    obtain ⟨v6, h6, e6⟩ := bl_n (shr5 X 1) (N := V) (by omega) (by omega)
    have e4' : bl (shr5 X 5) 5 = nI v4 := e4
    have e5' : bl (shr5 X 6) 5 = nI v5 := e5
    have s30 : (30 : Int32) - nI c = nI (30 - c) := by rw [show (30 : Int32) = nI 30 from rfl, pk_sub (by omega)]
    have s20 : (20 : Int32) - nI d = nI (20 - d) := by rw [show (20 : Int32) = nI 20 from rfl, pk_sub (by omega)]
    have p1 : ∀ v, (1 : Int32) + nI v = nI (v + 1) := fun v => by rw [Int32.add_comm, nI_1]
    obtain ⟨a1, a2⟩ := flow_n v4 h4
    obtain ⟨b1, b2⟩ := flow_n v5 h5
    refine ⟨wr (wr (wr (wr (wr (wr (wr (fun _ => 0) 0 (nI c)) 1 (nI d)) 2 (nI (v2 + 1))) 3 (nI (v3 + 1))) 4 (nI v4 - 2)) 5 (nI v5 - 2)) 6 (nI v6), c, d, v2 + 1, v3 + 1, v6, nI v4 - 2, nI v5 - 2, fun kk => ?_, row7_at, by omega, by omega, by omega, by omega, by omega, a1, a2, b1, b2⟩
    rw [if_neg z, s30, s20, e2, e3, e4', e5', e6, p1, p1]
section Build
variable {S : Nat → Nat → Int32} {L : Nat} {xs : Nat → Int32}
/-- ahead of barrels -/
def B0 (w : Nat) (S : Nat → Nat → Int32) (wF : Nat → Nat → Int32) : Prop := (∃ m κ, RelB S 0 0 w m 10 κ) ∧ SW w (S 62) wF ∧ S 6 0 = 0 ∧ S 7 0 = 0 ∧ S 10 0 = 0
theorem b_waters (h : B0 0 S (fun _ _ => 0)) {N : Nat} (hN : N ≤ 8) : ∃ r, jL_build_L23 L xs N 0 S 0 (fun _ _ => 0) = some r ∧ (r.2.1 = N ∧ B0 N r.1 r.2.2) := by
  refine itN0 (s0 := (S, (0 : Nat), (fun _ _ => 0 : Nat → Nat → Int32))) (fun f j (s : (Nat → Nat → Int32) × Nat × (Nat → Nat → Int32)) => jL_build_L23 L xs f j s.1 s.2.1 s.2.2) N (fun j s => s.2.1 = j ∧ B0 j s.1 s.2.2) _ ⟨rfl, h⟩ (fun s hs => ⟨s, rfl, hs⟩) (fun f j s hj hs => ?_)
  obtain ⟨Sx, nW, wF⟩ := s
  obtain ⟨ej, ⟨m, κ, hB⟩, hw, e6, e7, e10⟩ := hs
  dsimp only at ej hB hw e6 e7 e10 ⊢
  subst ej
  rw [jL_build_L23, mod_n (d := 3) (x := 3) (by omega) (by omega) (by omega) rfl, chkP_n (show ¬ (1 + nI (nW % 3)) < 0 by rw [Int32.add_comm, nI_1]; exact n_neg (by omega))]
  generalize (shr5 (cellv L xs (1 + nI (nW % 3))) (2 * (nI nW))) + (nI nW) = X
  obtain ⟨c, hc, ec⟩ := bl_n X (N := 30) (by omega) (by omega)
  obtain ⟨d, hd, ed⟩ := bl_n (shr5 X 2) (N := 20) (by omega) (by omega)
  have ec' : bl X 30 = nI c := ec
  have ed' : bl (shr5 X 2) 20 = nI d := ed
  have hV : ∃ V : Nat, (V = 21 ∨ V = 6) ∧ ∀ kk : Int32 → Option ((Nat → Nat → Int32) × Nat × (Nat → Nat → Int32)), (if bl (shr5 X 7) 2 = 0 then kk 21 else kk 6) = kk (nI V) := by
    by_cases z : bl (shr5 X 7) 2 = 0
    · exact ⟨21, Or.inl rfl, fun kk => if_pos z⟩
    · exact ⟨6, Or.inr rfl, fun kk => if_neg z⟩
  obtain ⟨V, hV, hV2⟩ := hV
  obtain ⟨row, x, y, wd, dp, wv, a5, a6, r1, r2, r3, r4, r5, r6, r7, r8, r9, r10, r11⟩ := y_row7 (τ := (Nat → Nat → Int32) × Nat × (Nat → Nat → Int32)) X (j := nW) hc hd hV
  rw [ec', ed', chkP_n (show ¬ 30 - nI c = 0 by rw [show (30 : Int32) = nI 30 from rfl, pk_sub (by omega)]; exact n_ne0 (by omega) (by omega)), chkP_n (show ¬ 20 - nI d = 0 by rw [show (20 : Int32) = nI 20 from rfl, pk_sub (by omega)]; exact n_ne0 (by omega) (by omega))]
  refine ex_jn hV2 ?_
  try dsimp only
  rw [chkP_n (n_ne0 (by omega) (by omega))]
  refine ex_jn r1 ?_
  try dsimp only
  have f0 : row 0 = nI x := r2 0 (by omega)
  have f1 : row 1 = nI y := r2 1 (by omega)
  have f2 : row 2 = nI wd := r2 2 (by omega)
  have f3 : row 3 = nI dp := r2 3 (by omega)
  have f4 : row 4 = a5 := r2 4 (by omega)
  have f5 : row 5 = a6 := r2 5 (by omega)
  have f6 : row 6 = nI wv := r2 6 (by omega)
  obtain ⟨S2, m2, κ2, g1, g2, g3, g4, g5, g6⟩ := lq_addWater hB (by omega) r3 r4 r5 r6 r7 r8 r9 r10 r11
  rw [rd0, rd1, rd2, rd3, rd4, rd5, rd6, f0, f1, f2, f3, f4, f5, f6, g1, bnd_n]
  dsimp only
  rw [if_pos rfl, chkP_n (fun i hi => hi), chkP_n (fun i hi => Nat.lt_succ_of_lt hi), chkP_n (by omega)]
  refine ⟨(S2, nW + 1, uF wF nW row), ⟨rfl, ⟨m2, κ2, g2⟩, fun v hv i hi => ?_, (congrFun g4 0).trans e6, (congrFun g5 0).trans e7, (congrFun g6 0).trans e10⟩, rfl⟩
  dsimp only at hv ⊢
  rw [g3]
  try dsimp only
  by_cases z : v = nW
  · rw [z, uF_a, if_pos ⟨by omega, by omega⟩, Nat.add_sub_cancel_left]
    exact r2 i hi
  · rw [uF_b z, if_neg (by omega)]
    exact hw v (by omega) i hi
/-- a barrel that has come -/
def BR (c d : Nat) (S b : Nat → Nat → Int32) (i : Nat) : Prop := b i 0 = S 12 i ∧ b i 1 = S 13 i ∧ b i 2 = S 14 i ∧ b i 3 = S 15 i ∧ b i 4 = S 16 i ∧ b i 5 = S 17 i ∧ b i 6 = S 19 i ∧ b i 7 = S 20 i ∧ b i 8 = S 21 i ∧ (S 16 i = 0 ∧ S 17 i = 0 ∧ S 19 i = 0 ∧ S 20 i = 0 ∧ S 21 i = 10) ∧ S 12 i = nI (i % 4 + 2 * c) ∧ S 13 i = nI (i / 4 + d) ∧ ∃ l, l ≤ 9 ∧ S 15 i = nI l
def B1 (n w : Nat) (c d : Nat) (S bF wF : Nat → Nat → Int32) : Prop := (∃ m κ, RelB S n 0 w m 10 κ) ∧ SW w (S 62) wF ∧ (S 6 0 = 0 ∧ S 7 0 = 0 ∧ S 10 0 = 0) ∧ ∀ i, i < n → BR c d S bF i
theorem b_barrels {w c d : Nat} {wF : Nat → Nat → Int32} (h : B0 w S wF) (hc : c < 2) (hd : d < 3) (ec : bl (shr5 (cellv L xs 4) 5) 2 = nI c) (ed : bl (shr5 (cellv L xs 4) 7) 3 = nI d) {N : Nat} (hN : N ≤ 12) : ∃ r, jL_build_L320 L xs N 0 S 0 (fun _ _ => 0) = some r ∧ (r.2.1 = N ∧ B1 N w c d r.1 r.2.2 wF) := by
  refine itN0 (s0 := (S, (0 : Nat), (fun _ _ => 0 : Nat → Nat → Int32))) (fun f j (s : (Nat → Nat → Int32) × Nat × (Nat → Nat → Int32)) => jL_build_L320 L xs f j s.1 s.2.1 s.2.2) N (fun j s => s.2.1 = j ∧ B1 j w c d s.1 s.2.2 wF) _ ⟨rfl, h.1, h.2.1, h.2.2, fun i hi => absurd hi (Nat.not_lt_zero i)⟩ (fun s hs => ⟨s, rfl, hs⟩) (fun f j s hj hs => ?_)
  obtain ⟨Sx, nB, bF⟩ := s
  obtain ⟨ej, ⟨m, κ, hB⟩, hw, ⟨e6, e7, e10⟩, hR⟩ := hs
  dsimp only at ej hB hw e6 e7 e10 hR ⊢
  subst ej
  rw [jL_build_L320, mod_n (d := 3) (x := 3) (by omega) (by omega) (by omega) rfl, chkP_n (show ¬ (5 + nI (nB % 3)) < 0 by rw [show (5 : Int32) = nI 5 from rfl, nI_add]; exact n_neg (by omega)), ec, ed, mod_n (d := 4) (x := 4) (by omega) (by omega) (by omega) rfl]
  generalize (shr5 (cellv L xs (5 + nI (nB % 3))) (nI nB)) + (7 * (nI nB)) = X
  obtain ⟨e, he, ee⟩ := bl_n X (N := 36) (by omega) (by omega)
  have ee' : bl X 36 = nI e := ee
  have hl : ∃ l : Nat, l ≤ 9 ∧ ∀ kk : Int32 → Option ((Nat → Nat → Int32) × Nat × (Nat → Nat → Int32)), (if bl (shr5 X 3) 3 = 0 then kk (bl (shr5 X 5) 10) else kk 0) = kk (nI l) := by
    by_cases z : bl (shr5 X 3) 3 = 0
    · obtain ⟨l, hl, el⟩ := bl_n (shr5 X 5) (N := 10) (by omega) (by omega)
      have el' : bl (shr5 X 5) 10 = nI l := el
      exact ⟨l, by omega, fun kk => by rw [if_pos z, el']⟩
    · exact ⟨0, by omega, fun kk => if_neg z⟩
  obtain ⟨l, hl9, hl⟩ := hl
  have k1 : nI (nB % 4) + 2 * nI c = nI (nB % 4 + 2 * c) := by rw [show (2 : Int32) = nI 2 from rfl, pk_mul, nI_add]
  have k2 : nI nB / 4 + nI d = nI (nB / 4 + d) := by rw [show (4 : Int32) = nI 4 from rfl, pk_div (by omega) (by omega) (by omega), nI_add]
  have k3 : (5 : Int32) + nI e = nI (5 + e) := by rw [show (5 : Int32) = nI 5 from rfl, nI_add]
  obtain ⟨S2, m2, κ2, g1, g2, g12, g13, g14, g15, g20, g21, gk⟩ := lq_addBarrel hB (show nB < 24 by omega) (a1 := nB % 4 + 2 * c) (a2 := nB / 4 + d) (a3 := 5 + e) (a4 := l) (by omega) (by omega) (by omega) (by omega) hl9 (fun i hi z => by
    obtain ⟨-, -, -, -, -, -, -, -, -, -, q1, q2, -⟩ := hR i hi
    have z1 := (nI_eq (by omega) (by omega)).mp (q1.symm.trans z.1)
    have z2 := (nI_eq (by omega) (by omega)).mp (q2.symm.trans z.2)
    omega) (fun i hi => by
    obtain ⟨-, -, -, -, -, -, -, -, -, ⟨-, -, q3, q4, q5⟩, -⟩ := hR i hi
    exact ⟨q3, q4, q5⟩)
  refine ex_jn hl ?_
  try dsimp only
  rw [ee', k1, k2, k3, g1, bnd_n]
  dsimp only
  rw [if_pos rfl, chkP_n (fun i hi => hi), chkP_n (fun i hi => Nat.lt_succ_of_lt hi), chkP_n (by omega)]
  have hz := hB.2.2.2.2.2.2.2.2.2.1 nB (Nat.le_refl _) (by omega)
  have z16 : Sx 16 nB = 0 := hz.1
  have z17 : Sx 17 nB = 0 := hz.2.1
  have z19 : Sx 19 nB = 0 := hz.2.2.2
  refine ⟨(S2, nB + 1, uF bF nB (wr (wr (wr (wr (wr (wr (wr (wr (wr (fun _ => 0) 0 (nI (nB % 4 + 2 * c))) 1 (nI (nB / 4 + d))) 2 (nI (5 + e))) 3 (nI l)) 4 0) 5 0) 6 0) 7 0) 8 10)), ⟨rfl, ⟨m2, κ2, g2⟩, by dsimp only; rw [gk 62 (by decide)]; exact hw, ⟨(congrFun (gk 6 (by decide)) 0).trans e6, (congrFun (gk 7 (by decide)) 0).trans e7, (congrFun (gk 10 (by decide)) 0).trans e10⟩, fun i hi => ?_⟩, rfl⟩
  unfold BR
  dsimp only at hi ⊢
  rw [g12, g13, g14, g15, g20, g21, gk 16 (by decide), gk 17 (by decide), gk 19 (by decide)]
  by_cases z : i = nB
  · rw [z, uF_a, upd_a, upd_a, upd_a, upd_a, upd_a, upd_a, wr0, wr1, wr2, wr3, wr4, wr5, wr6, wr7, wr8, z16, z17, z19]
    exact ⟨rfl, rfl, rfl, rfl, rfl, rfl, rfl, rfl, rfl, ⟨rfl, rfl, rfl, rfl, rfl⟩, rfl, rfl, l, hl9, rfl⟩
  · rw [uF_b z, upd_b z, upd_b z, upd_b z, upd_b z, upd_b z, upd_b z]
    exact hR i (by omega)
/-- with all barrels, ahead of the lashings -/
theorem IV_first {n w c d : Nat} {bF wF tF pF : Nat → Nat → Int32} {sg : Nat → Nat} (h : B1 n w c d S bF wF) : IV n 0 w 0 S 10 0 0 0 0 sg wF bF tF pF ∧ ∀ i, i < n → S 19 i = 0 := by
  obtain ⟨⟨m, κ, hB⟩, hw, ⟨e6, e7, e10⟩, hR⟩ := h
  have hm : m + 10 ≤ 10 := hB.2.2.1.2.2.2.2
  obtain rfl : m = 0 := by omega
  have hQ : QOK 0 (S 27) (S 28) (S 29) (S 30) κ (S 69) (S 70) := hB.2.2.2.2.2.2.2.1
  have no : ∀ q, q < 576 → ¬ 0 < S 69 q := fun q hq z => by
    obtain ⟨i, hi, -⟩ := hQ.2.1.2.2 q hq (decide_eq_true z)
    exact absurd hi (Nat.not_lt_zero i)
  refine ⟨⟨0, 10, κ, κ, hB, ⟨fun q hq z => absurd z (no q hq), fun j hj => ?_, fun c hc => absurd hc (Nat.not_lt_zero c)⟩, ⟨fun j hj => ?_, fun c hc => absurd hc (Nat.not_lt_zero c), ⟨by omega, hQ.2.1, fun i hi => absurd hi (Nat.not_lt_zero i)⟩, by omega, fun i hi => absurd hi (Nat.not_lt_zero i), fun j hj => ?_, fun c hc => absurd hc (Nat.not_lt_zero c)⟩, hw, ⟨rfl, e6.symm, e7.symm, e10⟩, fun j hj => ?_⟩, fun j hj => ?_⟩
  · obtain ⟨-, -, -, -, -, -, -, -, -, ⟨q1, q2, q3, q4, q5⟩, -, -, q8⟩ := hR j hj
    refine ⟨fun z => ?_, fun _ => q2, ⟨0, by omega, q1⟩, q8, Or.inl q3⟩
    rw [q3] at z
    exact absurd z (by decide)
  · obtain ⟨-, -, p2, p3, p4, p5, p6, p7, p8, -⟩ := hR j hj
    exact ⟨p2, p3, p4, p5, p6, p7, p8⟩
  · obtain ⟨-, -, -, -, -, -, -, -, -, ⟨q1, q2, q3, q4, q5⟩, -⟩ := hR j hj
    exact Or.inl q3
  · obtain ⟨p0, p1, -⟩ := hR j hj
    exact ⟨p0, p1⟩
  · obtain ⟨-, -, -, -, -, -, -, -, -, ⟨q1, q2, q3, q4, q5⟩, -⟩ := hR j hj
    exact q3
theorem bw_ties {n w : Nat} {bF wF tF pF : Nat → Nat → Int32} {sg : Nat → Nat} (hn0 : 0 < n) (h : IV n 0 w 0 S 10 0 0 0 0 sg wF bF tF pF) (hs : ∀ i, i < n → S 19 i = 0) {N : Nat} (hN : N ≤ 12) : ∃ r, jL_build_L526 L xs n bF N 0 S 10 0 sg 0 tF = some r ∧ (IV n 0 w 0 r.1 r.2.1 0 0 r.2.2.1 r.2.2.2.2.1 r.2.2.2.1 wF bF r.2.2.2.2.2 pF ∧ ∀ i, i < n → r.1 19 i = 0) := by
  refine itN0 (s0 := (S, (10 : Int32), (0 : Nat), sg, (0 : Nat), tF)) (fun f j (s : (Nat → Nat → Int32) × Int32 × Nat × (Nat → Nat) × Nat × (Nat → Nat → Int32)) => jL_build_L526 L xs n bF f j s.1 s.2.1 s.2.2.1 s.2.2.2.1 s.2.2.2.2.1 s.2.2.2.2.2) N (fun j r => IV n 0 w 0 r.1 r.2.1 0 0 r.2.2.1 r.2.2.2.2.1 r.2.2.2.1 wF bF r.2.2.2.2.2 pF ∧ ∀ i, i < n → r.1 19 i = 0) _ ⟨h, hs⟩ (fun s hs => ⟨s, rfl, hs⟩) (fun f j s hj hs => ?_)
  obtain ⟨Sx, ropes, nT, sgx, nR, tFx⟩ := s
  obtain ⟨h1, h2⟩ := hs
  dsimp only at h1 h2 ⊢
  obtain ⟨ropes', nT', nR', sg', tF', S', g1, g2, g3⟩ := tie_ok h1 hn0 ((shr5 (cellv L xs (9 + ((nI j) - (nI j) / 3 * 3))) (nI j)) + (5 * (nI j)))
  refine ⟨(S', ropes', nT', sg', nR', tF'), ⟨g2, fun i hi => (g3 i hi).trans (h2 i hi)⟩, ?_⟩
  rw [jL_build_L526, chkP_n (show ¬ (9 + (nI j - nI j / 3 * 3)) < 0 by rw [mod_n (d := 3) (x := 3) (by omega) (by omega) (by omega) rfl, show (9 : Int32) = nI 9 from rfl, nI_add]; exact n_neg (by omega)), g1, bnd_n]
  dsimp only
  rw [if_neg one_ne]
theorem IV_crew {n k w t nT nR b : Nat} {ropes wx wy : Int32} {sg : Nat → Nat} {wF bF tF pF : Nat → Nat → Int32} (h : IV n k w t S ropes wx wy nT nR sg wF bF tF pF) (hk8 : k < 8) (hb : b < n) (h0 : S 19 b = 0) : ∃ S2, op_addCastaway S (nI b) = some (nI k, S2) ∧ IV n (k + 1) w t S2 ropes wx wy nT nR sg wF bF tF (uF pF k (wr (wr (fun _ => 0) 0 (nI b)) 1 0)) ∧ ∀ i, i < n → S2 19 i = S 19 i := by
  obtain ⟨m, r, κ, κs, hB, hX, hM, hw, ⟨e1, e2, e3, e4⟩, hCo⟩ := h
  have hn : n ≤ 24 := hB.2.2.2.1.1
  obtain ⟨S2, m2, κ2, g1, g2, g24, g25, gk⟩ := lq_addCastaway hB hk8 hb h0
  refine ⟨S2, g1, ⟨m2, r, κ2, κs, g2, ⟨?_, ?_, fun c hc => ?_⟩, ⟨?_, fun c hc => ?_, ?_, hM.2.2.2.1, hM.2.2.2.2.1, ?_, fun c hc => ?_⟩, ?_, ⟨e1, ?_, ?_, ?_⟩, ?_⟩, fun i _ => by rw [gk 19 (by decide)]⟩
  · rw [gk 69 (by decide), gk 70 (by decide)]; exact hX.1
  · rw [gk 19 (by decide), gk 20 (by decide), gk 17 (by decide), gk 16 (by decide), gk 15 (by decide)]; exact hX.2.1
  · rw [g24, g25]
    by_cases z : c = k
    · rw [z, upd_a, upd_a]
      exact ⟨fun y => absurd y (n_m1 (by omega)), Or.inl rfl⟩
    · rw [upd_b z, upd_b z]
      exact hX.2.2 c (by omega)
  · show ∀ j, j < n → _ = S2 14 j ∧ _ = S2 15 j ∧ _ = S2 16 j ∧ _ = S2 17 j ∧ _ = S2 19 j ∧ _ = S2 20 j ∧ _ = S2 21 j
    rw [gk 14 (by decide), gk 15 (by decide), gk 16 (by decide), gk 17 (by decide), gk 19 (by decide), gk 20 (by decide), gk 21 (by decide)]; exact hM.1
  · show _ = S2 24 c ∧ _ = S2 25 c
    rw [g24, g25]
    by_cases z : c = k
    · rw [z, uF_a, upd_a, upd_a, wr0, wr1]
      exact ⟨(upd_b (by decide)).trans upd_a, upd_a⟩
    · rw [uF_b z, upd_b z, upd_b z]
      exact hM.2.1 c (by omega)
  · show QOK nT _ _ _ _ κs (S2 69) (S2 70)
    rw [gk 69 (by decide), gk 70 (by decide)]; exact hM.2.2.1
  · show ∀ j, j < n → S2 19 j = 0 ∨ S2 19 j = 1 ∨ S2 19 j = 2
    rw [gk 19 (by decide)]; exact hM.2.2.2.2.2.1
  · show S2 25 c = 0 ∨ S2 25 c = 1 ∨ S2 25 c = 2
    rw [g25]
    by_cases z : c = k
    · rw [z, upd_a]; exact Or.inl rfl
    · rw [upd_b z]; exact hM.2.2.2.2.2.2 c (by omega)
  · rw [gk 62 (by decide)]; exact hw
  · rw [gk 6 (by decide)]; exact e2
  · rw [gk 7 (by decide)]; exact e3
  · rw [gk 10 (by decide)]; exact e4
  · unfold CO
    rw [gk 12 (by decide), gk 13 (by decide)]; exact hCo
theorem bw_crew {n w t nT nR : Nat} {ropes wx wy : Int32} {sg : Nat → Nat} {wF bF tF : Nat → Nat → Int32} (hn0 : 0 < n) (h : IV n 0 w t S ropes wx wy nT nR sg wF bF tF (fun _ _ => 0)) (hs : ∀ i, i < n → S 19 i = 0) {N : Nat} (hN : N ≤ 8) : ∃ r, jL_build_L583 n L xs N 0 S 0 (fun _ _ => 0) = some r ∧ (r.2.1 = N ∧ IV n N w t r.1 ropes wx wy nT nR sg wF bF tF r.2.2) := by
  obtain ⟨m, r, κ, κs, hB0, -⟩ := id h
  have hn24 : n ≤ 24 := hB0.2.2.2.1.1
  have key : ∃ r, jL_build_L583 n L xs N 0 S 0 (fun _ _ => 0) = some r ∧ (r.2.1 = N ∧ IV n N w t r.1 ropes wx wy nT nR sg wF bF tF r.2.2 ∧ ∀ i, i < n → r.1 19 i = 0) := by
    refine itN0 (s0 := (S, (0 : Nat), (fun _ _ => 0 : Nat → Nat → Int32))) (fun f j (s : (Nat → Nat → Int32) × Nat × (Nat → Nat → Int32)) => jL_build_L583 n L xs f j s.1 s.2.1 s.2.2) N (fun j s => s.2.1 = j ∧ IV n j w t s.1 ropes wx wy nT nR sg wF bF tF s.2.2 ∧ ∀ i, i < n → s.1 19 i = 0) _ ⟨rfl, h, hs⟩ (fun s hs => ⟨s, rfl, hs⟩) (fun f j s hj hs => ?_)
    obtain ⟨Sx, nP, pF⟩ := s
    obtain ⟨ej, h1, h2⟩ := hs
    dsimp only at ej h1 h2 ⊢
    subst ej
    obtain ⟨b, hb, eb⟩ := bl_n (shr5 (cellv L xs 13) (3 * (nI nP))) hn0 (by omega)
    obtain ⟨S2, g1, g2, g3⟩ := IV_crew h1 (by omega) hb (h2 b hb)
    refine ⟨(S2, nP + 1, uF pF nP (wr (wr (fun _ => 0) 0 (nI b)) 1 0)), ⟨rfl, g2, fun i hi => (g3 i hi).trans (h2 i hi)⟩, ?_⟩
    rw [jL_build_L583, chkP_n (n_ne0 hn0 (by omega)), eb, g1, bnd_n]
    dsimp only
    rw [if_pos rfl, chkP_n (fun i hi => hi), chkP_n (fun i hi => Nat.lt_succ_of_lt hi), chkP_n (by omega)]
  obtain ⟨r, k1, k2, k3, -⟩ := key
  exact ⟨r, k1, k2, k3⟩
theorem build_ok (h : B0 0 S (fun _ _ => 0)) : ∃ ropes W N nT P nR sg wF bF tF pF S', jL_build L xs S 12 = some (ropes, W, N, nT, P, W, N, nR, P, sg, wF, bF, tF, pF, S') ∧ IV N P W 0 S' ropes 0 0 nT nR sg wF bF tF pF ∧ 0 < N ∧ N ≤ 12 := by
  obtain ⟨W, hW, eW⟩ := bl_n (cellv L xs 0) (N := 6) (by omega) (by omega)
  obtain ⟨N, hN, eN⟩ := bl_n (cellv L xs 4) (N := 11) (by omega) (by omega)
  obtain ⟨T, hT, eT⟩ := bl_n (cellv L xs 8) (N := 10) (by omega) (by omega)
  obtain ⟨P, hP, eP⟩ := bl_n (cellv L xs 12) (N := 5) (by omega) (by omega)
  obtain ⟨c, hc, ec⟩ := bl_n (shr5 (cellv L xs 4) 5) (N := 2) (by omega) (by omega)
  obtain ⟨d, hd, ed⟩ := bl_n (shr5 (cellv L xs 4) 7) (N := 3) (by omega) (by omega)
  have eW' : bl (cellv L xs 0) 6 = nI W := eW
  have eN' : bl (cellv L xs 4) (12 - 1) = nI N := eN
  have eT' : bl (cellv L xs 8) 10 = nI T := eT
  have eP' : bl (cellv L xs 12) 5 = nI P := eP
  have p2 : (2 : Int32) + nI N = nI (2 + N) := by rw [show (2 : Int32) = nI 2 from rfl, nI_add]
  have p1 : (1 : Int32) + nI T = nI (1 + T) := by rw [show (1 : Int32) = nI 1 from rfl, nI_add]
  obtain ⟨⟨S1, W1, wF⟩, g1, g2, g3⟩ := b_waters (L := L) (xs := xs) h (N := W) (by omega)
  dsimp only at g2 g3
  subst g2
  obtain ⟨⟨S2, N1, bF⟩, f1, f2, f3⟩ := b_barrels (L := L) (xs := xs) g3 hc hd ec ed (N := 2 + N) (by omega)
  dsimp only at f2 f3
  subst f2
  obtain ⟨i1, i2⟩ := IV_first (sg := fun _ => 0) (tF := fun _ _ => 0) (pF := fun _ _ => 0) f3
  obtain ⟨⟨S3, ropes, nT, sg, nR, tF⟩, t1, t2, t3⟩ := bw_ties (L := L) (xs := xs) (by omega) i1 i2 (N := 1 + T) (by omega)
  dsimp only at t2 t3
  obtain ⟨⟨S4, P1, pF⟩, c1, c2, c3⟩ := bw_crew (L := L) (xs := xs) (by omega) t2 t3 (N := P) (by omega)
  dsimp only at c2 c3
  subst c2
  refine ⟨ropes, W1, 2 + N, nT, P1, nR, sg, wF, bF, tF, pF, S4, ?_, c3, by omega, by omega⟩
  unfold jL_build
  rw [eW', eN', eT', eP', p2, p1, chkP_n (n_neg (by omega)), clamp_n (j := W1) (by omega), chkP_n (show W1 ≤ 12 by omega), g1, bnd_n]
  dsimp only
  rw [chkP_n (show ¬ (12 : Int32) - 1 = 0 by decide), chkP_n (n_neg (by omega)), clamp_n (j := 2 + N) (by omega), chkP_n (show 2 + N ≤ 12 by omega), f1, bnd_n]
  dsimp only
  rw [chkP_n (n_neg (by omega)), clamp_n (j := 1 + T) (by omega), chkP_n (show 1 + T ≤ 12 by omega), t1, bnd_n]
  dsimp only
  rw [chkP_n (n_neg (by omega)), clamp_n (j := P1) (by omega), chkP_n (show P1 ≤ 12 by omega), c1, bnd_n]
/-- the law holds -/
theorem law_ok (h : B0 0 S (fun _ _ => 0)) : jL_law L xs S = some () := by
  obtain ⟨ropes, W, N, nT, P, nR, sg, wF, bF, tF, pF, S', g1, g2, g3, g4⟩ := build_ok (L := L) (xs := xs) h
  obtain ⟨r, hr⟩ := law_hours (L := L) (xs := xs) g3 g4 40 0 S' 0 ropes 0 0 0 nT sg bF nR tF pF rfl g2
  unfold jL_law
  rw [g1, bnd_n]
  dsimp only
  rw [chkP_n (by decide), hr, bnd_n]
end Build
